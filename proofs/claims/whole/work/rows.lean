section
-- ===== PART A: goes FIRST, ahead of the names: the tables' words, and 'selects' of the private methods out of them =====
/-- a private method of a class that the tables say can be made, by its rows of tables_1 -/
def lw_okq (q : MethodName × Nat) : Prop := (q.1.cls ≠ "java/lang/invoke/MethodHandle" ∧ q.1.cls ≠ "java/lang/invoke/VarHandle") ∧ Cond.instantiable q.1.cls q.2 ∈ tables_1 ∧ Cond.privateMethod q.1 ∈ tables_1 ∧ Cond.instanceMethod q.1 ∈ tables_1
theorem lw_p0 : lw_okq (⟨"SeenLand", "tell", "(I)I"⟩, 9) := ⟨⟨by decide +kernel, by decide +kernel⟩, List.mem_of_getElem? (i := 15) (by decide +kernel), List.mem_of_getElem? (i := 180) (by decide +kernel), List.mem_of_getElem? (i := 181) (by decide +kernel)⟩
theorem lw_p1 : lw_okq (⟨"SeenLand$Land", "raiseTo", "(II)V"⟩, 13) := ⟨⟨by decide +kernel, by decide +kernel⟩, List.mem_of_getElem? (i := 23) (by decide +kernel), List.mem_of_getElem? (i := 185) (by decide +kernel), List.mem_of_getElem? (i := 186) (by decide +kernel)⟩
theorem lw_p2 : lw_okq (⟨"SeenLand$Land", "renewTop", "(I)V"⟩, 13) := ⟨⟨by decide +kernel, by decide +kernel⟩, List.mem_of_getElem? (i := 23) (by decide +kernel), List.mem_of_getElem? (i := 189) (by decide +kernel), List.mem_of_getElem? (i := 190) (by decide +kernel)⟩
theorem lw_p3 : lw_okq (⟨"SeenLand$Land", "ageTo", "(II)V"⟩, 13) := ⟨⟨by decide +kernel, by decide +kernel⟩, List.mem_of_getElem? (i := 23) (by decide +kernel), List.mem_of_getElem? (i := 199) (by decide +kernel), List.mem_of_getElem? (i := 200) (by decide +kernel)⟩
theorem lw_p4 : lw_okq (⟨"SeenLand$Land", "place", "(II)V"⟩, 13) := ⟨⟨by decide +kernel, by decide +kernel⟩, List.mem_of_getElem? (i := 23) (by decide +kernel), List.mem_of_getElem? (i := 210) (by decide +kernel), List.mem_of_getElem? (i := 211) (by decide +kernel)⟩
theorem lw_p5 : lw_okq (⟨"SeenLand$Land", "worthOf", "(I)I"⟩, 13) := ⟨⟨by decide +kernel, by decide +kernel⟩, List.mem_of_getElem? (i := 23) (by decide +kernel), List.mem_of_getElem? (i := 218) (by decide +kernel), List.mem_of_getElem? (i := 219) (by decide +kernel)⟩
theorem lw_p6 : lw_okq (⟨"SeenLand$Land", "isBuiltUp", "()Z"⟩, 13) := ⟨⟨by decide +kernel, by decide +kernel⟩, List.mem_of_getElem? (i := 23) (by decide +kernel), List.mem_of_getElem? (i := 231) (by decide +kernel), List.mem_of_getElem? (i := 232) (by decide +kernel)⟩
theorem lw_p7 : lw_okq (⟨"SeenLand$Land", "build", "(III)V"⟩, 13) := ⟨⟨by decide +kernel, by decide +kernel⟩, List.mem_of_getElem? (i := 23) (by decide +kernel), List.mem_of_getElem? (i := 235) (by decide +kernel), List.mem_of_getElem? (i := 236) (by decide +kernel)⟩
theorem lw_p8 : lw_okq (⟨"SeenLand", "isHouse", "(I)Z"⟩, 9) := ⟨⟨by decide +kernel, by decide +kernel⟩, List.mem_of_getElem? (i := 15) (by decide +kernel), List.mem_of_getElem? (i := 243) (by decide +kernel), List.mem_of_getElem? (i := 244) (by decide +kernel)⟩
theorem lw_p9 : lw_okq (⟨"SeenLand$Land", "eyeOf", "(I)I"⟩, 13) := ⟨⟨by decide +kernel, by decide +kernel⟩, List.mem_of_getElem? (i := 23) (by decide +kernel), List.mem_of_getElem? (i := 247) (by decide +kernel), List.mem_of_getElem? (i := 248) (by decide +kernel)⟩
theorem lw_p10 : lw_okq (⟨"SeenLand$Land", "lower", "(II)V"⟩, 13) := ⟨⟨by decide +kernel, by decide +kernel⟩, List.mem_of_getElem? (i := 23) (by decide +kernel), List.mem_of_getElem? (i := 267) (by decide +kernel), List.mem_of_getElem? (i := 268) (by decide +kernel)⟩
theorem lw_p11 : lw_okq (⟨"SeenLand$Land", "turnInto", "(II)V"⟩, 13) := ⟨⟨by decide +kernel, by decide +kernel⟩, List.mem_of_getElem? (i := 23) (by decide +kernel), List.mem_of_getElem? (i := 279) (by decide +kernel), List.mem_of_getElem? (i := 280) (by decide +kernel)⟩
theorem lw_p12 : lw_okq (⟨"SeenLand$Land", "sightOf", "(I)I"⟩, 13) := ⟨⟨by decide +kernel, by decide +kernel⟩, List.mem_of_getElem? (i := 23) (by decide +kernel), List.mem_of_getElem? (i := 287) (by decide +kernel), List.mem_of_getElem? (i := 288) (by decide +kernel)⟩
theorem lw_p13 : lw_okq (⟨"SeenLand$Land", "lookOut", "(II)I"⟩, 13) := ⟨⟨by decide +kernel, by decide +kernel⟩, List.mem_of_getElem? (i := 23) (by decide +kernel), List.mem_of_getElem? (i := 291) (by decide +kernel), List.mem_of_getElem? (i := 292) (by decide +kernel)⟩
theorem lw_p14 : lw_okq (⟨"SeenLand$Land", "hasInSight", "(II)Z"⟩, 13) := ⟨⟨by decide +kernel, by decide +kernel⟩, List.mem_of_getElem? (i := 23) (by decide +kernel), List.mem_of_getElem? (i := 300) (by decide +kernel), List.mem_of_getElem? (i := 301) (by decide +kernel)⟩
theorem lw_p15 : lw_okq (⟨"SeenLand$Land", "looksTowards", "(II)Z"⟩, 13) := ⟨⟨by decide +kernel, by decide +kernel⟩, List.mem_of_getElem? (i := 23) (by decide +kernel), List.mem_of_getElem? (i := 321) (by decide +kernel), List.mem_of_getElem? (i := 322) (by decide +kernel)⟩
def lw_privs_1 : List (MethodName × Nat) := [(⟨"SeenLand", "tell", "(I)I"⟩, 9), (⟨"SeenLand$Land", "raiseTo", "(II)V"⟩, 13), (⟨"SeenLand$Land", "renewTop", "(I)V"⟩, 13), (⟨"SeenLand$Land", "ageTo", "(II)V"⟩, 13), (⟨"SeenLand$Land", "place", "(II)V"⟩, 13), (⟨"SeenLand$Land", "worthOf", "(I)I"⟩, 13), (⟨"SeenLand$Land", "isBuiltUp", "()Z"⟩, 13), (⟨"SeenLand$Land", "build", "(III)V"⟩, 13), (⟨"SeenLand", "isHouse", "(I)Z"⟩, 9), (⟨"SeenLand$Land", "eyeOf", "(I)I"⟩, 13), (⟨"SeenLand$Land", "lower", "(II)V"⟩, 13), (⟨"SeenLand$Land", "turnInto", "(II)V"⟩, 13), (⟨"SeenLand$Land", "sightOf", "(I)I"⟩, 13), (⟨"SeenLand$Land", "lookOut", "(II)I"⟩, 13), (⟨"SeenLand$Land", "hasInSight", "(II)Z"⟩, 13), (⟨"SeenLand$Land", "looksTowards", "(II)Z"⟩, 13)]
theorem lw_r1 : ∀ q ∈ lw_privs_1, lw_okq q := List.forall_mem_cons.mpr ⟨lw_p0, List.forall_mem_cons.mpr ⟨lw_p1, List.forall_mem_cons.mpr ⟨lw_p2, List.forall_mem_cons.mpr ⟨lw_p3, List.forall_mem_cons.mpr ⟨lw_p4, List.forall_mem_cons.mpr ⟨lw_p5, List.forall_mem_cons.mpr ⟨lw_p6, List.forall_mem_cons.mpr ⟨lw_p7, List.forall_mem_cons.mpr ⟨lw_p8, List.forall_mem_cons.mpr ⟨lw_p9, List.forall_mem_cons.mpr ⟨lw_p10, List.forall_mem_cons.mpr ⟨lw_p11, List.forall_mem_cons.mpr ⟨lw_p12, List.forall_mem_cons.mpr ⟨lw_p13, List.forall_mem_cons.mpr ⟨lw_p14, List.forall_mem_cons.mpr ⟨lw_p15, fun _ h => absurd h List.not_mem_nil⟩⟩⟩⟩⟩⟩⟩⟩⟩⟩⟩⟩⟩⟩⟩⟩
theorem lw_p16 : lw_okq (⟨"SeenLand$Land", "hiderOf", "(II)I"⟩, 13) := ⟨⟨by decide +kernel, by decide +kernel⟩, List.mem_of_getElem? (i := 23) (by decide +kernel), List.mem_of_getElem? (i := 328) (by decide +kernel), List.mem_of_getElem? (i := 329) (by decide +kernel)⟩
theorem lw_p17 : lw_okq (⟨"SeenLand$Land", "taxOf", "(I)I"⟩, 13) := ⟨⟨by decide +kernel, by decide +kernel⟩, List.mem_of_getElem? (i := 23) (by decide +kernel), List.mem_of_getElem? (i := 336) (by decide +kernel), List.mem_of_getElem? (i := 337) (by decide +kernel)⟩
theorem lw_p18 : lw_okq (⟨"SeenLand$Land", "worthSeenBy", "(I)I"⟩, 13) := ⟨⟨by decide +kernel, by decide +kernel⟩, List.mem_of_getElem? (i := 23) (by decide +kernel), List.mem_of_getElem? (i := 340) (by decide +kernel), List.mem_of_getElem? (i := 341) (by decide +kernel)⟩
theorem lw_p19 : lw_okq (⟨"SeenLand$Land", "allTax", "()I"⟩, 13) := ⟨⟨by decide +kernel, by decide +kernel⟩, List.mem_of_getElem? (i := 23) (by decide +kernel), List.mem_of_getElem? (i := 352) (by decide +kernel), List.mem_of_getElem? (i := 353) (by decide +kernel)⟩
theorem lw_p20 : lw_okq (⟨"SeenLand", "thriftyFloor", "(I)I"⟩, 9) := ⟨⟨by decide +kernel, by decide +kernel⟩, List.mem_of_getElem? (i := 15) (by decide +kernel), List.mem_of_getElem? (i := 361) (by decide +kernel), List.mem_of_getElem? (i := 362) (by decide +kernel)⟩
theorem lw_p21 : lw_okq (⟨"SeenLand$Land", "takeAll", "(LSeenLand$Land;)V"⟩, 13) := ⟨⟨by decide +kernel, by decide +kernel⟩, List.mem_of_getElem? (i := 23) (by decide +kernel), List.mem_of_getElem? (i := 365) (by decide +kernel), List.mem_of_getElem? (i := 366) (by decide +kernel)⟩
theorem lw_p22 : lw_okq (⟨"SeenLand", "isTooLate", "(I)Z"⟩, 9) := ⟨⟨by decide +kernel, by decide +kernel⟩, List.mem_of_getElem? (i := 15) (by decide +kernel), List.mem_of_getElem? (i := 403) (by decide +kernel), List.mem_of_getElem? (i := 404) (by decide +kernel)⟩
theorem lw_p23 : lw_okq (⟨"SeenLand", "tryThing", "(III)V"⟩, 9) := ⟨⟨by decide +kernel, by decide +kernel⟩, List.mem_of_getElem? (i := 15) (by decide +kernel), List.mem_of_getElem? (i := 407) (by decide +kernel), List.mem_of_getElem? (i := 408) (by decide +kernel)⟩
theorem lw_p24 : lw_okq (⟨"SeenLand$Land", "grow", "(I)V"⟩, 13) := ⟨⟨by decide +kernel, by decide +kernel⟩, List.mem_of_getElem? (i := 23) (by decide +kernel), List.mem_of_getElem? (i := 411) (by decide +kernel), List.mem_of_getElem? (i := 412) (by decide +kernel)⟩
theorem lw_p25 : lw_okq (⟨"SeenLand", "tryYears", "(I)V"⟩, 9) := ⟨⟨by decide +kernel, by decide +kernel⟩, List.mem_of_getElem? (i := 15) (by decide +kernel), List.mem_of_getElem? (i := 420) (by decide +kernel), List.mem_of_getElem? (i := 421) (by decide +kernel)⟩
theorem lw_p26 : lw_okq (⟨"SeenLand$Land", "takeCell", "(LSeenLand$Land;I)V"⟩, 13) := ⟨⟨by decide +kernel, by decide +kernel⟩, List.mem_of_getElem? (i := 23) (by decide +kernel), List.mem_of_getElem? (i := 432) (by decide +kernel), List.mem_of_getElem? (i := 433) (by decide +kernel)⟩
theorem lw_p27 : lw_okq (⟨"SeenLand", "sightsOf", "(I)I"⟩, 9) := ⟨⟨by decide +kernel, by decide +kernel⟩, List.mem_of_getElem? (i := 15) (by decide +kernel), List.mem_of_getElem? (i := 444) (by decide +kernel), List.mem_of_getElem? (i := 445) (by decide +kernel)⟩
theorem lw_p28 : lw_okq (⟨"SeenLand$Land", "allSight", "()I"⟩, 13) := ⟨⟨by decide +kernel, by decide +kernel⟩, List.mem_of_getElem? (i := 23) (by decide +kernel), List.mem_of_getElem? (i := 453) (by decide +kernel), List.mem_of_getElem? (i := 454) (by decide +kernel)⟩
theorem lw_p29 : lw_okq (⟨"SeenLand$Land", "draw", "()I"⟩, 13) := ⟨⟨by decide +kernel, by decide +kernel⟩, List.mem_of_getElem? (i := 23) (by decide +kernel), List.mem_of_getElem? (i := 489) (by decide +kernel), List.mem_of_getElem? (i := 490) (by decide +kernel)⟩
theorem lw_p30 : lw_okq (⟨"SeenLand$Tape", "hasRoomFor", "(I)Z"⟩, 6) := ⟨⟨by decide +kernel, by decide +kernel⟩, List.mem_of_getElem? (i := 85) (by decide +kernel), List.mem_of_getElem? (i := 502) (by decide +kernel), List.mem_of_getElem? (i := 503) (by decide +kernel)⟩
theorem lw_p31 : lw_okq (⟨"SeenLand$Tape", "append", "(I)V"⟩, 6) := ⟨⟨by decide +kernel, by decide +kernel⟩, List.mem_of_getElem? (i := 85) (by decide +kernel), List.mem_of_getElem? (i := 506) (by decide +kernel), List.mem_of_getElem? (i := 507) (by decide +kernel)⟩
def lw_privs_2 : List (MethodName × Nat) := [(⟨"SeenLand$Land", "hiderOf", "(II)I"⟩, 13), (⟨"SeenLand$Land", "taxOf", "(I)I"⟩, 13), (⟨"SeenLand$Land", "worthSeenBy", "(I)I"⟩, 13), (⟨"SeenLand$Land", "allTax", "()I"⟩, 13), (⟨"SeenLand", "thriftyFloor", "(I)I"⟩, 9), (⟨"SeenLand$Land", "takeAll", "(LSeenLand$Land;)V"⟩, 13), (⟨"SeenLand", "isTooLate", "(I)Z"⟩, 9), (⟨"SeenLand", "tryThing", "(III)V"⟩, 9), (⟨"SeenLand$Land", "grow", "(I)V"⟩, 13), (⟨"SeenLand", "tryYears", "(I)V"⟩, 9), (⟨"SeenLand$Land", "takeCell", "(LSeenLand$Land;I)V"⟩, 13), (⟨"SeenLand", "sightsOf", "(I)I"⟩, 9), (⟨"SeenLand$Land", "allSight", "()I"⟩, 13), (⟨"SeenLand$Land", "draw", "()I"⟩, 13), (⟨"SeenLand$Tape", "hasRoomFor", "(I)Z"⟩, 6), (⟨"SeenLand$Tape", "append", "(I)V"⟩, 6)]
theorem lw_r2 : ∀ q ∈ lw_privs_2, lw_okq q := List.forall_mem_cons.mpr ⟨lw_p16, List.forall_mem_cons.mpr ⟨lw_p17, List.forall_mem_cons.mpr ⟨lw_p18, List.forall_mem_cons.mpr ⟨lw_p19, List.forall_mem_cons.mpr ⟨lw_p20, List.forall_mem_cons.mpr ⟨lw_p21, List.forall_mem_cons.mpr ⟨lw_p22, List.forall_mem_cons.mpr ⟨lw_p23, List.forall_mem_cons.mpr ⟨lw_p24, List.forall_mem_cons.mpr ⟨lw_p25, List.forall_mem_cons.mpr ⟨lw_p26, List.forall_mem_cons.mpr ⟨lw_p27, List.forall_mem_cons.mpr ⟨lw_p28, List.forall_mem_cons.mpr ⟨lw_p29, List.forall_mem_cons.mpr ⟨lw_p30, List.forall_mem_cons.mpr ⟨lw_p31, fun _ h => absurd h List.not_mem_nil⟩⟩⟩⟩⟩⟩⟩⟩⟩⟩⟩⟩⟩⟩⟩⟩
theorem lw_p32 : lw_okq (⟨"SeenLand$TextReader", "readInto", "(LSeenLand$Land;)I"⟩, 1) := ⟨⟨by decide +kernel, by decide +kernel⟩, List.mem_of_getElem? (i := 114) (by decide +kernel), List.mem_of_getElem? (i := 518) (by decide +kernel), List.mem_of_getElem? (i := 519) (by decide +kernel)⟩
theorem lw_p33 : lw_okq (⟨"SeenLand$Tape", "rewind", "()V"⟩, 6) := ⟨⟨by decide +kernel, by decide +kernel⟩, List.mem_of_getElem? (i := 85) (by decide +kernel), List.mem_of_getElem? (i := 522) (by decide +kernel), List.mem_of_getElem? (i := 523) (by decide +kernel)⟩
theorem lw_p34 : lw_okq (⟨"SeenLand$Tape", "step", "()V"⟩, 6) := ⟨⟨by decide +kernel, by decide +kernel⟩, List.mem_of_getElem? (i := 85) (by decide +kernel), List.mem_of_getElem? (i := 526) (by decide +kernel), List.mem_of_getElem? (i := 527) (by decide +kernel)⟩
theorem lw_p35 : lw_okq (⟨"SeenLand$Tape", "sortAt", "(I)I"⟩, 6) := ⟨⟨by decide +kernel, by decide +kernel⟩, List.mem_of_getElem? (i := 85) (by decide +kernel), List.mem_of_getElem? (i := 530) (by decide +kernel), List.mem_of_getElem? (i := 531) (by decide +kernel)⟩
theorem lw_p36 : lw_okq (⟨"SeenLand$Tape", "takeDigit", "(I)V"⟩, 6) := ⟨⟨by decide +kernel, by decide +kernel⟩, List.mem_of_getElem? (i := 85) (by decide +kernel), List.mem_of_getElem? (i := 534) (by decide +kernel), List.mem_of_getElem? (i := 535) (by decide +kernel)⟩
theorem lw_p37 : lw_okq (⟨"SeenLand$TextReader", "readItem", "(LSeenLand$Land;)Z"⟩, 1) := ⟨⟨by decide +kernel, by decide +kernel⟩, List.mem_of_getElem? (i := 114) (by decide +kernel), List.mem_of_getElem? (i := 538) (by decide +kernel), List.mem_of_getElem? (i := 539) (by decide +kernel)⟩
theorem lw_p38 : lw_okq (⟨"SeenLand$Tape", "isWord", "(Ljava/lang/String;)Z"⟩, 6) := ⟨⟨by decide +kernel, by decide +kernel⟩, List.mem_of_getElem? (i := 85) (by decide +kernel), List.mem_of_getElem? (i := 543) (by decide +kernel), List.mem_of_getElem? (i := 544) (by decide +kernel)⟩
theorem lw_p39 : lw_okq (⟨"SeenLand$TextReader", "readHouse", "(LSeenLand$Land;)Z"⟩, 1) := ⟨⟨by decide +kernel, by decide +kernel⟩, List.mem_of_getElem? (i := 114) (by decide +kernel), List.mem_of_getElem? (i := 596) (by decide +kernel), List.mem_of_getElem? (i := 597) (by decide +kernel)⟩
theorem lw_p40 : lw_okq (⟨"SeenLand$TextReader", "readNumber", "(II)I"⟩, 1) := ⟨⟨by decide +kernel, by decide +kernel⟩, List.mem_of_getElem? (i := 114) (by decide +kernel), List.mem_of_getElem? (i := 601) (by decide +kernel), List.mem_of_getElem? (i := 602) (by decide +kernel)⟩
theorem lw_p41 : lw_okq (⟨"SeenLand$TextReader", "passes", "(Ljava/lang/String;)Z"⟩, 1) := ⟨⟨by decide +kernel, by decide +kernel⟩, List.mem_of_getElem? (i := 114) (by decide +kernel), List.mem_of_getElem? (i := 606) (by decide +kernel), List.mem_of_getElem? (i := 607) (by decide +kernel)⟩
theorem lw_p42 : lw_okq (⟨"SeenLand$TextReader", "readHaze", "(LSeenLand$Land;)Z"⟩, 1) := ⟨⟨by decide +kernel, by decide +kernel⟩, List.mem_of_getElem? (i := 114) (by decide +kernel), List.mem_of_getElem? (i := 615) (by decide +kernel), List.mem_of_getElem? (i := 616) (by decide +kernel)⟩
theorem lw_p43 : lw_okq (⟨"SeenLand$TextReader", "readRate", "(LSeenLand$Land;)Z"⟩, 1) := ⟨⟨by decide +kernel, by decide +kernel⟩, List.mem_of_getElem? (i := 114) (by decide +kernel), List.mem_of_getElem? (i := 620) (by decide +kernel), List.mem_of_getElem? (i := 621) (by decide +kernel)⟩
theorem lw_p44 : lw_okq (⟨"SeenLand$TextReader", "readKind", "()I"⟩, 1) := ⟨⟨by decide +kernel, by decide +kernel⟩, List.mem_of_getElem? (i := 114) (by decide +kernel), List.mem_of_getElem? (i := 624) (by decide +kernel), List.mem_of_getElem? (i := 625) (by decide +kernel)⟩
theorem lw_p45 : lw_okq (⟨"SeenLand$TextReader", "readThing", "(LSeenLand$Land;I)Z"⟩, 1) := ⟨⟨by decide +kernel, by decide +kernel⟩, List.mem_of_getElem? (i := 114) (by decide +kernel), List.mem_of_getElem? (i := 635) (by decide +kernel), List.mem_of_getElem? (i := 636) (by decide +kernel)⟩
theorem lw_p46 : lw_okq (⟨"SeenLand$TextReader", "faultHere", "()I"⟩, 1) := ⟨⟨by decide +kernel, by decide +kernel⟩, List.mem_of_getElem? (i := 114) (by decide +kernel), List.mem_of_getElem? (i := 645) (by decide +kernel), List.mem_of_getElem? (i := 646) (by decide +kernel)⟩
theorem lw_p47 : lw_okq (⟨"SeenLand$Sheets", "make", "(III)V"⟩, 3) := ⟨⟨by decide +kernel, by decide +kernel⟩, List.mem_of_getElem? (i := 124) (by decide +kernel), List.mem_of_getElem? (i := 673) (by decide +kernel), List.mem_of_getElem? (i := 674) (by decide +kernel)⟩
def lw_privs_3 : List (MethodName × Nat) := [(⟨"SeenLand$TextReader", "readInto", "(LSeenLand$Land;)I"⟩, 1), (⟨"SeenLand$Tape", "rewind", "()V"⟩, 6), (⟨"SeenLand$Tape", "step", "()V"⟩, 6), (⟨"SeenLand$Tape", "sortAt", "(I)I"⟩, 6), (⟨"SeenLand$Tape", "takeDigit", "(I)V"⟩, 6), (⟨"SeenLand$TextReader", "readItem", "(LSeenLand$Land;)Z"⟩, 1), (⟨"SeenLand$Tape", "isWord", "(Ljava/lang/String;)Z"⟩, 6), (⟨"SeenLand$TextReader", "readHouse", "(LSeenLand$Land;)Z"⟩, 1), (⟨"SeenLand$TextReader", "readNumber", "(II)I"⟩, 1), (⟨"SeenLand$TextReader", "passes", "(Ljava/lang/String;)Z"⟩, 1), (⟨"SeenLand$TextReader", "readHaze", "(LSeenLand$Land;)Z"⟩, 1), (⟨"SeenLand$TextReader", "readRate", "(LSeenLand$Land;)Z"⟩, 1), (⟨"SeenLand$TextReader", "readKind", "()I"⟩, 1), (⟨"SeenLand$TextReader", "readThing", "(LSeenLand$Land;I)Z"⟩, 1), (⟨"SeenLand$TextReader", "faultHere", "()I"⟩, 1), (⟨"SeenLand$Sheets", "make", "(III)V"⟩, 3)]
theorem lw_r3 : ∀ q ∈ lw_privs_3, lw_okq q := List.forall_mem_cons.mpr ⟨lw_p32, List.forall_mem_cons.mpr ⟨lw_p33, List.forall_mem_cons.mpr ⟨lw_p34, List.forall_mem_cons.mpr ⟨lw_p35, List.forall_mem_cons.mpr ⟨lw_p36, List.forall_mem_cons.mpr ⟨lw_p37, List.forall_mem_cons.mpr ⟨lw_p38, List.forall_mem_cons.mpr ⟨lw_p39, List.forall_mem_cons.mpr ⟨lw_p40, List.forall_mem_cons.mpr ⟨lw_p41, List.forall_mem_cons.mpr ⟨lw_p42, List.forall_mem_cons.mpr ⟨lw_p43, List.forall_mem_cons.mpr ⟨lw_p44, List.forall_mem_cons.mpr ⟨lw_p45, List.forall_mem_cons.mpr ⟨lw_p46, List.forall_mem_cons.mpr ⟨lw_p47, fun _ h => absurd h List.not_mem_nil⟩⟩⟩⟩⟩⟩⟩⟩⟩⟩⟩⟩⟩⟩⟩⟩
theorem lw_p48 : lw_okq (⟨"SeenLand$Sheets", "isMissing", "(I)Z"⟩, 3) := ⟨⟨by decide +kernel, by decide +kernel⟩, List.mem_of_getElem? (i := 124) (by decide +kernel), List.mem_of_getElem? (i := 681) (by decide +kernel), List.mem_of_getElem? (i := 682) (by decide +kernel)⟩
theorem lw_p49 : lw_okq (⟨"SeenLand$Sheets", "hasRun", "(III)Z"⟩, 3) := ⟨⟨by decide +kernel, by decide +kernel⟩, List.mem_of_getElem? (i := 124) (by decide +kernel), List.mem_of_getElem? (i := 685) (by decide +kernel), List.mem_of_getElem? (i := 686) (by decide +kernel)⟩
theorem lw_p50 : lw_okq (⟨"SeenLand$Sheets", "put", "(III)V"⟩, 3) := ⟨⟨by decide +kernel, by decide +kernel⟩, List.mem_of_getElem? (i := 124) (by decide +kernel), List.mem_of_getElem? (i := 689) (by decide +kernel), List.mem_of_getElem? (i := 690) (by decide +kernel)⟩
theorem lw_p51 : lw_okq (⟨"SeenLand$Sheets", "move", "(IIIII)V"⟩, 3) := ⟨⟨by decide +kernel, by decide +kernel⟩, List.mem_of_getElem? (i := 124) (by decide +kernel), List.mem_of_getElem? (i := 700) (by decide +kernel), List.mem_of_getElem? (i := 701) (by decide +kernel)⟩
theorem lw_p52 : lw_okq (⟨"SeenLand$Sheets", "numberAt", "(II)I"⟩, 3) := ⟨⟨by decide +kernel, by decide +kernel⟩, List.mem_of_getElem? (i := 124) (by decide +kernel), List.mem_of_getElem? (i := 709) (by decide +kernel), List.mem_of_getElem? (i := 710) (by decide +kernel)⟩
theorem lw_p53 : lw_okq (⟨"SeenLand$Land", "spotsInUse", "()I"⟩, 13) := ⟨⟨by decide +kernel, by decide +kernel⟩, List.mem_of_getElem? (i := 23) (by decide +kernel), List.mem_of_getElem? (i := 733) (by decide +kernel), List.mem_of_getElem? (i := 734) (by decide +kernel)⟩
theorem lw_p54 : lw_okq (⟨"SeenLandModel", "finds", "(I)I"⟩, 20) := ⟨⟨by decide +kernel, by decide +kernel⟩, List.mem_of_getElem? (i := 741) (by decide +kernel), List.mem_of_getElem? (i := 821) (by decide +kernel), List.mem_of_getElem? (i := 822) (by decide +kernel)⟩
theorem lw_p55 : lw_okq (⟨"SeenLandModel", "kindOf", "(I)I"⟩, 20) := ⟨⟨by decide +kernel, by decide +kernel⟩, List.mem_of_getElem? (i := 741) (by decide +kernel), List.mem_of_getElem? (i := 833) (by decide +kernel), List.mem_of_getElem? (i := 834) (by decide +kernel)⟩
theorem lw_p56 : lw_okq (⟨"SeenLandModel", "sets", "(II)V"⟩, 20) := ⟨⟨by decide +kernel, by decide +kernel⟩, List.mem_of_getElem? (i := 741) (by decide +kernel), List.mem_of_getElem? (i := 837) (by decide +kernel), List.mem_of_getElem? (i := 838) (by decide +kernel)⟩
theorem lw_p57 : lw_okq (⟨"SeenLandModel", "top", "(I)I"⟩, 20) := ⟨⟨by decide +kernel, by decide +kernel⟩, List.mem_of_getElem? (i := 741) (by decide +kernel), List.mem_of_getElem? (i := 846) (by decide +kernel), List.mem_of_getElem? (i := 847) (by decide +kernel)⟩
theorem lw_p58 : lw_okq (⟨"SeenLandModel", "ageOf", "(I)I"⟩, 20) := ⟨⟨by decide +kernel, by decide +kernel⟩, List.mem_of_getElem? (i := 741) (by decide +kernel), List.mem_of_getElem? (i := 850) (by decide +kernel), List.mem_of_getElem? (i := 851) (by decide +kernel)⟩
theorem lw_p59 : lw_okq (⟨"SeenLandModel", "heightOf", "(I)I"⟩, 20) := ⟨⟨by decide +kernel, by decide +kernel⟩, List.mem_of_getElem? (i := 741) (by decide +kernel), List.mem_of_getElem? (i := 854) (by decide +kernel), List.mem_of_getElem? (i := 855) (by decide +kernel)⟩
theorem lw_p60 : lw_okq (⟨"SeenLandModel", "worth", "(I)I"⟩, 20) := ⟨⟨by decide +kernel, by decide +kernel⟩, List.mem_of_getElem? (i := 741) (by decide +kernel), List.mem_of_getElem? (i := 858) (by decide +kernel), List.mem_of_getElem? (i := 859) (by decide +kernel)⟩
theorem lw_p61 : lw_okq (⟨"SeenLandModel", "newHouse", "(III)I"⟩, 20) := ⟨⟨by decide +kernel, by decide +kernel⟩, List.mem_of_getElem? (i := 741) (by decide +kernel), List.mem_of_getElem? (i := 871) (by decide +kernel), List.mem_of_getElem? (i := 872) (by decide +kernel)⟩
theorem lw_p62 : lw_okq (⟨"SeenLandModel", "isHouse", "(I)Z"⟩, 20) := ⟨⟨by decide +kernel, by decide +kernel⟩, List.mem_of_getElem? (i := 741) (by decide +kernel), List.mem_of_getElem? (i := 879) (by decide +kernel), List.mem_of_getElem? (i := 880) (by decide +kernel)⟩
theorem lw_p63 : lw_okq (⟨"SeenLandModel", "eye", "(I)I"⟩, 20) := ⟨⟨by decide +kernel, by decide +kernel⟩, List.mem_of_getElem? (i := 741) (by decide +kernel), List.mem_of_getElem? (i := 884) (by decide +kernel), List.mem_of_getElem? (i := 885) (by decide +kernel)⟩
def lw_privs_4 : List (MethodName × Nat) := [(⟨"SeenLand$Sheets", "isMissing", "(I)Z"⟩, 3), (⟨"SeenLand$Sheets", "hasRun", "(III)Z"⟩, 3), (⟨"SeenLand$Sheets", "put", "(III)V"⟩, 3), (⟨"SeenLand$Sheets", "move", "(IIIII)V"⟩, 3), (⟨"SeenLand$Sheets", "numberAt", "(II)I"⟩, 3), (⟨"SeenLand$Land", "spotsInUse", "()I"⟩, 13), (⟨"SeenLandModel", "finds", "(I)I"⟩, 20), (⟨"SeenLandModel", "kindOf", "(I)I"⟩, 20), (⟨"SeenLandModel", "sets", "(II)V"⟩, 20), (⟨"SeenLandModel", "top", "(I)I"⟩, 20), (⟨"SeenLandModel", "ageOf", "(I)I"⟩, 20), (⟨"SeenLandModel", "heightOf", "(I)I"⟩, 20), (⟨"SeenLandModel", "worth", "(I)I"⟩, 20), (⟨"SeenLandModel", "newHouse", "(III)I"⟩, 20), (⟨"SeenLandModel", "isHouse", "(I)Z"⟩, 20), (⟨"SeenLandModel", "eye", "(I)I"⟩, 20)]
theorem lw_r4 : ∀ q ∈ lw_privs_4, lw_okq q := List.forall_mem_cons.mpr ⟨lw_p48, List.forall_mem_cons.mpr ⟨lw_p49, List.forall_mem_cons.mpr ⟨lw_p50, List.forall_mem_cons.mpr ⟨lw_p51, List.forall_mem_cons.mpr ⟨lw_p52, List.forall_mem_cons.mpr ⟨lw_p53, List.forall_mem_cons.mpr ⟨lw_p54, List.forall_mem_cons.mpr ⟨lw_p55, List.forall_mem_cons.mpr ⟨lw_p56, List.forall_mem_cons.mpr ⟨lw_p57, List.forall_mem_cons.mpr ⟨lw_p58, List.forall_mem_cons.mpr ⟨lw_p59, List.forall_mem_cons.mpr ⟨lw_p60, List.forall_mem_cons.mpr ⟨lw_p61, List.forall_mem_cons.mpr ⟨lw_p62, List.forall_mem_cons.mpr ⟨lw_p63, fun _ h => absurd h List.not_mem_nil⟩⟩⟩⟩⟩⟩⟩⟩⟩⟩⟩⟩⟩⟩⟩⟩
theorem lw_p64 : lw_okq (⟨"SeenLandModel", "cellAt", "(I)I"⟩, 20) := ⟨⟨by decide +kernel, by decide +kernel⟩, List.mem_of_getElem? (i := 741) (by decide +kernel), List.mem_of_getElem? (i := 888) (by decide +kernel), List.mem_of_getElem? (i := 889) (by decide +kernel)⟩
theorem lw_p65 : lw_okq (⟨"SeenLandModel", "openOf", "(I)I"⟩, 20) := ⟨⟨by decide +kernel, by decide +kernel⟩, List.mem_of_getElem? (i := 741) (by decide +kernel), List.mem_of_getElem? (i := 892) (by decide +kernel), List.mem_of_getElem? (i := 893) (by decide +kernel)⟩
theorem lw_p66 : lw_okq (⟨"SeenLandModel", "lowers", "(II)V"⟩, 20) := ⟨⟨by decide +kernel, by decide +kernel⟩, List.mem_of_getElem? (i := 741) (by decide +kernel), List.mem_of_getElem? (i := 915) (by decide +kernel), List.mem_of_getElem? (i := 916) (by decide +kernel)⟩
theorem lw_p67 : lw_okq (⟨"SeenLandModel", "sightOf", "(I)I"⟩, 20) := ⟨⟨by decide +kernel, by decide +kernel⟩, List.mem_of_getElem? (i := 741) (by decide +kernel), List.mem_of_getElem? (i := 928) (by decide +kernel), List.mem_of_getElem? (i := 929) (by decide +kernel)⟩
theorem lw_p68 : lw_okq (⟨"SeenLandModel", "isTowards", "(II)Z"⟩, 20) := ⟨⟨by decide +kernel, by decide +kernel⟩, List.mem_of_getElem? (i := 741) (by decide +kernel), List.mem_of_getElem? (i := 932) (by decide +kernel), List.mem_of_getElem? (i := 933) (by decide +kernel)⟩
theorem lw_p69 : lw_okq (⟨"SeenLandModel", "hider", "(II)I"⟩, 20) := ⟨⟨by decide +kernel, by decide +kernel⟩, List.mem_of_getElem? (i := 741) (by decide +kernel), List.mem_of_getElem? (i := 942) (by decide +kernel), List.mem_of_getElem? (i := 943) (by decide +kernel)⟩
theorem lw_p70 : lw_okq (⟨"SeenLandModel", "isHiding", "(III)Z"⟩, 20) := ⟨⟨by decide +kernel, by decide +kernel⟩, List.mem_of_getElem? (i := 741) (by decide +kernel), List.mem_of_getElem? (i := 946) (by decide +kernel), List.mem_of_getElem? (i := 947) (by decide +kernel)⟩
theorem lw_p71 : lw_okq (⟨"SeenLandModel", "taxOf", "(I)I"⟩, 20) := ⟨⟨by decide +kernel, by decide +kernel⟩, List.mem_of_getElem? (i := 741) (by decide +kernel), List.mem_of_getElem? (i := 972) (by decide +kernel), List.mem_of_getElem? (i := 973) (by decide +kernel)⟩
theorem lw_p72 : lw_okq (⟨"SeenLandModel", "allTax", "()I"⟩, 20) := ⟨⟨by decide +kernel, by decide +kernel⟩, List.mem_of_getElem? (i := 741) (by decide +kernel), List.mem_of_getElem? (i := 980) (by decide +kernel), List.mem_of_getElem? (i := 981) (by decide +kernel)⟩
theorem lw_p73 : lw_okq (⟨"SeenLandModel", "leastFloor", "(I)I"⟩, 20) := ⟨⟨by decide +kernel, by decide +kernel⟩, List.mem_of_getElem? (i := 741) (by decide +kernel), List.mem_of_getElem? (i := 988) (by decide +kernel), List.mem_of_getElem? (i := 989) (by decide +kernel)⟩
theorem lw_p74 : lw_okq (⟨"SeenLandModel", "isTooFar", "(I)Z"⟩, 20) := ⟨⟨by decide +kernel, by decide +kernel⟩, List.mem_of_getElem? (i := 741) (by decide +kernel), List.mem_of_getElem? (i := 1019) (by decide +kernel), List.mem_of_getElem? (i := 1020) (by decide +kernel)⟩
theorem lw_p75 : lw_okq (⟨"SeenLandModel", "puts", "()V"⟩, 20) := ⟨⟨by decide +kernel, by decide +kernel⟩, List.mem_of_getElem? (i := 741) (by decide +kernel), List.mem_of_getElem? (i := 1023) (by decide +kernel), List.mem_of_getElem? (i := 1024) (by decide +kernel)⟩
theorem lw_p76 : lw_okq (⟨"SeenLandModel", "yearsGo", "(I)V"⟩, 20) := ⟨⟨by decide +kernel, by decide +kernel⟩, List.mem_of_getElem? (i := 741) (by decide +kernel), List.mem_of_getElem? (i := 1027) (by decide +kernel), List.mem_of_getElem? (i := 1028) (by decide +kernel)⟩
theorem lw_p77 : lw_okq (⟨"SeenLandModel", "year", "()V"⟩, 20) := ⟨⟨by decide +kernel, by decide +kernel⟩, List.mem_of_getElem? (i := 741) (by decide +kernel), List.mem_of_getElem? (i := 1031) (by decide +kernel), List.mem_of_getElem? (i := 1032) (by decide +kernel)⟩
theorem lw_p78 : lw_okq (⟨"SeenLandModel", "putsBack", "()V"⟩, 20) := ⟨⟨by decide +kernel, by decide +kernel⟩, List.mem_of_getElem? (i := 741) (by decide +kernel), List.mem_of_getElem? (i := 1035) (by decide +kernel), List.mem_of_getElem? (i := 1036) (by decide +kernel)⟩
theorem lw_p79 : lw_okq (⟨"SeenLandModel", "findSights", "()I"⟩, 20) := ⟨⟨by decide +kernel, by decide +kernel⟩, List.mem_of_getElem? (i := 741) (by decide +kernel), List.mem_of_getElem? (i := 1059) (by decide +kernel), List.mem_of_getElem? (i := 1060) (by decide +kernel)⟩
def lw_privs_5 : List (MethodName × Nat) := [(⟨"SeenLandModel", "cellAt", "(I)I"⟩, 20), (⟨"SeenLandModel", "openOf", "(I)I"⟩, 20), (⟨"SeenLandModel", "lowers", "(II)V"⟩, 20), (⟨"SeenLandModel", "sightOf", "(I)I"⟩, 20), (⟨"SeenLandModel", "isTowards", "(II)Z"⟩, 20), (⟨"SeenLandModel", "hider", "(II)I"⟩, 20), (⟨"SeenLandModel", "isHiding", "(III)Z"⟩, 20), (⟨"SeenLandModel", "taxOf", "(I)I"⟩, 20), (⟨"SeenLandModel", "allTax", "()I"⟩, 20), (⟨"SeenLandModel", "leastFloor", "(I)I"⟩, 20), (⟨"SeenLandModel", "isTooFar", "(I)Z"⟩, 20), (⟨"SeenLandModel", "puts", "()V"⟩, 20), (⟨"SeenLandModel", "yearsGo", "(I)V"⟩, 20), (⟨"SeenLandModel", "year", "()V"⟩, 20), (⟨"SeenLandModel", "putsBack", "()V"⟩, 20), (⟨"SeenLandModel", "findSights", "()I"⟩, 20)]
theorem lw_r5 : ∀ q ∈ lw_privs_5, lw_okq q := List.forall_mem_cons.mpr ⟨lw_p64, List.forall_mem_cons.mpr ⟨lw_p65, List.forall_mem_cons.mpr ⟨lw_p66, List.forall_mem_cons.mpr ⟨lw_p67, List.forall_mem_cons.mpr ⟨lw_p68, List.forall_mem_cons.mpr ⟨lw_p69, List.forall_mem_cons.mpr ⟨lw_p70, List.forall_mem_cons.mpr ⟨lw_p71, List.forall_mem_cons.mpr ⟨lw_p72, List.forall_mem_cons.mpr ⟨lw_p73, List.forall_mem_cons.mpr ⟨lw_p74, List.forall_mem_cons.mpr ⟨lw_p75, List.forall_mem_cons.mpr ⟨lw_p76, List.forall_mem_cons.mpr ⟨lw_p77, List.forall_mem_cons.mpr ⟨lw_p78, List.forall_mem_cons.mpr ⟨lw_p79, fun _ h => absurd h List.not_mem_nil⟩⟩⟩⟩⟩⟩⟩⟩⟩⟩⟩⟩⟩⟩⟩⟩
theorem lw_p80 : lw_okq (⟨"SeenLandModel", "findHeights", "(III)V"⟩, 20) := ⟨⟨by decide +kernel, by decide +kernel⟩, List.mem_of_getElem? (i := 741) (by decide +kernel), List.mem_of_getElem? (i := 1072) (by decide +kernel), List.mem_of_getElem? (i := 1073) (by decide +kernel)⟩
theorem lw_p81 : lw_okq (⟨"SeenLandModel", "next", "()I"⟩, 20) := ⟨⟨by decide +kernel, by decide +kernel⟩, List.mem_of_getElem? (i := 741) (by decide +kernel), List.mem_of_getElem? (i := 1105) (by decide +kernel), List.mem_of_getElem? (i := 1106) (by decide +kernel)⟩
theorem lw_p82 : lw_okq (⟨"SeenLandModel", "token", "()V"⟩, 20) := ⟨⟨by decide +kernel, by decide +kernel⟩, List.mem_of_getElem? (i := 741) (by decide +kernel), List.mem_of_getElem? (i := 1126) (by decide +kernel), List.mem_of_getElem? (i := 1127) (by decide +kernel)⟩
theorem lw_p83 : lw_okq (⟨"SeenLandModel", "byteAt", "(I)I"⟩, 20) := ⟨⟨by decide +kernel, by decide +kernel⟩, List.mem_of_getElem? (i := 741) (by decide +kernel), List.mem_of_getElem? (i := 1130) (by decide +kernel), List.mem_of_getElem? (i := 1131) (by decide +kernel)⟩
theorem lw_p84 : lw_okq (⟨"SeenLandModel", "item", "()V"⟩, 20) := ⟨⟨by decide +kernel, by decide +kernel⟩, List.mem_of_getElem? (i := 741) (by decide +kernel), List.mem_of_getElem? (i := 1144) (by decide +kernel), List.mem_of_getElem? (i := 1145) (by decide +kernel)⟩
theorem lw_p85 : lw_okq (⟨"SeenLandModel", "kindHere", "()I"⟩, 20) := ⟨⟨by decide +kernel, by decide +kernel⟩, List.mem_of_getElem? (i := 741) (by decide +kernel), List.mem_of_getElem? (i := 1148) (by decide +kernel), List.mem_of_getElem? (i := 1149) (by decide +kernel)⟩
theorem lw_p86 : lw_okq (⟨"SeenLandModel", "word", "()J"⟩, 20) := ⟨⟨by decide +kernel, by decide +kernel⟩, List.mem_of_getElem? (i := 741) (by decide +kernel), List.mem_of_getElem? (i := 1152) (by decide +kernel), List.mem_of_getElem? (i := 1153) (by decide +kernel)⟩
theorem lw_p87 : lw_okq (⟨"SeenLandModel", "cellItem", "(I)V"⟩, 20) := ⟨⟨by decide +kernel, by decide +kernel⟩, List.mem_of_getElem? (i := 741) (by decide +kernel), List.mem_of_getElem? (i := 1165) (by decide +kernel), List.mem_of_getElem? (i := 1166) (by decide +kernel)⟩
theorem lw_p88 : lw_okq (⟨"SeenLandModel", "needs", "(Z)V"⟩, 20) := ⟨⟨by decide +kernel, by decide +kernel⟩, List.mem_of_getElem? (i := 741) (by decide +kernel), List.mem_of_getElem? (i := 1169) (by decide +kernel), List.mem_of_getElem? (i := 1170) (by decide +kernel)⟩
theorem lw_p89 : lw_okq (⟨"SeenLandModel", "number", "(II)V"⟩, 20) := ⟨⟨by decide +kernel, by decide +kernel⟩, List.mem_of_getElem? (i := 741) (by decide +kernel), List.mem_of_getElem? (i := 1173) (by decide +kernel), List.mem_of_getElem? (i := 1174) (by decide +kernel)⟩
theorem lw_p90 : lw_okq (⟨"SeenLandModel", "perhaps", "(ZIII)I"⟩, 20) := ⟨⟨by decide +kernel, by decide +kernel⟩, List.mem_of_getElem? (i := 741) (by decide +kernel), List.mem_of_getElem? (i := 1178) (by decide +kernel), List.mem_of_getElem? (i := 1179) (by decide +kernel)⟩
theorem lw_p91 : lw_okq (⟨"SeenLandModel", "houseItem", "()V"⟩, 20) := ⟨⟨by decide +kernel, by decide +kernel⟩, List.mem_of_getElem? (i := 741) (by decide +kernel), List.mem_of_getElem? (i := 1185) (by decide +kernel), List.mem_of_getElem? (i := 1186) (by decide +kernel)⟩
theorem lw_p92 : lw_okq (⟨"SeenLandModel", "wrong", "(I)I"⟩, 20) := ⟨⟨by decide +kernel, by decide +kernel⟩, List.mem_of_getElem? (i := 741) (by decide +kernel), List.mem_of_getElem? (i := 1219) (by decide +kernel), List.mem_of_getElem? (i := 1220) (by decide +kernel)⟩
def lw_privs_6 : List (MethodName × Nat) := [(⟨"SeenLandModel", "findHeights", "(III)V"⟩, 20), (⟨"SeenLandModel", "next", "()I"⟩, 20), (⟨"SeenLandModel", "token", "()V"⟩, 20), (⟨"SeenLandModel", "byteAt", "(I)I"⟩, 20), (⟨"SeenLandModel", "item", "()V"⟩, 20), (⟨"SeenLandModel", "kindHere", "()I"⟩, 20), (⟨"SeenLandModel", "word", "()J"⟩, 20), (⟨"SeenLandModel", "cellItem", "(I)V"⟩, 20), (⟨"SeenLandModel", "needs", "(Z)V"⟩, 20), (⟨"SeenLandModel", "number", "(II)V"⟩, 20), (⟨"SeenLandModel", "perhaps", "(ZIII)I"⟩, 20), (⟨"SeenLandModel", "houseItem", "()V"⟩, 20), (⟨"SeenLandModel", "wrong", "(I)I"⟩, 20)]
theorem lw_r6 : ∀ q ∈ lw_privs_6, lw_okq q := List.forall_mem_cons.mpr ⟨lw_p80, List.forall_mem_cons.mpr ⟨lw_p81, List.forall_mem_cons.mpr ⟨lw_p82, List.forall_mem_cons.mpr ⟨lw_p83, List.forall_mem_cons.mpr ⟨lw_p84, List.forall_mem_cons.mpr ⟨lw_p85, List.forall_mem_cons.mpr ⟨lw_p86, List.forall_mem_cons.mpr ⟨lw_p87, List.forall_mem_cons.mpr ⟨lw_p88, List.forall_mem_cons.mpr ⟨lw_p89, List.forall_mem_cons.mpr ⟨lw_p90, List.forall_mem_cons.mpr ⟨lw_p91, List.forall_mem_cons.mpr ⟨lw_p92, fun _ h => absurd h List.not_mem_nil⟩⟩⟩⟩⟩⟩⟩⟩⟩⟩⟩⟩⟩
def lw_privs : List (MethodName × Nat) := lw_privs_1 ++ (lw_privs_2 ++ (lw_privs_3 ++ (lw_privs_4 ++ (lw_privs_5 ++ (lw_privs_6)))))
def lw_tbl : List Cond := k2_sels lw_privs ++ tables_1
theorem lw_privs_ok : ∀ q ∈ lw_privs, lw_okq q := by
  show ∀ q ∈ lw_privs_1 ++ (lw_privs_2 ++ (lw_privs_3 ++ (lw_privs_4 ++ (lw_privs_5 ++ (lw_privs_6))))), lw_okq q
  exact List.forall_mem_append.mpr ⟨lw_r1, List.forall_mem_append.mpr ⟨lw_r2, List.forall_mem_append.mpr ⟨lw_r3, List.forall_mem_append.mpr ⟨lw_r4, List.forall_mem_append.mpr ⟨lw_r5, lw_r6⟩⟩⟩⟩⟩
end
section
/-! The picture: a fixed graph of cells, all that changes are ints. A cell is an int array (its length), or an object (its class's place, its fields: none an int, some r the cell r) -/
abbrev sl_M : Type := Nat → Nat → Int32
abbrev sl_E : Type := Nat ⊕ (Nat × List (Option Nat))
def sl_up (M : sl_M) (r i : Nat) (v : Int32) : sl_M := fun r' => if r' = r then upd (M r) i v else M r'
def sl_v (g : Nat → Nat) (f : Nat → Int32) (k : Nat) : Option Nat → Value
  | none => .int (f k)
  | some r => .ref (g r)
def sl_f (g : Nat → Nat) (f : Nat → Int32) : Nat → List (Option Nat) → List Value
  | _, [] => []
  | k, o :: t => sl_v g f k o :: sl_f g f (k + 1) t
theorem sl_f_get {g : Nat → Nat} {f : Nat → Int32} : ∀ (fs : List (Option Nat)) (k0 k : Nat), (sl_f g f k0 fs)[k]? = (fs[k]?).map (sl_v g f (k0 + k))
  | [], k0, k => by simp [sl_f]
  | o :: t, k0, 0 => by simp [sl_f]
  | o :: t, k0, k + 1 => by
    rw [sl_f, List.getElem?_cons_succ, List.getElem?_cons_succ, sl_f_get t (k0 + 1) k, show k0 + 1 + k = k0 + (k + 1) by omega]
theorem sl_f_len {g : Nat → Nat} {f : Nat → Int32} : ∀ (fs : List (Option Nat)) (k0 : Nat), (sl_f g f k0 fs).length = fs.length
  | [], k0 => rfl
  | o :: t, k0 => by rw [sl_f, List.length_cons, List.length_cons, sl_f_len t]
theorem sl_f_set {g : Nat → Nat} {f : Nat → Int32} {v : Int32} {k : Nat} {fs : List (Option Nat)} (h : fs[k]? = some none) : (sl_f g f 0 fs).set k (.int v) = sl_f g (upd f k v) 0 fs := by
  apply List.ext_getElem?
  intro j
  rw [sl_f_get, Nat.zero_add]
  by_cases hj : j = k
  · subst hj
    have hl : j < (sl_f g f 0 fs).length := by rw [sl_f_len]; exact (List.getElem?_eq_some_iff.mp h).1
    rw [List.getElem?_set_self hl, h]
    simp [sl_v, upd]
  · rw [List.getElem?_set_ne (Ne.symm hj), sl_f_get, Nat.zero_add]
    cases fs[j]? with
    | none => rfl
    | some o => cases o <;> simp [sl_v, upd, hj]
def sl_e (cA : ClassId) (g : Nat → Nat) (f : Nat → Int32) : sl_E → va_E
  | .inl n => .inl (cA, n, .inl f)
  | .inr o => .inr (o.1, sl_f g f 0 o.2)
def sl_w (L : List sl_E) (cA : ClassId) (g : Nat → Nat) (M : sl_M) : va_W := (List.range L.length).map (fun r => (g r, sl_e cA g (M r) (L.getD r (.inl 0))))
theorem sl_w_get {L : List sl_E} {cA : ClassId} {g : Nat → Nat} {M : sl_M} {r : Nat} {e : sl_E} (h : L[r]? = some e) : (sl_w L cA g M)[r]? = some (g r, sl_e cA g (M r) e) := by
  have hl := (List.getElem?_eq_some_iff.mp h).1
  rw [sl_w, List.getElem?_map, List.getElem?_range hl]
  show some (g r, sl_e cA g (M r) (L.getD r (.inl 0))) = _
  rw [List.getD_eq_getElem?_getD, h]
  rfl
theorem sl_w_of {L : List sl_E} {cA : ClassId} {g : Nat → Nat} {M : sl_M} {k : Nat} {q : Nat × va_E} (h : (sl_w L cA g M)[k]? = some q) : ∃ e, L[k]? = some e ∧ q = (g k, sl_e cA g (M k) e) := by
  have hl : k < L.length := by
    have := (List.getElem?_eq_some_iff.mp h).1
    simpa [sl_w] using this
  refine ⟨L[k], List.getElem?_eq_getElem hl, ?_⟩
  rw [sl_w_get (List.getElem?_eq_getElem hl)] at h
  exact (Option.some.inj h).symm
theorem sl_w_set {L : List sl_E} {cA : ClassId} {g : Nat → Nat} {M M' : sl_M} {r : Nat} {e : sl_E} (h : L[r]? = some e) (hM : ∀ r', r' ≠ r → M' r' = M r') : (sl_w L cA g M).set r (g r, sl_e cA g (M' r) e) = sl_w L cA g M' := by
  have hl := (List.getElem?_eq_some_iff.mp h).1
  apply List.ext_getElem?
  intro j
  by_cases hj : j = r
  · subst hj
    rw [List.getElem?_set_self (by simpa [sl_w] using hl), sl_w_get h]
  · rw [List.getElem?_set_ne (Ne.symm hj), sl_w, sl_w, List.getElem?_map, List.getElem?_map]
    by_cases hk : j < L.length
    · rw [List.getElem?_range hk]
      simp [hM j hj]
    · rw [List.getElem?_eq_none (by simpa using hk)]
      rfl
def sl_D (L : List sl_E) (g : Nat → Nat) (A : Nat → Prop) : Prop := (∀ i j, i < L.length → j < L.length → g i = g j → i = j) ∧ ∀ r, r < L.length → A (g r)
theorem sl_D.d {L : List sl_E} {g : Nat → Nat} {A : Nat → Prop} {cA : ClassId} {M : sl_M} (h : sl_D L g A) : va_D A (sl_w L cA g M) := by
  refine ⟨fun i j p q hi hj e => ?_, fun k q hk => ?_⟩
  · obtain ⟨a, ha, rfl⟩ := sl_w_of hi
    obtain ⟨b, hb, rfl⟩ := sl_w_of hj
    exact h.1 i j (List.getElem?_eq_some_iff.mp ha).1 (List.getElem?_eq_some_iff.mp hb).1 e
  · obtain ⟨a, ha, rfl⟩ := sl_w_of hk
    exact h.2 k (List.getElem?_eq_some_iff.mp ha).1
/-- the words of the tables at a state -/
def sl_T (U : State) : Prop := (∀ w ∈ lw_tbl, goodWord w = true → ∀ a : Array Value, w.before a U = true) ∧ (∀ (o : String) (i : Nat) (b n d h : String), Cond.fieldLinkNest o i b n d h ∈ lw_tbl → va_Nw (.fieldLinkNest o i b n d h) U) ∧ (∀ (o : String) (i : Nat) (y : MethodName) (h : String), Cond.methodLinkNest o i y h ∈ lw_tbl → va_Nw (.methodLinkNest o i y h) U)
theorem sl_T.warm {s U : State} (h : sl_T s) (hW : s.WarmedH U.vm) : sl_T U :=
  ⟨fun w hw hg a => word_at hW (good_of_word hg) (h.1 w hw hg #[]), fun o i b n d k hw => va_Nw.warmF hW (h.2.1 o i b n d k hw), fun o i y k hw => va_Nw.warmM hW (h.2.2 o i y k hw)⟩
theorem sl_T.same {s U : State} (h : sl_T s) (hv : s.vm = U.vm) : sl_T U := by
  have hW : s.WarmedH U.vm := by rw [← hv]; exact State.WarmedH.refl s
  exact h.warm hW
/-- what is old and stays: two static rows of ints, the texts -/
abbrev sl_K : Type := (Nat × Nat) × (Nat → Nat) × (Nat → Nat)
def sl_wo : List Int32 := [1, 5, 3, 20, 0, 1, 3]
def sl_ka : List Int32 := [-1, 0, 0, 1, 0, 0, 5]
def sl_tx : List (Nat × String) := [(36, "house"), (105, "floor"), (107, "blind"), (109, "west"), (111, "east"), (51, "haze"), (59, "rate"), (71, "land"), (73, "water"), (75, "field"), (77, "sea"), (79, "roof"), (81, "wood"), (83, "elm"), (89, "to"), (91, "high"), (93, "age")]
def sl_ln : List Nat := [5, 5, 5, 4, 4, 4, 4, 4, 5, 5, 3, 4, 4, 3, 2, 4, 3]
def sl_by : List (List Int32) := [[104, 111, 117, 115, 101], [102, 108, 111, 111, 114], [98, 108, 105, 110, 100], [119, 101, 115, 116], [101, 97, 115, 116], [104, 97, 122, 101], [114, 97, 116, 101], [108, 97, 110, 100], [119, 97, 116, 101, 114], [102, 105, 101, 108, 100], [115, 101, 97], [114, 111, 111, 102], [119, 111, 111, 100], [101, 108, 109], [116, 111], [104, 105, 103, 104], [97, 103, 101]]
def sl_Z (A : Nat → Prop) (z : sl_K) (U : State) : Prop :=
  va_Z "SeenLand$Land" "WORTHS" "[I" (.ref z.1.1) A U U.heap ∧ va_T .int z.1.1 7 (fun j => .int (sl_wo.getD j 0)) A U U.heap ∧
  va_Z "SeenLand$Land" "KIND_ABOVE" "[I" (.ref z.1.2) A U U.heap ∧ va_T .int z.1.2 7 (fun j => .int (sl_ka.getD j 0)) A U U.heap ∧
  va_Z "java/lang/String" "COMPACT_STRINGS" "Z" (.int 1) A U U.heap ∧ vk_S 17 sl_ln sl_by z.2.1 z.2.2 A U U.heap ∧ ∀ i q, sl_tx[i]? = some q → vk_R "SeenLand$TextReader" q.1 q.2 (z.2.1 i) U
theorem sl_Z.go {A : Nat → Prop} {z : sl_K} {s U : State} (h : sl_Z A z s) (hW : s.WarmedH U.vm) (hq : ∀ a : Nat, a < s.heap.size → ¬ A a → U.heap[a]? = s.heap[a]?) : sl_Z A z U :=
  ⟨(h.1.kept hq).moved hW.alike, (h.2.1.kept hq).moved hW.alike, (h.2.2.1.kept hq).moved hW.alike, (h.2.2.2.1.kept hq).moved hW.alike, (h.2.2.2.2.1.kept hq).moved hW.alike, (h.2.2.2.2.2.1.kept hq).moved hW.alike, fun i q hi => (h.2.2.2.2.2.2 i q hi).warm hW⟩
/-- a method's context -/
def sl_C (own : String) (cc : ByteArray) (nL : Nat) (ret : Option FieldType) (cl : List vw_C) (L : List sl_E) (D : va_G) (cA : ClassId) (g : Nat → Nat) (A : Nat → Prop) (z : sl_K) (p : Program) (s : State) (m : MethodId) (meth : Method) (c : Code) : Prop :=
  p.tables.exec = Jvm.exec ∧ c.code = cc ∧ c.maxLocals = nL ∧ s.vm.findClass own = some m.cls ∧ meth.sig.returnType = ret ∧ meth.locks = false ∧ va_K D cl [(cA, .int)] s ∧ sl_D L g A ∧ sl_T s ∧ sl_Z A z s
def sl_W (cl : List vw_C) (L : List sl_E) (D : va_G) (cA : ClassId) (g : Nat → Nat) (A : Nat → Prop) (s : State) (M : sl_M) (H : Heap) (locs : List Loc) : Prop := va_P D cl (sl_w L cA g M) H ∧ va_S A s.heap H locs
def sl_A (cl : List vw_C) (L : List sl_E) (D : va_G) (cA : ClassId) (g : Nat → Nat) (A : Nat → Prop) (p : Program) (l : Launch) (e : Env) (R : Room) (s : State) (m : MethodId) (args : Array Value) (below : List Frame) (meth : Method) (c : Code) (Q : State → Prop) (nL pc : Nat) (lv : List (Nat × Value)) (st : List Value) (M : sl_M) : Prop :=
  ∀ (H : Heap) (locs : List Loc) (ls : Array Slot), sl_W cl L D cA g A s M H locs → lv_has ls nL lv → W p l e R s m args below meth c H locs 0 0 Q (F0 m pc ls st)
/-- the end of a method: its answer, the picture behind it -/
def sl_Q (cl : List vw_C) (L : List sl_E) (D : va_G) (cA : ClassId) (g : Nat → Nat) (A : Nat → Prop) (rv : Option Value) (M : sl_M) : Array Value → State → Outcome → State → Prop := fun _ st o t => o = .returned rv ∧ va_P D cl (sl_w L cA g M) t.heap ∧ va_F A st t
def sl_P (cl : List vw_C) (L : List sl_E) (D : va_G) (cA : ClassId) (g : Nat → Nat) (A : Nat → Prop) (z : sl_K) (M : sl_M) (U : State) : Prop := va_P D cl (sl_w L cA g M) U.heap ∧ va_K D cl [(cA, .int)] U ∧ sl_D L g A ∧ sl_T U ∧ sl_Z A z U
/-- a method's contract: from the picture M with these arguments it answers rv and leaves the picture M2 -/
def sl_N (cl : List vw_C) (L : List sl_E) (D : va_G) (cA : ClassId) (g : Nat → Nat) (A : Nat → Prop) (z : sl_K) (l : Launch) (y : MethodName) (cc : ByteArray) (nL : Nat) (ret : Option FieldType) (fr lo : Nat) (as : List Value) (M : sl_M) (rv : Option Value) (M2 : sl_M) : Prop :=
  Met l y [.code y cc nL ret] { frames := fr, cells := 0, slots := 0, locals := lo } (va_Pc as (sl_P cl L D cA g A z M)) (sl_Q cl L D cA g A rv M2) 0 0 A
/-! loads, stores, as numbers -/
def sl_ld (f : Nat → Int32) (n : Nat) (i : Int32) : Option Int32 := if i < 0 ∨ n ≤ i.toNatClampNeg then none else some (f i.toNatClampNeg)
def sl_st (M : sl_M) (r n : Nat) (i v : Int32) : Option sl_M := if i < 0 ∨ n ≤ i.toNatClampNeg then none else some (sl_up M r i.toNatClampNeg v)
def sl_bo (v : Int32) : Option Int32 := if v = 0 then some 0 else if v = 1 then some 1 else none
def sl_dv (x y : Int32) : Option Int32 := if y = 0 then none else some (x / y)
def sl_rm (x y : Int32) : Option Int32 := if y = 0 then none else some (x - x / y * y)
def sl_cp (M : sl_M) (r0 n0 r1 n1 : Nat) (sp dp n : Int32) : Option sl_M := if sp < 0 ∨ dp < 0 ∨ n < 0 ∨ n0 < sp.toNatClampNeg + n.toNatClampNeg ∨ n1 < dp.toNatClampNeg + n.toNatClampNeg then none else some (fun r => if r = r1 then va_cpy (M r0) (M r1) sp.toNatClampNeg dp.toNatClampNeg n.toNatClampNeg else M r)
theorem sl_ld_s {f : Nat → Int32} {n : Nat} {i v : Int32} (h : sl_ld f n i = some v) : vp_in i n ∧ f i.toNatClampNeg = v := by
  unfold sl_ld at h
  by_cases hc : i < 0 ∨ n ≤ i.toNatClampNeg
  · rw [if_pos hc] at h; cases h
  · rw [if_neg hc] at h; exact ⟨hc, Option.some.inj h⟩
theorem sl_st_s {M M2 : sl_M} {r n : Nat} {i v : Int32} (h : sl_st M r n i v = some M2) : vp_in i n ∧ sl_up M r i.toNatClampNeg v = M2 := by
  unfold sl_st at h
  by_cases hc : i < 0 ∨ n ≤ i.toNatClampNeg
  · rw [if_pos hc] at h; cases h
  · rw [if_neg hc] at h; exact ⟨hc, Option.some.inj h⟩
theorem sl_bo_s {v w : Int32} (h : sl_bo v = some w) : w = v ∧ (v = 0 ∨ v = 1) := by
  unfold sl_bo at h
  by_cases h0 : v = 0
  · rw [if_pos h0] at h; exact ⟨by rw [h0]; exact (Option.some.inj h).symm, Or.inl h0⟩
  · rw [if_neg h0] at h
    by_cases h1 : v = 1
    · rw [if_pos h1] at h; exact ⟨by rw [h1]; exact (Option.some.inj h).symm, Or.inr h1⟩
    · rw [if_neg h1] at h; cases h
theorem sl_b {α β : Type} {x : Option α} {f : α → Option β} {r : β} (h : x.bind f = some r) : ∃ v, x = some v ∧ f v = some r := by
  cases x with
  | none => cases h
  | some v => exact ⟨v, rfl, h⟩
theorem sl_t {α : Type} {c : Prop} [Decidable c] {a b r : α} (hc : c) (h : (if c then a else b) = r) : a = r := (if_pos hc).symm.trans h
theorem sl_n {α : Type} {c : Prop} [Decidable c] {a b r : α} (hc : ¬ c) (h : (if c then a else b) = r) : b = r := (if_neg hc).symm.trans h
theorem sl_up_o {M : sl_M} {r i : Nat} {v : Int32} : ∀ r', r' ≠ r → sl_up M r i v r' = M r' := fun r' h => by simp [sl_up, h]
theorem sl_up_s {M : sl_M} {r i : Nat} {v : Int32} : sl_up M r i v r = upd (M r) i v := by simp [sl_up]
end
section
section SLR
variable {cl : List vw_C} {L : List sl_E} {D : va_G} {cA : ClassId} {g : Nat → Nat} {A : Nat → Prop} {z : sl_K}
variable {p : Program} {l : Launch} {e : Env} {R : Room} {s : State} {m : MethodId} {args : Array Value} {below : List Frame} {meth : Method} {c : Code} {Q : State → Prop}
variable {own : String} {cc : ByteArray} {nL pc : Nat} {ret : Option FieldType} {lv : List (Nat × Value)} {st : List Value} {M : sl_M}
theorem sa_iconst (C : sl_C own cc nL ret cl L D cA g A z p s m meth c) {n : Int} {v : Int32} (hd : decode cc pc = .ok (.iconst n, 1)) (hv : Int32.ofInt n = v)
    (k : sl_A cl L D cA g A p l e R s m args below meth c Q nL (pc + 1) lv (.int v :: st) M) : sl_A cl L D cA g A p l e R s m args below meth c Q nL pc lv (st) M :=
  fun H locs ls hW hl => lv_iconst C.1 C.2.1 hd hv (k H locs ls hW hl)
theorem sa_bipush (C : sl_C own cc nL ret cl L D cA g A z p s m meth c) {n : Int} {v : Int32} (hd : decode cc pc = .ok (.bipush n, 2)) (hv : (Int8.ofInt n).toInt32 = v)
    (k : sl_A cl L D cA g A p l e R s m args below meth c Q nL (pc + 2) lv (.int v :: st) M) : sl_A cl L D cA g A p l e R s m args below meth c Q nL pc lv (st) M :=
  fun H locs ls hW hl => lv_bipush C.1 C.2.1 hd hv (k H locs ls hW hl)
theorem sa_sipush (C : sl_C own cc nL ret cl L D cA g A z p s m meth c) {n : Int} {v : Int32} (hd : decode cc pc = .ok (.sipush n, 3)) (hv : (Int16.ofInt n).toInt32 = v)
    (k : sl_A cl L D cA g A p l e R s m args below meth c Q nL (pc + 3) lv (.int v :: st) M) : sl_A cl L D cA g A p l e R s m args below meth c Q nL pc lv (st) M :=
  fun H locs ls hW hl => lv_sipush C.1 C.2.1 hd hv (k H locs ls hW hl)
theorem sa_lconst (C : sl_C own cc nL ret cl L D cA g A z p s m meth c) {n : Fin 2} {v : Int64} (hd : decode cc pc = .ok (.lconst n, 1)) (hv : Int64.ofNat (n : Nat) = v)
    (k : sl_A cl L D cA g A p l e R s m args below meth c Q nL (pc + 1) lv (.long v :: st) M) : sl_A cl L D cA g A p l e R s m args below meth c Q nL pc lv (st) M :=
  fun H locs ls hW hl => lv_lconst C.1 C.2.1 hd hv (k H locs ls hW hl)
theorem sa_iload_n (C : sl_C own cc nL ret cl L D cA g A z p s m meth c) {k : Fin 4} {i : Nat} {x : Int32} (hd : decode cc pc = .ok (.iload_n k, 1)) (hi : (k : Nat) = i) (j : Nat) (hj : lv[j]? = some (i, .int x))
    (k : sl_A cl L D cA g A p l e R s m args below meth c Q nL (pc + 1) lv (.int x :: st) M) : sl_A cl L D cA g A p l e R s m args below meth c Q nL pc lv (st) M :=
  fun H locs ls hW hl => lv_iload_n C.1 C.2.1 hd hi (lv_at hl j hj) (k H locs ls hW hl)
theorem sa_iload (C : sl_C own cc nL ret cl L D cA g A z p s m meth c) {i : Nat} {x : Int32} (hd : decode cc pc = .ok (.iload i, 2)) (j : Nat) (hj : lv[j]? = some (i, .int x))
    (k : sl_A cl L D cA g A p l e R s m args below meth c Q nL (pc + 2) lv (.int x :: st) M) : sl_A cl L D cA g A p l e R s m args below meth c Q nL pc lv (st) M :=
  fun H locs ls hW hl => lv_iload C.1 C.2.1 hd (lv_at hl j hj) (k H locs ls hW hl)
theorem sa_lload_n (C : sl_C own cc nL ret cl L D cA g A z p s m meth c) {k : Fin 4} {i : Nat} {x : Int64} (hd : decode cc pc = .ok (.lload_n k, 1)) (hi : (k : Nat) = i) (j : Nat) (hj : lv[j]? = some (i, .long x))
    (k : sl_A cl L D cA g A p l e R s m args below meth c Q nL (pc + 1) lv (.long x :: st) M) : sl_A cl L D cA g A p l e R s m args below meth c Q nL pc lv (st) M :=
  fun H locs ls hW hl => lv_lload_n C.1 C.2.1 hd hi (lv_at hl j hj) (k H locs ls hW hl)
theorem sa_lload (C : sl_C own cc nL ret cl L D cA g A z p s m meth c) {i : Nat} {x : Int64} (hd : decode cc pc = .ok (.lload i, 2)) (j : Nat) (hj : lv[j]? = some (i, .long x))
    (k : sl_A cl L D cA g A p l e R s m args below meth c Q nL (pc + 2) lv (.long x :: st) M) : sl_A cl L D cA g A p l e R s m args below meth c Q nL pc lv (st) M :=
  fun H locs ls hW hl => lv_lload C.1 C.2.1 hd (lv_at hl j hj) (k H locs ls hW hl)
theorem sa_aload_n (C : sl_C own cc nL ret cl L D cA g A z p s m meth c) {k : Fin 4} {i : Nat} {x : Nat} (hd : decode cc pc = .ok (.aload_n k, 1)) (hi : (k : Nat) = i) (j : Nat) (hj : lv[j]? = some (i, .ref x))
    (k : sl_A cl L D cA g A p l e R s m args below meth c Q nL (pc + 1) lv (.ref x :: st) M) : sl_A cl L D cA g A p l e R s m args below meth c Q nL pc lv (st) M :=
  fun H locs ls hW hl => lv_aload_n C.1 C.2.1 hd hi (lv_at hl j hj) (k H locs ls hW hl)
theorem sa_aload (C : sl_C own cc nL ret cl L D cA g A z p s m meth c) {i : Nat} {x : Nat} (hd : decode cc pc = .ok (.aload i, 2)) (j : Nat) (hj : lv[j]? = some (i, .ref x))
    (k : sl_A cl L D cA g A p l e R s m args below meth c Q nL (pc + 2) lv (.ref x :: st) M) : sl_A cl L D cA g A p l e R s m args below meth c Q nL pc lv (st) M :=
  fun H locs ls hW hl => lv_aload C.1 C.2.1 hd (lv_at hl j hj) (k H locs ls hW hl)
theorem sa_istore_n (C : sl_C own cc nL ret cl L D cA g A z p s m meth c) {k : Fin 4} {i : Nat} {x : Int32} {lv2 : List (Nat × Value)} (hd : decode cc pc = .ok (.istore_n k, 1)) (hi : (k : Nat) = i) (hn : i < nL) (hl2 : (i, Value.int x) :: lv.filter (fun q => !(q.1 == i) && !(q.1 + 1 == i && q.2.category == 2)) = lv2)
    (k : sl_A cl L D cA g A p l e R s m args below meth c Q nL (pc + 1) lv2 st M) : sl_A cl L D cA g A p l e R s m args below meth c Q nL pc lv (.int x :: st) M :=
  fun H locs ls hW hl => lv_istore_n C.1 C.2.1 hd hi hl hn hl2 (fun ls2 h2 => k H locs ls2 hW h2)
theorem sa_istore (C : sl_C own cc nL ret cl L D cA g A z p s m meth c) {i : Nat} {x : Int32} {lv2 : List (Nat × Value)} (hd : decode cc pc = .ok (.istore i, 2))  (hn : i < nL) (hl2 : (i, Value.int x) :: lv.filter (fun q => !(q.1 == i) && !(q.1 + 1 == i && q.2.category == 2)) = lv2)
    (k : sl_A cl L D cA g A p l e R s m args below meth c Q nL (pc + 2) lv2 st M) : sl_A cl L D cA g A p l e R s m args below meth c Q nL pc lv (.int x :: st) M :=
  fun H locs ls hW hl => lv_istore C.1 C.2.1 hd  hl hn hl2 (fun ls2 h2 => k H locs ls2 hW h2)
theorem sa_lstore_n (C : sl_C own cc nL ret cl L D cA g A z p s m meth c) {k : Fin 4} {i : Nat} {x : Int64} {lv2 : List (Nat × Value)} (hd : decode cc pc = .ok (.lstore_n k, 1)) (hi : (k : Nat) = i) (hn : i + 1 < nL) (hl2 : (i, Value.long x) :: lv.filter (fun q => !(q.1 == i) && (!(q.1 == i + 1) && !(q.1 + 1 == i && q.2.category == 2))) = lv2)
    (k : sl_A cl L D cA g A p l e R s m args below meth c Q nL (pc + 1) lv2 st M) : sl_A cl L D cA g A p l e R s m args below meth c Q nL pc lv (.long x :: st) M :=
  fun H locs ls hW hl => lv_lstore_n C.1 C.2.1 hd hi hl hn hl2 (fun ls2 h2 => k H locs ls2 hW h2)
theorem sa_lstore (C : sl_C own cc nL ret cl L D cA g A z p s m meth c) {i : Nat} {x : Int64} {lv2 : List (Nat × Value)} (hd : decode cc pc = .ok (.lstore i, 2))  (hn : i + 1 < nL) (hl2 : (i, Value.long x) :: lv.filter (fun q => !(q.1 == i) && (!(q.1 == i + 1) && !(q.1 + 1 == i && q.2.category == 2))) = lv2)
    (k : sl_A cl L D cA g A p l e R s m args below meth c Q nL (pc + 2) lv2 st M) : sl_A cl L D cA g A p l e R s m args below meth c Q nL pc lv (.long x :: st) M :=
  fun H locs ls hW hl => lv_lstore C.1 C.2.1 hd  hl hn hl2 (fun ls2 h2 => k H locs ls2 hW h2)
theorem sa_iinc (C : sl_C own cc nL ret cl L D cA g A z p s m meth c) {i : Nat} {n : Int} {x v : Int32} {lv2 : List (Nat × Value)} (hd : decode cc pc = .ok (.iinc i n, 3)) (j : Nat) (hj : lv[j]? = some (i, .int x)) (hv : x + Int32.ofInt n = v) (hn : i < nL) (hl2 : (i, Value.int v) :: lv.filter (fun q => !(q.1 == i) && !(q.1 + 1 == i && q.2.category == 2)) = lv2)
    (k : sl_A cl L D cA g A p l e R s m args below meth c Q nL (pc + 3) lv2 st M) : sl_A cl L D cA g A p l e R s m args below meth c Q nL pc lv st M :=
  fun H locs ls hW hl => lv_iinc C.1 C.2.1 hd hl hj hv hn hl2 (fun ls2 h2 => k H locs ls2 hW h2)
theorem sa_iadd (C : sl_C own cc nL ret cl L D cA g A z p s m meth c) {x y : Int32} (hd : decode cc pc = .ok (.iadd, 1)) 
    (k : sl_A cl L D cA g A p l e R s m args below meth c Q nL (pc + 1) lv (.int (x + y) :: st) M) : sl_A cl L D cA g A p l e R s m args below meth c Q nL pc lv (.int y :: .int x :: st) M :=
  fun H locs ls hW hl => lv_iadd C.1 C.2.1 hd  (k H locs ls hW hl)
theorem sa_isub (C : sl_C own cc nL ret cl L D cA g A z p s m meth c) {x y : Int32} (hd : decode cc pc = .ok (.isub, 1)) 
    (k : sl_A cl L D cA g A p l e R s m args below meth c Q nL (pc + 1) lv (.int (x - y) :: st) M) : sl_A cl L D cA g A p l e R s m args below meth c Q nL pc lv (.int y :: .int x :: st) M :=
  fun H locs ls hW hl => lv_isub C.1 C.2.1 hd  (k H locs ls hW hl)
theorem sa_imul (C : sl_C own cc nL ret cl L D cA g A z p s m meth c) {x y : Int32} (hd : decode cc pc = .ok (.imul, 1)) 
    (k : sl_A cl L D cA g A p l e R s m args below meth c Q nL (pc + 1) lv (.int (x * y) :: st) M) : sl_A cl L D cA g A p l e R s m args below meth c Q nL pc lv (.int y :: .int x :: st) M :=
  fun H locs ls hW hl => lv_imul C.1 C.2.1 hd  (k H locs ls hW hl)
theorem sa_iand (C : sl_C own cc nL ret cl L D cA g A z p s m meth c) {x y : Int32} (hd : decode cc pc = .ok (.iand, 1)) 
    (k : sl_A cl L D cA g A p l e R s m args below meth c Q nL (pc + 1) lv (.int (x &&& y) :: st) M) : sl_A cl L D cA g A p l e R s m args below meth c Q nL pc lv (.int y :: .int x :: st) M :=
  fun H locs ls hW hl => lv_iand C.1 C.2.1 hd  (k H locs ls hW hl)
theorem sa_ior (C : sl_C own cc nL ret cl L D cA g A z p s m meth c) {x y : Int32} (hd : decode cc pc = .ok (.ior, 1)) 
    (k : sl_A cl L D cA g A p l e R s m args below meth c Q nL (pc + 1) lv (.int (x ||| y) :: st) M) : sl_A cl L D cA g A p l e R s m args below meth c Q nL pc lv (.int y :: .int x :: st) M :=
  fun H locs ls hW hl => lv_ior C.1 C.2.1 hd  (k H locs ls hW hl)
theorem sa_ixor (C : sl_C own cc nL ret cl L D cA g A z p s m meth c) {x y : Int32} (hd : decode cc pc = .ok (.ixor, 1)) 
    (k : sl_A cl L D cA g A p l e R s m args below meth c Q nL (pc + 1) lv (.int (x ^^^ y) :: st) M) : sl_A cl L D cA g A p l e R s m args below meth c Q nL pc lv (.int y :: .int x :: st) M :=
  fun H locs ls hW hl => lv_ixor C.1 C.2.1 hd  (k H locs ls hW hl)
theorem sa_ishl (C : sl_C own cc nL ret cl L D cA g A z p s m meth c) {x y : Int32} (hd : decode cc pc = .ok (.ishl, 1)) 
    (k : sl_A cl L D cA g A p l e R s m args below meth c Q nL (pc + 1) lv (.int (x <<< (y &&& 31)) :: st) M) : sl_A cl L D cA g A p l e R s m args below meth c Q nL pc lv (.int y :: .int x :: st) M :=
  fun H locs ls hW hl => lv_ishl C.1 C.2.1 hd  (k H locs ls hW hl)
theorem sa_ishr (C : sl_C own cc nL ret cl L D cA g A z p s m meth c) {x y : Int32} (hd : decode cc pc = .ok (.ishr, 1)) 
    (k : sl_A cl L D cA g A p l e R s m args below meth c Q nL (pc + 1) lv (.int (x >>> (y &&& 31)) :: st) M) : sl_A cl L D cA g A p l e R s m args below meth c Q nL pc lv (.int y :: .int x :: st) M :=
  fun H locs ls hW hl => lv_ishr C.1 C.2.1 hd  (k H locs ls hW hl)
theorem sa_iushr (C : sl_C own cc nL ret cl L D cA g A z p s m meth c) {x y : Int32} (hd : decode cc pc = .ok (.iushr, 1))
    (k : sl_A cl L D cA g A p l e R s m args below meth c Q nL (pc + 1) lv (.int (x.toUInt32 >>> (y.toUInt32 &&& Int32.toUInt32 31)).toInt32 :: st) M) : sl_A cl L D cA g A p l e R s m args below meth c Q nL pc lv (.int y :: .int x :: st) M :=
  fun H locs ls hW hl => lv_iushr C.1 C.2.1 hd rfl (k H locs ls hW hl)
theorem sa_ineg (C : sl_C own cc nL ret cl L D cA g A z p s m meth c) {x : Int32} (hd : decode cc pc = .ok (.ineg, 1))
    (k : sl_A cl L D cA g A p l e R s m args below meth c Q nL (pc + 1) lv (.int (-x) :: st) M) : sl_A cl L D cA g A p l e R s m args below meth c Q nL pc lv (.int x :: st) M :=
  fun H locs ls hW hl => lv_ineg C.1 C.2.1 hd (k H locs ls hW hl)
theorem sa_idiv (C : sl_C own cc nL ret cl L D cA g A z p s m meth c) {x y v : Int32} (hd : decode cc pc = .ok (.idiv, 1)) (h : sl_dv x y = some v)
    (k : sl_A cl L D cA g A p l e R s m args below meth c Q nL (pc + 1) lv (.int v :: st) M) : sl_A cl L D cA g A p l e R s m args below meth c Q nL pc lv (.int y :: .int x :: st) M :=
  fun H locs ls hW hl => by
  unfold sl_dv at h
  by_cases hc : y = 0
  · rw [if_pos hc] at h; cases h
  · rw [if_neg hc] at h; obtain rfl := Option.some.inj h; exact lv_idiv C.1 C.2.1 hd hc (k H locs ls hW hl)
theorem sa_irem (C : sl_C own cc nL ret cl L D cA g A z p s m meth c) {x y v : Int32} (hd : decode cc pc = .ok (.irem, 1)) (h : sl_rm x y = some v)
    (k : sl_A cl L D cA g A p l e R s m args below meth c Q nL (pc + 1) lv (.int v :: st) M) : sl_A cl L D cA g A p l e R s m args below meth c Q nL pc lv (.int y :: .int x :: st) M :=
  fun H locs ls hW hl => by
  unfold sl_rm at h
  by_cases hc : y = 0
  · rw [if_pos hc] at h; cases h
  · rw [if_neg hc] at h; obtain rfl := Option.some.inj h; exact lv_irem C.1 C.2.1 hd hc (k H locs ls hW hl)
theorem sa_idivc (C : sl_C own cc nL ret cl L D cA g A z p s m meth c) {x y : Int32} (hd : decode cc pc = .ok (.idiv, 1)) (hc : ¬ y = 0)
    (k : sl_A cl L D cA g A p l e R s m args below meth c Q nL (pc + 1) lv (.int (x / y) :: st) M) : sl_A cl L D cA g A p l e R s m args below meth c Q nL pc lv (.int y :: .int x :: st) M :=
  fun H locs ls hW hl => lv_idiv C.1 C.2.1 hd hc (k H locs ls hW hl)
theorem sa_iremc (C : sl_C own cc nL ret cl L D cA g A z p s m meth c) {x y : Int32} (hd : decode cc pc = .ok (.irem, 1)) (hc : ¬ y = 0)
    (k : sl_A cl L D cA g A p l e R s m args below meth c Q nL (pc + 1) lv (.int (x - x / y * y) :: st) M) : sl_A cl L D cA g A p l e R s m args below meth c Q nL pc lv (.int y :: .int x :: st) M :=
  fun H locs ls hW hl => lv_irem C.1 C.2.1 hd hc (k H locs ls hW hl)
theorem sa_i2l (C : sl_C own cc nL ret cl L D cA g A z p s m meth c) {x : Int32} (hd : decode cc pc = .ok (.i2l, 1))
    (k : sl_A cl L D cA g A p l e R s m args below meth c Q nL (pc + 1) lv (.long x.toInt64 :: st) M) : sl_A cl L D cA g A p l e R s m args below meth c Q nL pc lv (.int x :: st) M :=
  fun H locs ls hW hl => lv_i2l C.1 C.2.1 hd rfl (k H locs ls hW hl)
theorem sa_i2b (C : sl_C own cc nL ret cl L D cA g A z p s m meth c) {x : Int32} (hd : decode cc pc = .ok (.i2b, 1))
    (k : sl_A cl L D cA g A p l e R s m args below meth c Q nL (pc + 1) lv (.int x.toInt8.toInt32 :: st) M) : sl_A cl L D cA g A p l e R s m args below meth c Q nL pc lv (.int x :: st) M :=
  fun H locs ls hW hl => lv_i2b C.1 C.2.1 hd rfl (k H locs ls hW hl)
theorem sa_i2s (C : sl_C own cc nL ret cl L D cA g A z p s m meth c) {x : Int32} (hd : decode cc pc = .ok (.i2s, 1))
    (k : sl_A cl L D cA g A p l e R s m args below meth c Q nL (pc + 1) lv (.int x.toInt16.toInt32 :: st) M) : sl_A cl L D cA g A p l e R s m args below meth c Q nL pc lv (.int x :: st) M :=
  fun H locs ls hW hl => lv_i2s C.1 C.2.1 hd rfl (k H locs ls hW hl)
theorem sa_i2c (C : sl_C own cc nL ret cl L D cA g A z p s m meth c) {x : Int32} (hd : decode cc pc = .ok (.i2c, 1))
    (k : sl_A cl L D cA g A p l e R s m args below meth c Q nL (pc + 1) lv (.int (x.toUInt32 % 65536).toInt32 :: st) M) : sl_A cl L D cA g A p l e R s m args below meth c Q nL pc lv (.int x :: st) M :=
  fun H locs ls hW hl => lv_i2c C.1 C.2.1 hd rfl (k H locs ls hW hl)
theorem sa_ladd (C : sl_C own cc nL ret cl L D cA g A z p s m meth c) {x y : Int64} (hd : decode cc pc = .ok (.ladd, 1)) 
    (k : sl_A cl L D cA g A p l e R s m args below meth c Q nL (pc + 1) lv (.long (x + y) :: st) M) : sl_A cl L D cA g A p l e R s m args below meth c Q nL pc lv (.long y :: .long x :: st) M :=
  fun H locs ls hW hl => lv_ladd C.1 C.2.1 hd  (k H locs ls hW hl)
theorem sa_lmul (C : sl_C own cc nL ret cl L D cA g A z p s m meth c) {x y : Int64} (hd : decode cc pc = .ok (.lmul, 1)) 
    (k : sl_A cl L D cA g A p l e R s m args below meth c Q nL (pc + 1) lv (.long (x * y) :: st) M) : sl_A cl L D cA g A p l e R s m args below meth c Q nL pc lv (.long y :: .long x :: st) M :=
  fun H locs ls hW hl => lv_lmul C.1 C.2.1 hd  (k H locs ls hW hl)
theorem sa_lcmp (C : sl_C own cc nL ret cl L D cA g A z p s m meth c) {x y : Int64} (hd : decode cc pc = .ok (.lcmp, 1))
    (k : sl_A cl L D cA g A p l e R s m args below meth c Q nL (pc + 1) lv (.int (lg_cmp x y) :: st) M) : sl_A cl L D cA g A p l e R s m args below meth c Q nL pc lv (.long y :: .long x :: st) M :=
  fun H locs ls hW hl => W.lcmp C.1 C.2.1 hd (k H locs ls hW hl)
theorem sa_dup (C : sl_C own cc nL ret cl L D cA g A z p s m meth c) {va : Value} (hd : decode cc pc = .ok (.dup, 1)) (hv : va.category = 1)
    (k : sl_A cl L D cA g A p l e R s m args below meth c Q nL (pc + 1) lv (va :: va :: st) M) : sl_A cl L D cA g A p l e R s m args below meth c Q nL pc lv (va :: st) M :=
  fun H locs ls hW hl => lv_dup C.1 C.2.1 hd hv (k H locs ls hW hl)
theorem sa_pop (C : sl_C own cc nL ret cl L D cA g A z p s m meth c) {va : Value} (hd : decode cc pc = .ok (.pop, 1)) (hv : va.category = 1)
    (k : sl_A cl L D cA g A p l e R s m args below meth c Q nL (pc + 1) lv (st) M) : sl_A cl L D cA g A p l e R s m args below meth c Q nL pc lv (va :: st) M :=
  fun H locs ls hW hl => lv_pop C.1 C.2.1 hd hv (k H locs ls hW hl)
theorem sa_dup2 (C : sl_C own cc nL ret cl L D cA g A z p s m meth c) {va vb : Value} (hd : decode cc pc = .ok (.dup2, 1)) (hv : va.category = 1) (hw : vb.category = 1)
    (k : sl_A cl L D cA g A p l e R s m args below meth c Q nL (pc + 1) lv (va :: vb :: va :: vb :: st) M) : sl_A cl L D cA g A p l e R s m args below meth c Q nL pc lv (va :: vb :: st) M :=
  fun H locs ls hW hl => lv_dup2_11 C.1 C.2.1 hd hv hw (k H locs ls hW hl)
theorem sa_if_eq (C : sl_C own cc nL ret cl L D cA g A z p s m meth c) {x : Int32} {off : Int} {tgt : Nat} (hd : decode cc pc = .ok (.ifCond .eq off, 3)) (ht : (pc : Int) + off = (tgt : Int))
    (kt : x = 0 → sl_A cl L D cA g A p l e R s m args below meth c Q nL tgt lv st M) (kf : ¬ x = 0 → sl_A cl L D cA g A p l e R s m args below meth c Q nL (pc + 3) lv st M) : sl_A cl L D cA g A p l e R s m args below meth c Q nL pc lv (.int x :: st) M :=
  fun H locs ls hW hl => lv_if_eq C.1 C.2.1 hd ht (fun q => kt q H locs ls hW hl) (fun q => kf q H locs ls hW hl)
theorem sa_icmp_eq (C : sl_C own cc nL ret cl L D cA g A z p s m meth c) {x y : Int32} {off : Int} {tgt : Nat} (hd : decode cc pc = .ok (.if_icmp .eq off, 3)) (ht : (pc : Int) + off = (tgt : Int))
    (kt : x = y → sl_A cl L D cA g A p l e R s m args below meth c Q nL tgt lv st M) (kf : ¬ x = y → sl_A cl L D cA g A p l e R s m args below meth c Q nL (pc + 3) lv st M) : sl_A cl L D cA g A p l e R s m args below meth c Q nL pc lv (.int y :: .int x :: st) M :=
  fun H locs ls hW hl => lv_icmp_eq C.1 C.2.1 hd ht (fun q => kt q H locs ls hW hl) (fun q => kf q H locs ls hW hl)
theorem sa_if_ne (C : sl_C own cc nL ret cl L D cA g A z p s m meth c) {x : Int32} {off : Int} {tgt : Nat} (hd : decode cc pc = .ok (.ifCond .ne off, 3)) (ht : (pc : Int) + off = (tgt : Int))
    (kt : ¬ x = 0 → sl_A cl L D cA g A p l e R s m args below meth c Q nL tgt lv st M) (kf : x = 0 → sl_A cl L D cA g A p l e R s m args below meth c Q nL (pc + 3) lv st M) : sl_A cl L D cA g A p l e R s m args below meth c Q nL pc lv (.int x :: st) M :=
  fun H locs ls hW hl => lv_if_ne C.1 C.2.1 hd ht (fun q => kt q H locs ls hW hl) (fun q => kf q H locs ls hW hl)
theorem sa_icmp_ne (C : sl_C own cc nL ret cl L D cA g A z p s m meth c) {x y : Int32} {off : Int} {tgt : Nat} (hd : decode cc pc = .ok (.if_icmp .ne off, 3)) (ht : (pc : Int) + off = (tgt : Int))
    (kt : ¬ x = y → sl_A cl L D cA g A p l e R s m args below meth c Q nL tgt lv st M) (kf : x = y → sl_A cl L D cA g A p l e R s m args below meth c Q nL (pc + 3) lv st M) : sl_A cl L D cA g A p l e R s m args below meth c Q nL pc lv (.int y :: .int x :: st) M :=
  fun H locs ls hW hl => lv_icmp_ne C.1 C.2.1 hd ht (fun q => kt q H locs ls hW hl) (fun q => kf q H locs ls hW hl)
theorem sa_if_lt (C : sl_C own cc nL ret cl L D cA g A z p s m meth c) {x : Int32} {off : Int} {tgt : Nat} (hd : decode cc pc = .ok (.ifCond .lt off, 3)) (ht : (pc : Int) + off = (tgt : Int))
    (kt : x < 0 → sl_A cl L D cA g A p l e R s m args below meth c Q nL tgt lv st M) (kf : ¬ x < 0 → sl_A cl L D cA g A p l e R s m args below meth c Q nL (pc + 3) lv st M) : sl_A cl L D cA g A p l e R s m args below meth c Q nL pc lv (.int x :: st) M :=
  fun H locs ls hW hl => lv_if_lt C.1 C.2.1 hd ht (fun q => kt q H locs ls hW hl) (fun q => kf q H locs ls hW hl)
theorem sa_icmp_lt (C : sl_C own cc nL ret cl L D cA g A z p s m meth c) {x y : Int32} {off : Int} {tgt : Nat} (hd : decode cc pc = .ok (.if_icmp .lt off, 3)) (ht : (pc : Int) + off = (tgt : Int))
    (kt : x < y → sl_A cl L D cA g A p l e R s m args below meth c Q nL tgt lv st M) (kf : ¬ x < y → sl_A cl L D cA g A p l e R s m args below meth c Q nL (pc + 3) lv st M) : sl_A cl L D cA g A p l e R s m args below meth c Q nL pc lv (.int y :: .int x :: st) M :=
  fun H locs ls hW hl => lv_icmp_lt C.1 C.2.1 hd ht (fun q => kt q H locs ls hW hl) (fun q => kf q H locs ls hW hl)
theorem sa_if_ge (C : sl_C own cc nL ret cl L D cA g A z p s m meth c) {x : Int32} {off : Int} {tgt : Nat} (hd : decode cc pc = .ok (.ifCond .ge off, 3)) (ht : (pc : Int) + off = (tgt : Int))
    (kt : 0 ≤ x → sl_A cl L D cA g A p l e R s m args below meth c Q nL tgt lv st M) (kf : ¬ 0 ≤ x → sl_A cl L D cA g A p l e R s m args below meth c Q nL (pc + 3) lv st M) : sl_A cl L D cA g A p l e R s m args below meth c Q nL pc lv (.int x :: st) M :=
  fun H locs ls hW hl => lv_if_ge C.1 C.2.1 hd ht (fun q => kt q H locs ls hW hl) (fun q => kf q H locs ls hW hl)
theorem sa_icmp_ge (C : sl_C own cc nL ret cl L D cA g A z p s m meth c) {x y : Int32} {off : Int} {tgt : Nat} (hd : decode cc pc = .ok (.if_icmp .ge off, 3)) (ht : (pc : Int) + off = (tgt : Int))
    (kt : y ≤ x → sl_A cl L D cA g A p l e R s m args below meth c Q nL tgt lv st M) (kf : ¬ y ≤ x → sl_A cl L D cA g A p l e R s m args below meth c Q nL (pc + 3) lv st M) : sl_A cl L D cA g A p l e R s m args below meth c Q nL pc lv (.int y :: .int x :: st) M :=
  fun H locs ls hW hl => lv_icmp_ge C.1 C.2.1 hd ht (fun q => kt q H locs ls hW hl) (fun q => kf q H locs ls hW hl)
theorem sa_if_gt (C : sl_C own cc nL ret cl L D cA g A z p s m meth c) {x : Int32} {off : Int} {tgt : Nat} (hd : decode cc pc = .ok (.ifCond .gt off, 3)) (ht : (pc : Int) + off = (tgt : Int))
    (kt : 0 < x → sl_A cl L D cA g A p l e R s m args below meth c Q nL tgt lv st M) (kf : ¬ 0 < x → sl_A cl L D cA g A p l e R s m args below meth c Q nL (pc + 3) lv st M) : sl_A cl L D cA g A p l e R s m args below meth c Q nL pc lv (.int x :: st) M :=
  fun H locs ls hW hl => lv_if_gt C.1 C.2.1 hd ht (fun q => kt q H locs ls hW hl) (fun q => kf q H locs ls hW hl)
theorem sa_icmp_gt (C : sl_C own cc nL ret cl L D cA g A z p s m meth c) {x y : Int32} {off : Int} {tgt : Nat} (hd : decode cc pc = .ok (.if_icmp .gt off, 3)) (ht : (pc : Int) + off = (tgt : Int))
    (kt : y < x → sl_A cl L D cA g A p l e R s m args below meth c Q nL tgt lv st M) (kf : ¬ y < x → sl_A cl L D cA g A p l e R s m args below meth c Q nL (pc + 3) lv st M) : sl_A cl L D cA g A p l e R s m args below meth c Q nL pc lv (.int y :: .int x :: st) M :=
  fun H locs ls hW hl => lv_icmp_gt C.1 C.2.1 hd ht (fun q => kt q H locs ls hW hl) (fun q => kf q H locs ls hW hl)
theorem sa_if_le (C : sl_C own cc nL ret cl L D cA g A z p s m meth c) {x : Int32} {off : Int} {tgt : Nat} (hd : decode cc pc = .ok (.ifCond .le off, 3)) (ht : (pc : Int) + off = (tgt : Int))
    (kt : x ≤ 0 → sl_A cl L D cA g A p l e R s m args below meth c Q nL tgt lv st M) (kf : ¬ x ≤ 0 → sl_A cl L D cA g A p l e R s m args below meth c Q nL (pc + 3) lv st M) : sl_A cl L D cA g A p l e R s m args below meth c Q nL pc lv (.int x :: st) M :=
  fun H locs ls hW hl => lv_if_le C.1 C.2.1 hd ht (fun q => kt q H locs ls hW hl) (fun q => kf q H locs ls hW hl)
theorem sa_icmp_le (C : sl_C own cc nL ret cl L D cA g A z p s m meth c) {x y : Int32} {off : Int} {tgt : Nat} (hd : decode cc pc = .ok (.if_icmp .le off, 3)) (ht : (pc : Int) + off = (tgt : Int))
    (kt : x ≤ y → sl_A cl L D cA g A p l e R s m args below meth c Q nL tgt lv st M) (kf : ¬ x ≤ y → sl_A cl L D cA g A p l e R s m args below meth c Q nL (pc + 3) lv st M) : sl_A cl L D cA g A p l e R s m args below meth c Q nL pc lv (.int y :: .int x :: st) M :=
  fun H locs ls hW hl => lv_icmp_le C.1 C.2.1 hd ht (fun q => kt q H locs ls hW hl) (fun q => kf q H locs ls hW hl)
theorem sa_goto (C : sl_C own cc nL ret cl L D cA g A z p s m meth c) {off : Int} {tgt : Nat} (hd : decode cc pc = .ok (.goto off, 3)) (ht : (pc : Int) + off = (tgt : Int)) (k : sl_A cl L D cA g A p l e R s m args below meth c Q nL tgt lv st M) : sl_A cl L D cA g A p l e R s m args below meth c Q nL pc lv st M :=
  fun H locs ls hW hl => lv_goto C.1 C.2.1 hd ht (k H locs ls hW hl)
theorem sa_swIn (C : sl_C own cc nL ret cl L D cA g A z p s m meth c) {x k : Int32} {dflt lo hi : Int} {offs : Array Int} {len : Nat} {off : Int} {tgt : Nat} (hd : decode cc pc = .ok (.tableswitch dflt lo hi offs, len)) (hx : x = k) (hk : ¬ k.toInt < lo ∧ ¬ hi < k.toInt ∧ offs[(k.toInt - lo).toNat]? = some off) (ht : (pc : Int) + off = (tgt : Int)) (kk : sl_A cl L D cA g A p l e R s m args below meth c Q nL tgt lv st M) : sl_A cl L D cA g A p l e R s m args below meth c Q nL pc lv (.int x :: st) M := by
  subst hx
  exact fun H locs ls hW hl => lv_tableIn C.1 C.2.1 hd hk.1 hk.2.1 hk.2.2 ht (kk H locs ls hW hl)
theorem sa_swOut (C : sl_C own cc nL ret cl L D cA g A z p s m meth c) {x : Int32} {dflt lo hi : Int} {offs : Array Int} {len : Nat} {tgt : Nat} (hd : decode cc pc = .ok (.tableswitch dflt lo hi offs, len)) (hx : x.toInt < lo ∨ hi < x.toInt) (ht : (pc : Int) + dflt = (tgt : Int)) (kk : sl_A cl L D cA g A p l e R s m args below meth c Q nL tgt lv st M) : sl_A cl L D cA g A p l e R s m args below meth c Q nL pc lv (.int x :: st) M :=
  fun H locs ls hW hl => lv_tableOut C.1 C.2.1 hd hx ht (kk H locs ls hW hl)
theorem sa_sub (ks : List Nat) {lv2 : List (Nat × Value)} (h : lv_pick lv ks = lv2) (k : sl_A cl L D cA g A p l e R s m args below meth c Q nL pc lv2 st M) : sl_A cl L D cA g A p l e R s m args below meth c Q nL pc lv st M :=
  fun H locs ls hW hl => k H locs ls hW (lv_sub hl ks h)
theorem sa_pc {pc2 : Nat} (h : pc = pc2) (k : sl_A cl L D cA g A p l e R s m args below meth c Q nL pc2 lv st M) : sl_A cl L D cA g A p l e R s m args below meth c Q nL pc lv st M := h ▸ k
theorem sa_ldc (C : sl_C own cc nL ret cl L D cA g A z p s m meth c) {index : Nat} {v : Int32} (hd : decode cc pc = .ok (.ldc index, 2)) (hw : Cond.constant own index v ∈ lw_tbl) (k : sl_A cl L D cA g A p l e R s m args below meth c Q nL (pc + 2) lv (.int v :: st) M) : sl_A cl L D cA g A p l e R s m args below meth c Q nL pc lv st M :=
  fun H locs ls hW hl => lv_ldc C.1 C.2.1 C.2.2.2.1 (C.2.2.2.2.2.2.2.2.1.1 _ hw rfl _) hd (k H locs ls hW hl)
theorem sa_ldcw (C : sl_C own cc nL ret cl L D cA g A z p s m meth c) {index : Nat} {v : Int32} (hd : decode cc pc = .ok (.ldc_w index, 3)) (hw : Cond.constant own index v ∈ lw_tbl) (k : sl_A cl L D cA g A p l e R s m args below meth c Q nL (pc + 3) lv (.int v :: st) M) : sl_A cl L D cA g A p l e R s m args below meth c Q nL pc lv st M :=
  fun H locs ls hW hl => lv_ldcw C.1 C.2.1 C.2.2.2.1 (C.2.2.2.2.2.2.2.2.1.1 _ hw rfl _) hd (k H locs ls hW hl)
theorem sa_ldc2 (C : sl_C own cc nL ret cl L D cA g A z p s m meth c) {index : Nat} {v : Int64} (hd : decode cc pc = .ok (.ldc2_w index, 3)) (hw : Cond.constantLong own index v ∈ lw_tbl) (k : sl_A cl L D cA g A p l e R s m args below meth c Q nL (pc + 3) lv (.long v :: st) M) : sl_A cl L D cA g A p l e R s m args below meth c Q nL pc lv st M :=
  fun H locs ls hW hl => lv_ldc2 C.1 C.2.1 C.2.2.2.1 (C.2.2.2.2.2.2.2.2.1.1 _ hw rfl _) hd (k H locs ls hW hl)
/-- what is said of a class's fields -/
def sl_H (cl : List vw_C) (ci : Nat) (Cn : String) (T : u_T) (N : Nat) (ty : Nat → FieldType) : Prop := cl[ci]? = some (Cn, T, N) ∧ (∀ w ∈ u_ws Cn T N, w ∈ lw_tbl) ∧ (∀ w ∈ u_ws Cn T N, goodWord w = true) ∧ (∀ k, k < N → parseFieldDescriptor (T k).2.2.1 = some (ty k)) ∧ (∀ a, a < N → ∀ b, b < N → a ≠ b → (T a).2.1 ≠ (T b).2.1)
theorem sa_hts (C : sl_C own cc nL ret cl L D cA g A z p s m meth c) {Cn : String} {T : u_T} {N ci : Nat} {ty : Nat → FieldType} (hH : sl_H cl ci Cn T N ty) : ∀ w ∈ u_ws Cn T N, w.before args s = true := fun w hw => C.2.2.2.2.2.2.2.2.1.1 w (hH.2.1 w hw) (hH.2.2.1 w hw) args
theorem sa_getI (C : sl_C own cc nL ret cl L D cA g A z p s m meth c) {index ci N : Nat} {Cn : String} {T : u_T} {ty : Nat → FieldType} {r : Nat} {fs : List (Option Nat)} {k : Nat} (hH : sl_H cl ci Cn T N ty) (hd : decode cc pc = .ok (.getfield index, 3)) (hw : Cond.fieldLink own index (T k).1 (T k).2.1 (T k).2.2.1 ∈ lw_tbl) (hk : k < N) (hr : L[r]? = some (.inr (ci, fs))) (hf : fs[k]? = some none)
    (kk : sl_A cl L D cA g A p l e R s m args below meth c Q nL (pc + 3) lv (.int (M r k) :: st) M) : sl_A cl L D cA g A p l e R s m args below meth c Q nL pc lv (.ref (g r) :: st) M :=
  fun H locs ls hW hl => va_get C.1 C.2.1 (sa_hts (args := args) C hH) (fun _ h => h) C.2.2.2.1 C.2.2.2.2.2.2.1 hW.1 r (sl_w_get hr) hH.1 k hk (C.2.2.2.2.2.2.2.2.1.1 _ hw rfl _) (fun _ h => h) (by rw [sl_f_get, hf, Nat.zero_add]; rfl) hd (kk H locs ls hW hl)
theorem sa_getR (C : sl_C own cc nL ret cl L D cA g A z p s m meth c) {index ci N : Nat} {Cn : String} {T : u_T} {ty : Nat → FieldType} {r r2 : Nat} {fs : List (Option Nat)} {k : Nat} (hH : sl_H cl ci Cn T N ty) (hd : decode cc pc = .ok (.getfield index, 3)) (hw : Cond.fieldLink own index (T k).1 (T k).2.1 (T k).2.2.1 ∈ lw_tbl) (hk : k < N) (hr : L[r]? = some (.inr (ci, fs))) (hf : fs[k]? = some (some r2))
    (kk : sl_A cl L D cA g A p l e R s m args below meth c Q nL (pc + 3) lv (.ref (g r2) :: st) M) : sl_A cl L D cA g A p l e R s m args below meth c Q nL pc lv (.ref (g r) :: st) M :=
  fun H locs ls hW hl => va_get C.1 C.2.1 (sa_hts (args := args) C hH) (fun _ h => h) C.2.2.2.1 C.2.2.2.2.2.2.1 hW.1 r (sl_w_get hr) hH.1 k hk (C.2.2.2.2.2.2.2.2.1.1 _ hw rfl _) (fun _ h => h) (by rw [sl_f_get, hf, Nat.zero_add]; rfl) hd (kk H locs ls hW hl)
theorem sa_getIN (C : sl_C own cc nL ret cl L D cA g A z p s m meth c) {index ci N : Nat} {Cn host : String} {T : u_T} {ty : Nat → FieldType} {r : Nat} {fs : List (Option Nat)} {k : Nat} (hH : sl_H cl ci Cn T N ty) (hd : decode cc pc = .ok (.getfield index, 3)) (hw : Cond.fieldLinkNest own index (T k).1 (T k).2.1 (T k).2.2.1 host ∈ lw_tbl) (hk : k < N) (hr : L[r]? = some (.inr (ci, fs))) (hf : fs[k]? = some none)
    (kk : sl_A cl L D cA g A p l e R s m args below meth c Q nL (pc + 3) lv (.int (M r k) :: st) M) : sl_A cl L D cA g A p l e R s m args below meth c Q nL pc lv (.ref (g r) :: st) M :=
  fun H locs ls hW hl => va_getN C.1 C.2.1 (sa_hts (args := args) C hH) (fun _ h => h) C.2.2.2.1 C.2.2.2.2.2.2.1 hW.1 r (sl_w_get hr) hH.1 k hk (va_Nw.use rfl (C.2.2.2.2.2.2.2.2.1.2.1 _ _ _ _ _ _ hw)) (fun _ h => h) (by rw [sl_f_get, hf, Nat.zero_add]; rfl) hd (kk H locs ls hW hl)
theorem sa_getRN (C : sl_C own cc nL ret cl L D cA g A z p s m meth c) {index ci N : Nat} {Cn host : String} {T : u_T} {ty : Nat → FieldType} {r r2 : Nat} {fs : List (Option Nat)} {k : Nat} (hH : sl_H cl ci Cn T N ty) (hd : decode cc pc = .ok (.getfield index, 3)) (hw : Cond.fieldLinkNest own index (T k).1 (T k).2.1 (T k).2.2.1 host ∈ lw_tbl) (hk : k < N) (hr : L[r]? = some (.inr (ci, fs))) (hf : fs[k]? = some (some r2))
    (kk : sl_A cl L D cA g A p l e R s m args below meth c Q nL (pc + 3) lv (.ref (g r2) :: st) M) : sl_A cl L D cA g A p l e R s m args below meth c Q nL pc lv (.ref (g r) :: st) M :=
  fun H locs ls hW hl => va_getN C.1 C.2.1 (sa_hts (args := args) C hH) (fun _ h => h) C.2.2.2.1 C.2.2.2.2.2.2.1 hW.1 r (sl_w_get hr) hH.1 k hk (va_Nw.use rfl (C.2.2.2.2.2.2.2.2.1.2.1 _ _ _ _ _ _ hw)) (fun _ h => h) (by rw [sl_f_get, hf, Nat.zero_add]; rfl) hd (kk H locs ls hW hl)
theorem sl_setO {r ci : Nat} {fs : List (Option Nat)} {k : Nat} {v : Int32} (hr : L[r]? = some (.inr (ci, fs))) (hf : fs[k]? = some none) : (sl_w L cA g M).set r (g r, .inr (ci, (sl_f g (M r) 0 fs).set k (.int v))) = sl_w L cA g (sl_up M r k v) := by
  rw [sl_f_set hf, ← sl_w_set (cA := cA) (g := g) hr (sl_up_o (M := M) (i := k) (v := v)), sl_up_s]
  rfl
theorem sl_setA {r n : Nat} {f : Nat → Int32} {M2 : sl_M} (hr : L[r]? = some (.inl n)) (h1 : M2 r = f) (h2 : ∀ r', r' ≠ r → M2 r' = M r') : (sl_w L cA g M).set r (g r, .inl (cA, n, .inl f)) = sl_w L cA g M2 := by
  rw [← sl_w_set (cA := cA) (g := g) hr h2, h1]
  rfl
theorem sa_put (C : sl_C own cc nL ret cl L D cA g A z p s m meth c) {index ci N : Nat} {Cn : String} {T : u_T} {ty : Nat → FieldType} {r : Nat} {fs : List (Option Nat)} {k : Nat} {v : Int32} {fty : FieldType} (hH : sl_H cl ci Cn T N ty) (hd : decode cc pc = .ok (.putfield index, 3)) (hw : Cond.fieldLink own index (T k).1 (T k).2.1 (T k).2.2.1 ∈ lw_tbl) (hk : k < N) (hfin : (T k).2.2.2 = false) (hty : parseFieldDescriptor (T k).2.2.1 = some fty) (hn : narrow fty (.int v) = .int v) (hfit : fits fty (.int v) = true) (hr : L[r]? = some (.inr (ci, fs))) (hf : fs[k]? = some none)
    (kk : sl_A cl L D cA g A p l e R s m args below meth c Q nL (pc + 3) lv st (sl_up M r k v)) : sl_A cl L D cA g A p l e R s m args below meth c Q nL pc lv (.int v :: .ref (g r) :: st) M :=
  fun H locs ls hW hl => va_put C.1 C.2.1 (sa_hts (args := args) C hH) (fun _ h => h) ty hH.2.2.2.1 hH.2.2.2.2 C.2.2.2.1 C.2.2.2.2.2.2.1 hW.1 C.2.2.2.2.2.2.2.1.d hW.2 r (sl_w_get hr) hH.1 k hk (C.2.2.2.2.2.2.2.2.1.1 _ hw rfl _) (fun _ h => h) hfin hty hn hfit (by rw [sl_f_len]; exact (List.getElem?_eq_some_iff.mp hf).1) hd (fun H1 locs1 hP hD hS => kk H1 locs1 ls ⟨by rw [← sl_setO hr hf]; exact hP, hS⟩ hl)
theorem sa_putN (C : sl_C own cc nL ret cl L D cA g A z p s m meth c) {index ci N : Nat} {Cn host : String} {T : u_T} {ty : Nat → FieldType} {r : Nat} {fs : List (Option Nat)} {k : Nat} {v : Int32} {fty : FieldType} (hH : sl_H cl ci Cn T N ty) (hd : decode cc pc = .ok (.putfield index, 3)) (hw : Cond.fieldLinkNest own index (T k).1 (T k).2.1 (T k).2.2.1 host ∈ lw_tbl) (hk : k < N) (hfin : (T k).2.2.2 = false) (hty : parseFieldDescriptor (T k).2.2.1 = some fty) (hn : narrow fty (.int v) = .int v) (hfit : fits fty (.int v) = true) (hr : L[r]? = some (.inr (ci, fs))) (hf : fs[k]? = some none)
    (kk : sl_A cl L D cA g A p l e R s m args below meth c Q nL (pc + 3) lv st (sl_up M r k v)) : sl_A cl L D cA g A p l e R s m args below meth c Q nL pc lv (.int v :: .ref (g r) :: st) M :=
  fun H locs ls hW hl => va_putN C.1 C.2.1 (sa_hts (args := args) C hH) (fun _ h => h) ty hH.2.2.2.1 hH.2.2.2.2 C.2.2.2.1 C.2.2.2.2.2.2.1 hW.1 C.2.2.2.2.2.2.2.1.d hW.2 r (sl_w_get hr) hH.1 k hk (va_Nw.use rfl (C.2.2.2.2.2.2.2.2.1.2.1 _ _ _ _ _ _ hw)) (fun _ h => h) hfin hty hn hfit (by rw [sl_f_len]; exact (List.getElem?_eq_some_iff.mp hf).1) hd (fun H1 locs1 hP hD hS => kk H1 locs1 ls ⟨by rw [← sl_setO hr hf]; exact hP, hS⟩ hl)
theorem sa_iald (C : sl_C own cc nL ret cl L D cA g A z p s m meth c) {r n : Nat} {i v : Int32} (hd : decode cc pc = .ok (.iaload, 1)) (hr : L[r]? = some (.inl n)) (h : sl_ld (M r) n i = some v)
    (kk : sl_A cl L D cA g A p l e R s m args below meth c Q nL (pc + 1) lv (.int v :: st) M) : sl_A cl L D cA g A p l e R s m args below meth c Q nL pc lv (.int i :: .ref (g r) :: st) M := by
  obtain ⟨h1, rfl⟩ := sl_ld_s h
  exact fun H locs ls hW hl => va_iald C.1 C.2.1 C.2.2.2.2.2.2.1 hW.1 r 0 (sl_w_get hr) rfl h1 hd (kk H locs ls hW hl)
theorem sa_iast (C : sl_C own cc nL ret cl L D cA g A z p s m meth c) {r n : Nat} {i v : Int32} {M2 : sl_M} (hd : decode cc pc = .ok (.iastore, 1)) (hr : L[r]? = some (.inl n)) (h : sl_st M r n i v = some M2)
    (kk : sl_A cl L D cA g A p l e R s m args below meth c Q nL (pc + 1) lv st M2) : sl_A cl L D cA g A p l e R s m args below meth c Q nL pc lv (.int v :: .int i :: .ref (g r) :: st) M := by
  obtain ⟨h1, rfl⟩ := sl_st_s h
  exact fun H locs ls hW hl => va_iast C.1 C.2.1 C.2.2.2.2.2.2.1 hW.1 C.2.2.2.2.2.2.2.1.d hW.2 r 0 (sl_w_get hr) rfl h1 hd (fun H1 locs1 hP hD hS => kk H1 locs1 ls ⟨by rw [← sl_setA hr sl_up_s sl_up_o]; exact hP, hS⟩ hl)
theorem sa_alen (C : sl_C own cc nL ret cl L D cA g A z p s m meth c) {r n : Nat} {v : Int32} (hd : decode cc pc = .ok (.arraylength, 1)) (hr : L[r]? = some (.inl n)) (hv : Int32.ofNat n = v)
    (kk : sl_A cl L D cA g A p l e R s m args below meth c Q nL (pc + 1) lv (.int v :: st) M) : sl_A cl L D cA g A p l e R s m args below meth c Q nL pc lv (.ref (g r) :: st) M :=
  fun H locs ls hW hl => va_alen C.1 C.2.1 C.2.2.2.2.2.2.1 hW.1 r 0 (sl_w_get hr) rfl hv hd (kk H locs ls hW hl)
/-- a call, behind its run -/
theorem sa_call {rv : Option Value} {M2 : sl_M} {rest : List Value} {st0 : List Value} {a : Array Value} (hr : ∀ (H : Heap) (locs : List Loc) (ls : Array Slot), sl_W cl L D cA g A s M H locs → lv_has ls nL lv → va_Run p l e R s m args below meth c H locs 0 0 0 0 (F0 m pc ls st0) rest (sl_Q cl L D cA g A rv M2 a) A)
    (kk : sl_A cl L D cA g A p l e R s m args below meth c Q nL (pc + 3) lv (rv.toList ++ rest) M2) : sl_A cl L D cA g A p l e R s m args below meth c Q nL pc lv st0 M := by
  intro H locs ls hW hl T hT X
  obtain ⟨v, st₀, t, T', Lc, h0, X', hL, e1, e2, ⟨hv, hP, hz, hk⟩, st⟩ := hr H locs ls hW hl T hT X
  cases hv
  rw [h0] at hz hk
  obtain ⟨t2, a1, b1⟩ := kk T'.heap (locs ++ Lc) ls ⟨by rw [e1]; exact hP, Nat.le_trans hW.2.1 (by rw [e1]; exact hz), fun q h1 h2 => by rw [e1, hk q (Nat.lt_of_lt_of_le h1 hW.2.1) h2]; exact hW.2.2.1 q h1 h2, fun q hq => by
      rcases List.mem_append.mp hq with h | h
      · exact hW.2.2.2 q h
      · exact hL q h⟩ hl T' rfl X'
  exact ⟨t2, st t2 a1, b1⟩
theorem sl_blind {av : List Value} : FrameBlind (va_Pc av (sl_P cl L D cA g A z M)) := by
  intro a U gg mk h
  obtain ⟨h1, h2, h3, h4, h5, h6⟩ := h
  have hW : U.WarmedH (U.calling gg mk a).vm := State.WarmedH.refl U
  exact ⟨h1, h2, va_K.moved (Vm.Alike.refl U.vm) h3, h4, h5.warm hW, h6.go hW (fun _ _ _ => rfl)⟩
theorem sl_pre (C : sl_C own cc nL ret cl L D cA g A z p s m meth c) {H : Heap} {locs : List Loc} (hW : sl_W cl L D cA g A s M H locs) {av : List Value} : ∀ U : State, U.heap = H → s.WarmedH U.vm → va_Pc av (sl_P cl L D cA g A z M) av.toArray U := by
  intro U hU hv
  refine ⟨rfl, by rw [hU]; exact hW.1, va_K.moved hv.alike C.2.2.2.2.2.2.1, C.2.2.2.2.2.2.2.1, C.2.2.2.2.2.2.2.2.1.warm hv, C.2.2.2.2.2.2.2.2.2.go hv (fun a h1 h2 => by rw [hU]; exact hW.2.2.1 a h1 h2)⟩
/-- what the tables say of a method that is called -/
def sl_Y (y : MethodName) (cy : ByteArray) (n nP : Nat) (rt : Option FieldType) : Prop := Cond.code y cy n rt ∈ lw_tbl ∧ Cond.initialized y.cls ∈ lw_tbl ∧ (y.cls ≠ "java/lang/invoke/MethodHandle" ∧ y.cls ≠ "java/lang/invoke/VarHandle") ∧ (parseMethodDescriptor y.desc).map (fun d => d.parameters.length) = some nP
theorem sl_Y.n {y : MethodName} {cy : ByteArray} {n nP : Nat} {rt : Option FieldType} (h : sl_Y y cy n nP rt) : ∀ sig, parseMethodDescriptor y.desc = some sig → nP = sig.parameters.length := fun sig hs => by
  have h2 := h.2.2.2
  rw [hs] at h2
  exact (Option.some.inj h2).symm
theorem sl_codes (C : sl_C own cc nL ret cl L D cA g A z p s m meth c) {y : MethodName} {cy : ByteArray} {n nP : Nat} {rt : Option FieldType} (h : sl_Y y cy n nP rt) : ∀ w ∈ [Cond.code y cy n rt], ∀ (a' : Array Value) (U : State), s.WarmedH U.vm → w.before a' U = true := by
  intro w hw a' U hU
  rw [List.mem_singleton.mp hw]
  exact (C.2.2.2.2.2.2.2.2.1.warm hU).1 _ h.1 rfl a'
theorem sa_invS (C : sl_C own cc nL ret cl L D cA g A z p s m meth c) {index : Nat} {y : MethodName} {cy : ByteArray} {n nP fr lo : Nat} {rt : Option FieldType} {rv : Option Value} {M2 : sl_M} {As rest : List Value} (hY : sl_Y y cy n nP rt) (hs : Cond.static y ∈ lw_tbl) (hw : Cond.methodLink own index y ∈ lw_tbl) (hd : decode cc pc = .ok (.invokestatic index, 3)) (hn : As.length = nP) (hR : fr + 1 ≤ R.frames ∧ 8 + (n + 11) + lo ≤ R.locals) (hc : (rest.map fun v => v.category).sum ≤ 8)
    (hM : sl_N cl L D cA g A z l y cy n rt fr lo As M rv M2) (hst : st = As.reverse ++ rest) (kk : sl_A cl L D cA g A p l e R s m args below meth c Q nL (pc + 3) lv (rv.toList ++ rest) M2) : sl_A cl L D cA g A p l e R s m args below meth c Q nL pc lv st M := by
  subst hst
  refine sa_call (fun H locs ls hW hl => va_runS (Ts := []) ⟨C.1, C.2.1, C.2.2.1, C.2.2.2.1, fun _ h => by cases h⟩ hM ⟨⟨rfl, rfl, hR.1, hR.2, sl_codes C hY, List.mem_singleton.mpr rfl, C.2.2.2.2.2.2.2.2.1.1 _ hY.1 rfl _, C.2.2.2.2.2.2.2.2.1.1 _ hY.2.1 rfl _, hY.2.2.1, hY.n, C.2.2.2.2.2.2.2.2.1.1 _ hw rfl _⟩, C.2.2.2.2.2.2.2.2.1.1 _ hs rfl _⟩ ⟨sl_blind, sl_pre C hW⟩ rfl hn hl.1 rfl (lv_room hc) hd ⟨Nat.zero_le _, Nat.zero_le _⟩) kk
theorem sa_invSN (C : sl_C own cc nL ret cl L D cA g A z p s m meth c) {index : Nat} {y : MethodName} {cy : ByteArray} {n nP fr lo : Nat} {rt : Option FieldType} {rv : Option Value} {M2 : sl_M} {As rest : List Value} {host : String} (hY : sl_Y y cy n nP rt) (hs : Cond.static y ∈ lw_tbl) (hw : Cond.methodLinkNest own index y host ∈ lw_tbl) (hd : decode cc pc = .ok (.invokestatic index, 3)) (hn : As.length = nP) (hR : fr + 1 ≤ R.frames ∧ 8 + (n + 11) + lo ≤ R.locals) (hc : (rest.map fun v => v.category).sum ≤ 8)
    (hM : sl_N cl L D cA g A z l y cy n rt fr lo As M rv M2) (hst : st = As.reverse ++ rest) (kk : sl_A cl L D cA g A p l e R s m args below meth c Q nL (pc + 3) lv (rv.toList ++ rest) M2) : sl_A cl L D cA g A p l e R s m args below meth c Q nL pc lv st M := by
  subst hst
  refine sa_call (fun H locs ls hW hl => va_runSN (Ts := []) ⟨C.1, C.2.1, C.2.2.1, C.2.2.2.1, fun _ h => by cases h⟩ hM ⟨⟨⟨rfl, rfl, hR.1, hR.2, sl_codes C hY, List.mem_singleton.mpr rfl⟩, C.2.2.2.2.2.2.2.2.1.1 _ hY.1 rfl _, C.2.2.2.2.2.2.2.2.1.1 _ hY.2.1 rfl _, hY.2.2.1, hY.n, va_Nw.use rfl (C.2.2.2.2.2.2.2.2.1.2.2 _ _ _ _ hw)⟩, C.2.2.2.2.2.2.2.2.1.1 _ hs rfl _, trivial⟩ ⟨sl_blind, sl_pre C hW⟩ rfl hn hl.1 rfl (lv_room hc) hd ⟨Nat.zero_le _, Nat.zero_le _⟩) kk
theorem sa_invV (C : sl_C own cc nL ret cl L D cA g A z p s m meth c) {index : Nat} {y : MethodName} {cy : ByteArray} {n nP fr lo : Nat} {rt : Option FieldType} {rv : Option Value} {M2 : sl_M} {As rest : List Value} {ci N r : Nat} {Cn : String} {T : u_T} {ty : Nat → FieldType} {fs : List (Option Nat)} (hY : sl_Y y cy n nP rt) (hs : Cond.instanceMethod y ∈ lw_tbl ∧ Cond.selects Cn y y ∈ lw_tbl) (hw : Cond.methodLink own index y ∈ lw_tbl) (hd : decode cc pc = .ok (.invokevirtual index, 3)) (hn : As.length = nP) (hR : fr + 1 ≤ R.frames ∧ 8 + (n + 11) + lo ≤ R.locals) (hc : (rest.map fun v => v.category).sum ≤ 8)
    (hH : sl_H cl ci Cn T N ty) (hr : L[r]? = some (.inr (ci, fs))) (hM : sl_N cl L D cA g A z l y cy n rt fr lo (.ref (g r) :: As) M rv M2) (hst : st = As.reverse ++ .ref (g r) :: rest) (kk : sl_A cl L D cA g A p l e R s m args below meth c Q nL (pc + 3) lv (rv.toList ++ rest) M2) : sl_A cl L D cA g A p l e R s m args below meth c Q nL pc lv st M := by
  subst hst
  refine sa_call (fun H locs ls hW hl => va_runV (Ts := []) (C := Cn) ⟨C.1, C.2.1, C.2.2.1, C.2.2.2.1, fun _ h => by cases h⟩ hM ⟨⟨rfl, rfl, hR.1, hR.2, sl_codes C hY, List.mem_singleton.mpr rfl, C.2.2.2.2.2.2.2.2.1.1 _ hY.1 rfl _, C.2.2.2.2.2.2.2.2.1.1 _ hY.2.1 rfl _, hY.2.2.1, hY.n, C.2.2.2.2.2.2.2.2.1.1 _ hw rfl _⟩, C.2.2.2.2.2.2.2.2.1.1 _ hs.1 rfl _, C.2.2.2.2.2.2.2.2.1.1 _ hs.2 rfl _⟩ ⟨sl_blind, va_recv C.2.2.2.2.2.2.1 hW.1 hH.1 (sl_w_get hr), sl_pre C hW⟩ rfl hn hl.1 rfl (lv_room hc) hd ⟨Nat.zero_le _, Nat.zero_le _⟩) kk
theorem sa_invVN (C : sl_C own cc nL ret cl L D cA g A z p s m meth c) {index : Nat} {y : MethodName} {cy : ByteArray} {n nP fr lo : Nat} {rt : Option FieldType} {rv : Option Value} {M2 : sl_M} {As rest : List Value} {ci N r : Nat} {Cn host : String} {T : u_T} {ty : Nat → FieldType} {fs : List (Option Nat)} (hY : sl_Y y cy n nP rt) (hs : Cond.instanceMethod y ∈ lw_tbl ∧ Cond.selects Cn y y ∈ lw_tbl) (hw : Cond.methodLinkNest own index y host ∈ lw_tbl) (hd : decode cc pc = .ok (.invokevirtual index, 3)) (hn : As.length = nP) (hR : fr + 1 ≤ R.frames ∧ 8 + (n + 11) + lo ≤ R.locals) (hc : (rest.map fun v => v.category).sum ≤ 8)
    (hH : sl_H cl ci Cn T N ty) (hr : L[r]? = some (.inr (ci, fs))) (hM : sl_N cl L D cA g A z l y cy n rt fr lo (.ref (g r) :: As) M rv M2) (hst : st = As.reverse ++ .ref (g r) :: rest) (kk : sl_A cl L D cA g A p l e R s m args below meth c Q nL (pc + 3) lv (rv.toList ++ rest) M2) : sl_A cl L D cA g A p l e R s m args below meth c Q nL pc lv st M := by
  subst hst
  refine sa_call (fun H locs ls hW hl => va_runVN (Ts := []) (C := Cn) ⟨C.1, C.2.1, C.2.2.1, C.2.2.2.1, fun _ h => by cases h⟩ hM ⟨⟨⟨rfl, rfl, hR.1, hR.2, sl_codes C hY, List.mem_singleton.mpr rfl⟩, C.2.2.2.2.2.2.2.2.1.1 _ hY.1 rfl _, C.2.2.2.2.2.2.2.2.1.1 _ hY.2.1 rfl _, hY.2.2.1, hY.n, va_Nw.use rfl (C.2.2.2.2.2.2.2.2.1.2.2 _ _ _ _ hw)⟩, C.2.2.2.2.2.2.2.2.1.1 _ hs.1 rfl _, C.2.2.2.2.2.2.2.2.1.1 _ hs.2 rfl _⟩ ⟨sl_blind, va_recv C.2.2.2.2.2.2.1 hW.1 hH.1 (sl_w_get hr), sl_pre C hW⟩ rfl hn hl.1 rfl (lv_room hc) hd ⟨Nat.zero_le _, Nat.zero_le _⟩) kk
end SLR
section SLE
variable {cl : List vw_C} {L : List sl_E} {D : va_G} {cA : ClassId} {g : Nat → Nat} {A : Nat → Prop} {z : sl_K}
variable {p : Program} {l : Launch} {e : Env} {R : Room} {s : State} {m : MethodId} {args : Array Value} {below : List Frame} {meth : Method} {c : Code}
variable {own : String} {cc : ByteArray} {nL pc : Nat} {ret : Option FieldType} {lv : List (Nat × Value)} {st : List Value} {M : sl_M}
theorem sa_iret (C : sl_C own cc nL (some .int) cl L D cA g A z p s m meth c) {x r : Int32} {M2 : sl_M} (hd : decode cc pc = .ok (.ireturn, 1)) (h : x = r) (hM : M = M2) : sl_A cl L D cA g A p l e R s m args below meth c (MQ below (sl_Q cl L D cA g A (some (.int r)) M2) args s 0 0 A) nL pc lv [.int x] M := by
  subst h; subst hM
  exact fun H locs ls hW hl => W.iret C.1 C.2.1 C.2.2.2.2.1 (fun t ht hw => ⟨rfl, by rw [ht]; exact hW.1, hW.2.F ht⟩) hW.2.2.2 hd C.2.2.2.2.2.1
theorem sa_zret (C : sl_C own cc nL (some .boolean) cl L D cA g A z p s m meth c) {x r : Int32} {M2 : sl_M} (hd : decode cc pc = .ok (.ireturn, 1)) (hx : x = 0 ∨ x = 1) (h : x = r) (hM : M = M2) : sl_A cl L D cA g A p l e R s m args below meth c (MQ below (sl_Q cl L D cA g A (some (.int r)) M2) args s 0 0 A) nL pc lv [.int x] M := by
  subst h; subst hM
  exact fun H locs ls hW hl => W.zret C.1 C.2.1 C.2.2.2.2.1 (by rcases hx with rfl | rfl <;> rfl) (fun t ht hw => ⟨rfl, by rw [ht]; exact hW.1, hW.2.F ht⟩) hW.2.2.2 hd C.2.2.2.2.2.1
theorem sa_lret (C : sl_C own cc nL (some .long) cl L D cA g A z p s m meth c) {x r : Int64} {M2 : sl_M} (hd : decode cc pc = .ok (.lreturn, 1)) (h : x = r) (hM : M = M2) : sl_A cl L D cA g A p l e R s m args below meth c (MQ below (sl_Q cl L D cA g A (some (.long r)) M2) args s 0 0 A) nL pc lv [.long x] M := by
  subst h; subst hM
  exact fun H locs ls hW hl => W.lret C.1 C.2.1 C.2.2.2.2.1 (fun t ht hw => ⟨rfl, by rw [ht]; exact hW.1, hW.2.F ht⟩) hW.2.2.2 hd C.2.2.2.2.2.1
theorem sa_vret (C : sl_C own cc nL none cl L D cA g A z p s m meth c) {M2 : sl_M} (hd : decode cc pc = .ok (.return_, 1)) (hM : M = M2) : sl_A cl L D cA g A p l e R s m args below meth c (MQ below (sl_Q cl L D cA g A none M2) args s 0 0 A) nL pc lv [] M := by
  subst hM
  exact fun H locs ls hW hl => W.vret C.1 C.2.1 C.2.2.2.2.1 (fun t ht hw => ⟨rfl, by rw [ht]; exact hW.1, hW.2.F ht⟩) hW.2.2.2 hd C.2.2.2.2.2.1
/-- a contract out of a walk from the entry -/
theorem sl_N.of {y : MethodName} {fr lo : Nat} {as : List Value} {rv : Option Value} {M2 : sl_M} {lv0 : List (Nat × Value)} (hy : plainName y.cls = true) (hn : (lg_sl as).length ≤ nL) (hlv : lv_args 0 as = lv0)
    (k : ∀ (p : Program) (e : Env) (s : State) (m : MethodId) (args : Array Value) (below : List Frame) (meth : Method) (c : Code), sl_C y.cls cc nL ret cl L D cA g A z p s m meth c → sl_A cl L D cA g A p l e { frames := fr, cells := 0, slots := 0, locals := lo } s m args below meth c (MQ below (sl_Q cl L D cA g A rv M2) args s 0 0 A) nL 0 lv0 [] M) : sl_N cl L D cA g A z l y cc nL ret fr lo as M rv M2 := by
  refine Met.ofW (cc := cc) (maxL := nL) (ret := ret) hy rfl ?_
  intro p e s m args below meth c s₁ B hml hv
  obtain ⟨rfl, hP, hK, hD, hT, hZ⟩ := hv
  have hl := lv_entry as hn
  rw [lg_entry_eq]
  rw [hlv] at hl
  exact k p e s m _ below meth c ⟨B.exec, B.bytes, hml, findClass_of_methodNamed B.named, B.returns, B.notSynchronized, hK, hD, hT, hZ⟩ s.heap [] _ ⟨hP, va_S.rf⟩ hl
end SLE
end
section
def sl_mn (x y : Int32) : Int32 := if y < x then y else x
def sl_mx (x y : Int32) : Int32 := if x < y then y else x
def sl_ab (x : Int32) : Int32 := if 0 ≤ x then x else 0 - x
theorem sl_j0 : 0 < 3 := by decide
theorem sl_j1 : 1 < 3 := by decide
theorem sl_j2 : 2 < 3 := by decide
theorem sl_bn {v w : Int32} (_ : w = v) (h : v = 0 ∨ v = 1) : narrow .boolean (.int w) = .int w := by
  subst w; rcases h with rfl | rfl <;> rfl
theorem sl_bf {v w : Int32} (_ : w = v) (h : v = 0 ∨ v = 1) : fits .boolean (.int w) = true := by
  subst w; rcases h with rfl | rfl <;> rfl
theorem sl_b01 {v w : Int32} (e : w = v) (h : v = 0 ∨ v = 1) : w = 0 ∨ w = 1 := by
  rw [e]; exact h
section SLR
variable {cl : List vw_C} {L : List sl_E} {D : va_G} {cA : ClassId} {g : Nat → Nat} {A : Nat → Prop} {z : sl_K}
variable {p : Program} {l : Launch} {e : Env} {R : Room} {s : State} {m : MethodId} {args : Array Value} {below : List Frame} {meth : Method} {c : Code} {Q : State → Prop}
variable {own : String} {cc : ByteArray} {nL pc : Nat} {ret : Option FieldType} {lv : List (Nat × Value)} {st : List Value} {M : sl_M}
theorem sa_mmin (C : sl_C own cc nL ret cl L D cA g A z p s m meth c) {index : Nat} {x y : Int32} (hd : decode cc pc = .ok (.invokestatic index, 3)) (hw : Cond.methodLink own index Lib.Math.min.name ∈ lw_tbl) (hs : Cond.static Lib.Math.min.name ∈ lw_tbl) (hi : Cond.initialized "java/lang/Math" ∈ lw_tbl) (hc : Cond.code Lib.Math.min.name Lib.Math.min.code 2 (some .int) ∈ lw_tbl) (h8 : (st.map fun v => v.category).sum ≤ 8) (hR : 1 ≤ R.frames ∧ 21 ≤ R.locals)
    (k : sl_A cl L D cA g A p l e R s m args below meth c Q nL (pc + 3) lv (.int (sl_mn x y) :: st) M) : sl_A cl L D cA g A p l e R s m args below meth c Q nL pc lv (.int y :: .int x :: st) M :=
  fun H locs ls hW hl => va_mmin C.1 C.2.1 (C.2.2.1.trans hl.1.symm) C.2.2.2.1 (C.2.2.2.2.2.2.2.2.1.1 _ hw rfl _) (C.2.2.2.2.2.2.2.2.1.1 _ hs rfl _) (C.2.2.2.2.2.2.2.2.1.1 _ hi rfl _) (C.2.2.2.2.2.2.2.2.1.1 _ hc rfl _) hR.1 (Nat.le_trans (Nat.add_le_add_right h8 13) hR.2) (Nat.zero_le _) (Nat.zero_le _) hd (k H locs ls hW hl)
theorem sa_mmax (C : sl_C own cc nL ret cl L D cA g A z p s m meth c) {index : Nat} {x y : Int32} (hd : decode cc pc = .ok (.invokestatic index, 3)) (hw : Cond.methodLink own index Lib.Math.max.name ∈ lw_tbl) (hs : Cond.static Lib.Math.max.name ∈ lw_tbl) (hi : Cond.initialized "java/lang/Math" ∈ lw_tbl) (hc : Cond.code Lib.Math.max.name Lib.Math.max.code 2 (some .int) ∈ lw_tbl) (h8 : (st.map fun v => v.category).sum ≤ 8) (hR : 1 ≤ R.frames ∧ 21 ≤ R.locals)
    (k : sl_A cl L D cA g A p l e R s m args below meth c Q nL (pc + 3) lv (.int (sl_mx x y) :: st) M) : sl_A cl L D cA g A p l e R s m args below meth c Q nL pc lv (.int y :: .int x :: st) M :=
  fun H locs ls hW hl => va_mmax C.1 C.2.1 (C.2.2.1.trans hl.1.symm) C.2.2.2.1 (C.2.2.2.2.2.2.2.2.1.1 _ hw rfl _) (C.2.2.2.2.2.2.2.2.1.1 _ hs rfl _) (C.2.2.2.2.2.2.2.2.1.1 _ hi rfl _) (C.2.2.2.2.2.2.2.2.1.1 _ hc rfl _) hR.1 (Nat.le_trans (Nat.add_le_add_right h8 13) hR.2) (Nat.zero_le _) (Nat.zero_le _) hd (k H locs ls hW hl)
theorem sa_mabs (C : sl_C own cc nL ret cl L D cA g A z p s m meth c) {index : Nat} {x : Int32} (hd : decode cc pc = .ok (.invokestatic index, 3)) (hw : Cond.methodLink own index Lib.Math.abs.name ∈ lw_tbl) (hs : Cond.static Lib.Math.abs.name ∈ lw_tbl) (hi : Cond.initialized "java/lang/Math" ∈ lw_tbl) (hc : Cond.code Lib.Math.abs.name Lib.Math.abs.code 1 (some .int) ∈ lw_tbl) (h8 : (st.map fun v => v.category).sum ≤ 8) (hR : 1 ≤ R.frames ∧ 21 ≤ R.locals)
    (k : sl_A cl L D cA g A p l e R s m args below meth c Q nL (pc + 3) lv (.int (sl_ab x) :: st) M) : sl_A cl L D cA g A p l e R s m args below meth c Q nL pc lv (.int x :: st) M :=
  fun H locs ls hW hl => va_mabs C.1 C.2.1 (C.2.2.1.trans hl.1.symm) C.2.2.2.1 (C.2.2.2.2.2.2.2.2.1.1 _ hw rfl _) (C.2.2.2.2.2.2.2.2.1.1 _ hs rfl _) (C.2.2.2.2.2.2.2.2.1.1 _ hi rfl _) (C.2.2.2.2.2.2.2.2.1.1 _ hc rfl _) hR.1 (Nat.le_trans (Nat.add_le_add_right h8 13) hR.2) (Nat.zero_le _) (Nat.zero_le _) hd (k H locs ls hW hl)
theorem sa_copy (C : sl_C own cc nL ret cl L D cA g A z p s m meth c) {index r0 r1 n0 n1 : Nat} {sp dp n : Int32} {M2 : sl_M} (hd : decode cc pc = .ok (.invokestatic index, 3)) (hw : Cond.methodLink own index arraycopyName ∈ lw_tbl) (hv : Cond.native arraycopyName ∈ lw_tbl) (hs : Cond.static arraycopyName ∈ lw_tbl) (hi : Cond.initialized "java/lang/System" ∈ lw_tbl) (h0 : L[r0]? = some (.inl n0)) (h1 : L[r1]? = some (.inl n1)) (h8 : (st.map fun v => v.category).sum ≤ 8) (hR : 1 ≤ R.frames ∧ 40 ≤ R.locals) (h : sl_cp M r0 n0 r1 n1 sp dp n = some M2)
    (k : sl_A cl L D cA g A p l e R s m args below meth c Q nL (pc + 3) lv st M2) : sl_A cl L D cA g A p l e R s m args below meth c Q nL pc lv (.int n :: .int dp :: .ref (g r1) :: .int sp :: .ref (g r0) :: st) M := by
  unfold sl_cp at h
  by_cases hc : sp < 0 ∨ dp < 0 ∨ n < 0 ∨ n0 < sp.toNatClampNeg + n.toNatClampNeg ∨ n1 < dp.toNatClampNeg + n.toNatClampNeg
  · rw [if_pos hc] at h; cases h
  · rw [if_neg hc] at h
    obtain rfl := Option.some.inj h
    have c1 : ¬ sp < 0 := fun q => hc (Or.inl q)
    have c2 : ¬ dp < 0 := fun q => hc (Or.inr (Or.inl q))
    have c3 : ¬ n < 0 := fun q => hc (Or.inr (Or.inr (Or.inl q)))
    have c4 : sp.toNatClampNeg + n.toNatClampNeg ≤ n0 := Nat.not_lt.mp fun q => hc (Or.inr (Or.inr (Or.inr (Or.inl q))))
    have c5 : dp.toNatClampNeg + n.toNatClampNeg ≤ n1 := Nat.not_lt.mp fun q => hc (Or.inr (Or.inr (Or.inr (Or.inr q))))
    exact fun H locs ls hW hl => va_copyi C.1 C.2.1 (C.2.2.1.trans hl.1.symm) C.2.2.2.1 (C.2.2.2.2.2.2.2.2.1.1 _ hw rfl _) (C.2.2.2.2.2.2.2.2.1.1 _ hv rfl _) (C.2.2.2.2.2.2.2.2.1.1 _ hs rfl _) (C.2.2.2.2.2.2.2.2.1.1 _ hi rfl _) C.2.2.2.2.2.2.1 hW.1 C.2.2.2.2.2.2.2.1.d hW.2 r0 r1 0 0 (sl_w_get h0) (sl_w_get h1) rfl rfl rfl c1 c2 c3 c4 c5 (fun _ _ => rfl) hR.1 (Nat.le_trans (Nat.add_le_add_right h8 _) (Nat.le_trans (Nat.le_of_ble_eq_true rfl) hR.2)) hd (fun H1 locs1 hP hD hS => k H1 locs1 ls ⟨by rw [← sl_setA h1 (if_pos rfl) (fun r' hr => if_neg hr)]; exact hP, hS⟩ hl)
theorem sa_gets1 (C : sl_C own cc nL ret cl L D cA g A z p s m meth c) {index : Nat} (hd : decode cc pc = .ok (.getstatic index, 3)) (hw : Cond.fieldLink own index "SeenLand$Land" "WORTHS" "[I" ∈ lw_tbl) (k : sl_A cl L D cA g A p l e R s m args below meth c Q nL (pc + 3) lv (.ref z.1.1 :: st) M) : sl_A cl L D cA g A p l e R s m args below meth c Q nL pc lv st M :=
  fun H locs ls hW hl => va_gets C.1 C.2.1 C.2.2.2.2.2.2.2.2.2.1 hW.2 C.2.2.2.1 (C.2.2.2.2.2.2.2.2.1.1 _ hw rfl _) (fun _ h => h) hd (k H locs ls hW hl)
theorem sa_ialds1 (C : sl_C own cc nL ret cl L D cA g A z p s m meth c) {i v : Int32} (hd : decode cc pc = .ok (.iaload, 1)) (h : sl_ld (fun q => sl_wo.getD q 0) 7 i = some v) (k : sl_A cl L D cA g A p l e R s m args below meth c Q nL (pc + 1) lv (.int v :: st) M) : sl_A cl L D cA g A p l e R s m args below meth c Q nL pc lv (.int i :: .ref z.1.1 :: st) M := by
  obtain ⟨h1, h2⟩ := sl_ld_s h
  exact fun H locs ls hW hl => va_ti C.1 C.2.1 C.2.2.2.2.2.2.2.2.2.2.1 hW.2 h1 (by rw [← h2]) hd (k H locs ls hW hl)
theorem sa_alens1 (C : sl_C own cc nL ret cl L D cA g A z p s m meth c) (hd : decode cc pc = .ok (.arraylength, 1)) (k : sl_A cl L D cA g A p l e R s m args below meth c Q nL (pc + 1) lv (.int 7 :: st) M) : sl_A cl L D cA g A p l e R s m args below meth c Q nL pc lv (.ref z.1.1 :: st) M :=
  fun H locs ls hW hl => va_tlen C.1 C.2.1 C.2.2.2.2.2.2.2.2.2.2.1 hW.2 (by decide) hd (k H locs ls hW hl)
theorem sa_gets2 (C : sl_C own cc nL ret cl L D cA g A z p s m meth c) {index : Nat} (hd : decode cc pc = .ok (.getstatic index, 3)) (hw : Cond.fieldLink own index "SeenLand$Land" "KIND_ABOVE" "[I" ∈ lw_tbl) (k : sl_A cl L D cA g A p l e R s m args below meth c Q nL (pc + 3) lv (.ref z.1.2 :: st) M) : sl_A cl L D cA g A p l e R s m args below meth c Q nL pc lv st M :=
  fun H locs ls hW hl => va_gets C.1 C.2.1 C.2.2.2.2.2.2.2.2.2.2.2.1 hW.2 C.2.2.2.1 (C.2.2.2.2.2.2.2.2.1.1 _ hw rfl _) (fun _ h => h) hd (k H locs ls hW hl)
theorem sa_ialds2 (C : sl_C own cc nL ret cl L D cA g A z p s m meth c) {i v : Int32} (hd : decode cc pc = .ok (.iaload, 1)) (h : sl_ld (fun q => sl_ka.getD q 0) 7 i = some v) (k : sl_A cl L D cA g A p l e R s m args below meth c Q nL (pc + 1) lv (.int v :: st) M) : sl_A cl L D cA g A p l e R s m args below meth c Q nL pc lv (.int i :: .ref z.1.2 :: st) M := by
  obtain ⟨h1, h2⟩ := sl_ld_s h
  exact fun H locs ls hW hl => va_ti C.1 C.2.1 C.2.2.2.2.2.2.2.2.2.2.2.2.1 hW.2 h1 (by rw [← h2]) hd (k H locs ls hW hl)
theorem sa_alens2 (C : sl_C own cc nL ret cl L D cA g A z p s m meth c) (hd : decode cc pc = .ok (.arraylength, 1)) (k : sl_A cl L D cA g A p l e R s m args below meth c Q nL (pc + 1) lv (.int 7 :: st) M) : sl_A cl L D cA g A p l e R s m args below meth c Q nL pc lv (.ref z.1.2 :: st) M :=
  fun H locs ls hW hl => va_tlen C.1 C.2.1 C.2.2.2.2.2.2.2.2.2.2.2.2.1 hW.2 (by decide) hd (k H locs ls hW hl)
theorem sa_ldcS (C : sl_C "SeenLand$TextReader" cc nL ret cl L D cA g A z p s m meth c) {index : Nat} {tx : String} (hd : decode cc pc = .ok (.ldc index, 2)) (i : Nat) (hi : sl_tx[i]? = some (index, tx)) (k : sl_A cl L D cA g A p l e R s m args below meth c Q nL (pc + 2) lv (.ref (z.2.1 i) :: st) M) : sl_A cl L D cA g A p l e R s m args below meth c Q nL pc lv st M :=
  fun H locs ls hW hl => va_ldcS C.1 C.2.1 C.2.2.2.1 (C.2.2.2.2.2.2.2.2.2.2.2.2.2.2.2 i _ hi) hd (k H locs ls hW hl)
theorem sa_invSi (C : sl_C own cc nL ret cl L D cA g A z p s m meth c) {index : Nat} {y : MethodName} {cy : ByteArray} {n nP fr lo : Nat} {rt : Option FieldType} {r : Int32} {M2 : sl_M} {As rest : List Value} (hY : sl_Y y cy n nP rt) (hs : Cond.static y ∈ lw_tbl) (hw : Cond.methodLink own index y ∈ lw_tbl) (hd : decode cc pc = .ok (.invokestatic index, 3)) (hn : As.length = nP) (hR : fr + 1 ≤ R.frames ∧ 8 + (n + 11) + lo ≤ R.locals) (hc : (rest.map fun v => v.category).sum ≤ 8)
    (hM : sl_N cl L D cA g A z l y cy n rt fr lo As M (some (.int r)) M2) (hst : st = As.reverse ++ rest) (kk : sl_A cl L D cA g A p l e R s m args below meth c Q nL (pc + 3) lv (.int r :: rest) M2) : sl_A cl L D cA g A p l e R s m args below meth c Q nL pc lv st M := sa_invS C hY hs hw hd hn hR hc hM hst kk
theorem sa_invVi (C : sl_C own cc nL ret cl L D cA g A z p s m meth c) {index : Nat} {y : MethodName} {cy : ByteArray} {n nP fr lo : Nat} {rt : Option FieldType} {r : Int32} {M2 : sl_M} {As rest : List Value} {ci N r0 : Nat} {Cn : String} {T : u_T} {ty : Nat → FieldType} {fs : List (Option Nat)} (hY : sl_Y y cy n nP rt) (hs : Cond.instanceMethod y ∈ lw_tbl ∧ Cond.selects Cn y y ∈ lw_tbl) (hw : Cond.methodLink own index y ∈ lw_tbl) (hd : decode cc pc = .ok (.invokevirtual index, 3)) (hn : As.length = nP) (hR : fr + 1 ≤ R.frames ∧ 8 + (n + 11) + lo ≤ R.locals) (hc : (rest.map fun v => v.category).sum ≤ 8)
    (hH : sl_H cl ci Cn T N ty) (hr : L[r0]? = some (.inr (ci, fs))) (hM : sl_N cl L D cA g A z l y cy n rt fr lo (.ref (g r0) :: As) M (some (.int r)) M2) (hst : st = As.reverse ++ .ref (g r0) :: rest) (kk : sl_A cl L D cA g A p l e R s m args below meth c Q nL (pc + 3) lv (.int r :: rest) M2) : sl_A cl L D cA g A p l e R s m args below meth c Q nL pc lv st M := sa_invV C hY hs hw hd hn hR hc hH hr hM hst kk
theorem sa_invSNi (C : sl_C own cc nL ret cl L D cA g A z p s m meth c) {index : Nat} {y : MethodName} {cy : ByteArray} {n nP fr lo : Nat} {rt : Option FieldType} {r : Int32} {M2 : sl_M} {As rest : List Value} {host : String} (hY : sl_Y y cy n nP rt) (hs : Cond.static y ∈ lw_tbl) (hw : Cond.methodLinkNest own index y host ∈ lw_tbl) (hd : decode cc pc = .ok (.invokestatic index, 3)) (hn : As.length = nP) (hR : fr + 1 ≤ R.frames ∧ 8 + (n + 11) + lo ≤ R.locals) (hc : (rest.map fun v => v.category).sum ≤ 8)
    (hM : sl_N cl L D cA g A z l y cy n rt fr lo As M (some (.int r)) M2) (hst : st = As.reverse ++ rest) (kk : sl_A cl L D cA g A p l e R s m args below meth c Q nL (pc + 3) lv (.int r :: rest) M2) : sl_A cl L D cA g A p l e R s m args below meth c Q nL pc lv st M := sa_invSN C hY hs hw hd hn hR hc hM hst kk
theorem sa_invVNi (C : sl_C own cc nL ret cl L D cA g A z p s m meth c) {index : Nat} {y : MethodName} {cy : ByteArray} {n nP fr lo : Nat} {rt : Option FieldType} {r : Int32} {M2 : sl_M} {As rest : List Value} {ci N r0 : Nat} {Cn : String} {T : u_T} {ty : Nat → FieldType} {fs : List (Option Nat)} {host : String} (hY : sl_Y y cy n nP rt) (hs : Cond.instanceMethod y ∈ lw_tbl ∧ Cond.selects Cn y y ∈ lw_tbl) (hw : Cond.methodLinkNest own index y host ∈ lw_tbl) (hd : decode cc pc = .ok (.invokevirtual index, 3)) (hn : As.length = nP) (hR : fr + 1 ≤ R.frames ∧ 8 + (n + 11) + lo ≤ R.locals) (hc : (rest.map fun v => v.category).sum ≤ 8)
    (hH : sl_H cl ci Cn T N ty) (hr : L[r0]? = some (.inr (ci, fs))) (hM : sl_N cl L D cA g A z l y cy n rt fr lo (.ref (g r0) :: As) M (some (.int r)) M2) (hst : st = As.reverse ++ .ref (g r0) :: rest) (kk : sl_A cl L D cA g A p l e R s m args below meth c Q nL (pc + 3) lv (.int r :: rest) M2) : sl_A cl L D cA g A p l e R s m args below meth c Q nL pc lv st M := sa_invVN C hY hs hw hd hn hR hc hH hr hM hst kk
theorem sa_invSl (C : sl_C own cc nL ret cl L D cA g A z p s m meth c) {index : Nat} {y : MethodName} {cy : ByteArray} {n nP fr lo : Nat} {rt : Option FieldType} {r : Int64} {M2 : sl_M} {As rest : List Value} (hY : sl_Y y cy n nP rt) (hs : Cond.static y ∈ lw_tbl) (hw : Cond.methodLink own index y ∈ lw_tbl) (hd : decode cc pc = .ok (.invokestatic index, 3)) (hn : As.length = nP) (hR : fr + 1 ≤ R.frames ∧ 8 + (n + 11) + lo ≤ R.locals) (hc : (rest.map fun v => v.category).sum ≤ 8)
    (hM : sl_N cl L D cA g A z l y cy n rt fr lo As M (some (.long r)) M2) (hst : st = As.reverse ++ rest) (kk : sl_A cl L D cA g A p l e R s m args below meth c Q nL (pc + 3) lv (.long r :: rest) M2) : sl_A cl L D cA g A p l e R s m args below meth c Q nL pc lv st M := sa_invS C hY hs hw hd hn hR hc hM hst kk
theorem sa_invVl (C : sl_C own cc nL ret cl L D cA g A z p s m meth c) {index : Nat} {y : MethodName} {cy : ByteArray} {n nP fr lo : Nat} {rt : Option FieldType} {r : Int64} {M2 : sl_M} {As rest : List Value} {ci N r0 : Nat} {Cn : String} {T : u_T} {ty : Nat → FieldType} {fs : List (Option Nat)} (hY : sl_Y y cy n nP rt) (hs : Cond.instanceMethod y ∈ lw_tbl ∧ Cond.selects Cn y y ∈ lw_tbl) (hw : Cond.methodLink own index y ∈ lw_tbl) (hd : decode cc pc = .ok (.invokevirtual index, 3)) (hn : As.length = nP) (hR : fr + 1 ≤ R.frames ∧ 8 + (n + 11) + lo ≤ R.locals) (hc : (rest.map fun v => v.category).sum ≤ 8)
    (hH : sl_H cl ci Cn T N ty) (hr : L[r0]? = some (.inr (ci, fs))) (hM : sl_N cl L D cA g A z l y cy n rt fr lo (.ref (g r0) :: As) M (some (.long r)) M2) (hst : st = As.reverse ++ .ref (g r0) :: rest) (kk : sl_A cl L D cA g A p l e R s m args below meth c Q nL (pc + 3) lv (.long r :: rest) M2) : sl_A cl L D cA g A p l e R s m args below meth c Q nL pc lv st M := sa_invV C hY hs hw hd hn hR hc hH hr hM hst kk
theorem sa_invSNl (C : sl_C own cc nL ret cl L D cA g A z p s m meth c) {index : Nat} {y : MethodName} {cy : ByteArray} {n nP fr lo : Nat} {rt : Option FieldType} {r : Int64} {M2 : sl_M} {As rest : List Value} {host : String} (hY : sl_Y y cy n nP rt) (hs : Cond.static y ∈ lw_tbl) (hw : Cond.methodLinkNest own index y host ∈ lw_tbl) (hd : decode cc pc = .ok (.invokestatic index, 3)) (hn : As.length = nP) (hR : fr + 1 ≤ R.frames ∧ 8 + (n + 11) + lo ≤ R.locals) (hc : (rest.map fun v => v.category).sum ≤ 8)
    (hM : sl_N cl L D cA g A z l y cy n rt fr lo As M (some (.long r)) M2) (hst : st = As.reverse ++ rest) (kk : sl_A cl L D cA g A p l e R s m args below meth c Q nL (pc + 3) lv (.long r :: rest) M2) : sl_A cl L D cA g A p l e R s m args below meth c Q nL pc lv st M := sa_invSN C hY hs hw hd hn hR hc hM hst kk
theorem sa_invVNl (C : sl_C own cc nL ret cl L D cA g A z p s m meth c) {index : Nat} {y : MethodName} {cy : ByteArray} {n nP fr lo : Nat} {rt : Option FieldType} {r : Int64} {M2 : sl_M} {As rest : List Value} {ci N r0 : Nat} {Cn : String} {T : u_T} {ty : Nat → FieldType} {fs : List (Option Nat)} {host : String} (hY : sl_Y y cy n nP rt) (hs : Cond.instanceMethod y ∈ lw_tbl ∧ Cond.selects Cn y y ∈ lw_tbl) (hw : Cond.methodLinkNest own index y host ∈ lw_tbl) (hd : decode cc pc = .ok (.invokevirtual index, 3)) (hn : As.length = nP) (hR : fr + 1 ≤ R.frames ∧ 8 + (n + 11) + lo ≤ R.locals) (hc : (rest.map fun v => v.category).sum ≤ 8)
    (hH : sl_H cl ci Cn T N ty) (hr : L[r0]? = some (.inr (ci, fs))) (hM : sl_N cl L D cA g A z l y cy n rt fr lo (.ref (g r0) :: As) M (some (.long r)) M2) (hst : st = As.reverse ++ .ref (g r0) :: rest) (kk : sl_A cl L D cA g A p l e R s m args below meth c Q nL (pc + 3) lv (.long r :: rest) M2) : sl_A cl L D cA g A p l e R s m args below meth c Q nL pc lv st M := sa_invVN C hY hs hw hd hn hR hc hH hr hM hst kk
theorem sa_invSv (C : sl_C own cc nL ret cl L D cA g A z p s m meth c) {index : Nat} {y : MethodName} {cy : ByteArray} {n nP fr lo : Nat} {rt : Option FieldType}  {M2 : sl_M} {As rest : List Value} (hY : sl_Y y cy n nP rt) (hs : Cond.static y ∈ lw_tbl) (hw : Cond.methodLink own index y ∈ lw_tbl) (hd : decode cc pc = .ok (.invokestatic index, 3)) (hn : As.length = nP) (hR : fr + 1 ≤ R.frames ∧ 8 + (n + 11) + lo ≤ R.locals) (hc : (rest.map fun v => v.category).sum ≤ 8)
    (hM : sl_N cl L D cA g A z l y cy n rt fr lo As M none M2) (hst : st = As.reverse ++ rest) (kk : sl_A cl L D cA g A p l e R s m args below meth c Q nL (pc + 3) lv (rest) M2) : sl_A cl L D cA g A p l e R s m args below meth c Q nL pc lv st M := sa_invS C hY hs hw hd hn hR hc hM hst kk
theorem sa_invVv (C : sl_C own cc nL ret cl L D cA g A z p s m meth c) {index : Nat} {y : MethodName} {cy : ByteArray} {n nP fr lo : Nat} {rt : Option FieldType}  {M2 : sl_M} {As rest : List Value} {ci N r0 : Nat} {Cn : String} {T : u_T} {ty : Nat → FieldType} {fs : List (Option Nat)} (hY : sl_Y y cy n nP rt) (hs : Cond.instanceMethod y ∈ lw_tbl ∧ Cond.selects Cn y y ∈ lw_tbl) (hw : Cond.methodLink own index y ∈ lw_tbl) (hd : decode cc pc = .ok (.invokevirtual index, 3)) (hn : As.length = nP) (hR : fr + 1 ≤ R.frames ∧ 8 + (n + 11) + lo ≤ R.locals) (hc : (rest.map fun v => v.category).sum ≤ 8)
    (hH : sl_H cl ci Cn T N ty) (hr : L[r0]? = some (.inr (ci, fs))) (hM : sl_N cl L D cA g A z l y cy n rt fr lo (.ref (g r0) :: As) M none M2) (hst : st = As.reverse ++ .ref (g r0) :: rest) (kk : sl_A cl L D cA g A p l e R s m args below meth c Q nL (pc + 3) lv (rest) M2) : sl_A cl L D cA g A p l e R s m args below meth c Q nL pc lv st M := sa_invV C hY hs hw hd hn hR hc hH hr hM hst kk
theorem sa_invSNv (C : sl_C own cc nL ret cl L D cA g A z p s m meth c) {index : Nat} {y : MethodName} {cy : ByteArray} {n nP fr lo : Nat} {rt : Option FieldType}  {M2 : sl_M} {As rest : List Value} {host : String} (hY : sl_Y y cy n nP rt) (hs : Cond.static y ∈ lw_tbl) (hw : Cond.methodLinkNest own index y host ∈ lw_tbl) (hd : decode cc pc = .ok (.invokestatic index, 3)) (hn : As.length = nP) (hR : fr + 1 ≤ R.frames ∧ 8 + (n + 11) + lo ≤ R.locals) (hc : (rest.map fun v => v.category).sum ≤ 8)
    (hM : sl_N cl L D cA g A z l y cy n rt fr lo As M none M2) (hst : st = As.reverse ++ rest) (kk : sl_A cl L D cA g A p l e R s m args below meth c Q nL (pc + 3) lv (rest) M2) : sl_A cl L D cA g A p l e R s m args below meth c Q nL pc lv st M := sa_invSN C hY hs hw hd hn hR hc hM hst kk
theorem sa_invVNv (C : sl_C own cc nL ret cl L D cA g A z p s m meth c) {index : Nat} {y : MethodName} {cy : ByteArray} {n nP fr lo : Nat} {rt : Option FieldType}  {M2 : sl_M} {As rest : List Value} {ci N r0 : Nat} {Cn : String} {T : u_T} {ty : Nat → FieldType} {fs : List (Option Nat)} {host : String} (hY : sl_Y y cy n nP rt) (hs : Cond.instanceMethod y ∈ lw_tbl ∧ Cond.selects Cn y y ∈ lw_tbl) (hw : Cond.methodLinkNest own index y host ∈ lw_tbl) (hd : decode cc pc = .ok (.invokevirtual index, 3)) (hn : As.length = nP) (hR : fr + 1 ≤ R.frames ∧ 8 + (n + 11) + lo ≤ R.locals) (hc : (rest.map fun v => v.category).sum ≤ 8)
    (hH : sl_H cl ci Cn T N ty) (hr : L[r0]? = some (.inr (ci, fs))) (hM : sl_N cl L D cA g A z l y cy n rt fr lo (.ref (g r0) :: As) M none M2) (hst : st = As.reverse ++ .ref (g r0) :: rest) (kk : sl_A cl L D cA g A p l e R s m args below meth c Q nL (pc + 3) lv (rest) M2) : sl_A cl L D cA g A p l e R s m args below meth c Q nL pc lv st M := sa_invVN C hY hs hw hd hn hR hc hH hr hM hst kk
end SLR
end
section
def RJ0 : String := "java/lang/String"
def RJ1 : String := "java/lang/StringLatin1"
def RJ10 : String := "java/lang/System"
def RJ2 : String := "java/lang/StringUTF16"
def RJ3 : String := "jdk/internal/util/Preconditions"
def RJ6 : String := "java/lang/Integer"
def RJ9 : String := "java/lang/Math"
def RX0 : String := "SeenLand$Land"
def TX0 : u_T := fun k => match k with
  | 0 => ("SeenLand$Land", "kinds", "[I", true)
  | 1 => ("SeenLand$Land", "heights", "[I", true)
  | 2 => ("SeenLand$Land", "ages", "[I", true)
  | 3 => ("SeenLand$Land", "tops", "[I", true)
  | 4 => ("SeenLand$Land", "homes", "[I", true)
  | 5 => ("SeenLand$Land", "floors", "[I", true)
  | 6 => ("SeenLand$Land", "opens", "[I", true)
  | 7 => ("SeenLand$Land", "spots", "[I", true)
  | 8 => ("SeenLand$Land", "houses", "I", false)
  | 9 => ("SeenLand$Land", "haze", "I", false)
  | 10 => ("SeenLand$Land", "rate", "I", false)
  | 11 => ("SeenLand$Land", "year", "I", false)
  | _ => ("SeenLand$Land", "z", "I", false)
def tyX0 : Nat → FieldType := fun k => match k with
  | 0 => .array .int
  | 1 => .array .int
  | 2 => .array .int
  | 3 => .array .int
  | 4 => .array .int
  | 5 => .array .int
  | 6 => .array .int
  | 7 => .array .int
  | 8 => .int
  | 9 => .int
  | 10 => .int
  | 11 => .int
  | _ => .int
def RX1 : String := "SeenLand$Sheets"
def TX1 : u_T := fun k => match k with
  | 0 => ("SeenLand$Sheets", "widths", "[I", true)
  | 1 => ("SeenLand$Sheets", "sizes", "[I", true)
  | _ => ("SeenLand$Sheets", "numbers", "[I", true)
def tyX1 : Nat → FieldType := fun k => match k with
  | 0 => .array .int
  | 1 => .array .int
  | _ => .array .int
def RX2 : String := "SeenLand$Tape"
def TX2 : u_T := fun k => match k with
  | 0 => ("SeenLand$Tape", "bytes", "[I", true)
  | 1 => ("SeenLand$Tape", "size", "I", false)
  | 2 => ("SeenLand$Tape", "at", "I", false)
  | 3 => ("SeenLand$Tape", "sort", "I", false)
  | 4 => ("SeenLand$Tape", "start", "I", false)
  | _ => ("SeenLand$Tape", "number", "I", false)
def tyX2 : Nat → FieldType := fun k => match k with
  | 0 => .array .int
  | 1 => .int
  | 2 => .int
  | 3 => .int
  | 4 => .int
  | _ => .int
def RX3 : String := "SeenLand$TextReader"
def TX3 : u_T := fun k => match k with
  | _ => ("SeenLand$TextReader", "tape", "LSeenLand$Tape;", true)
def tyX3 : Nat → FieldType := fun k => match k with
  | _ => .object "SeenLand$Tape"
def RX4 : String := "SeenLand"
def TX4 : u_T := fun k => match k with
  | 0 => ("SeenLand", "land", "LSeenLand$Land;", true)
  | 1 => ("SeenLand", "trial", "LSeenLand$Land;", true)
  | 2 => ("SeenLand", "kept", "LSeenLand$Land;", true)
  | 3 => ("SeenLand", "isKept", "Z", false)
  | 4 => ("SeenLand", "tape", "LSeenLand$Tape;", true)
  | 5 => ("SeenLand", "reader", "LSeenLand$TextReader;", true)
  | 6 => ("SeenLand", "sheets", "LSeenLand$Sheets;", true)
  | 7 => ("SeenLand", "told", "[I", true)
  | _ => ("SeenLand", "marks", "[I", true)
def tyX4 : Nat → FieldType := fun k => match k with
  | 0 => .object "SeenLand$Land"
  | 1 => .object "SeenLand$Land"
  | 2 => .object "SeenLand$Land"
  | 3 => .boolean
  | 4 => .object "SeenLand$Tape"
  | 5 => .object "SeenLand$TextReader"
  | 6 => .object "SeenLand$Sheets"
  | 7 => .array .int
  | _ => .array .int
def RX5 : String := "SeenLandModel"
def TX5 : u_T := fun k => match k with
  | 0 => ("SeenLandModel", "s", "[I", true)
  | 1 => ("SeenLandModel", "keptS", "[I", true)
  | 2 => ("SeenLandModel", "other", "[I", true)
  | 3 => ("SeenLandModel", "statuses", "[I", true)
  | 4 => ("SeenLandModel", "isKept", "Z", false)
  | 5 => ("SeenLandModel", "taxes", "[I", true)
  | 6 => ("SeenLandModel", "sights", "[I", true)
  | 7 => ("SeenLandModel", "heightMany", "I", false)
  | 8 => ("SeenLandModel", "heightLeast", "I", false)
  | 9 => ("SeenLandModel", "heightMost", "I", false)
  | 10 => ("SeenLandModel", "tape", "[I", true)
  | 11 => ("SeenLandModel", "taped", "I", false)
  | 12 => ("SeenLandModel", "from", "I", false)
  | 13 => ("SeenLandModel", "to", "I", false)
  | 14 => ("SeenLandModel", "value", "I", false)
  | 15 => ("SeenLandModel", "isWrong", "Z", false)
  | 16 => ("SeenLandModel", "bitsOf", "[I", true)
  | 17 => ("SeenLandModel", "sizeOf", "[I", true)
  | 18 => ("SeenLandModel", "number", "[I", true)
  | _ => ("SeenLandModel", "moved", "[I", true)
def tyX5 : Nat → FieldType := fun k => match k with
  | 0 => .array .int
  | 1 => .array .int
  | 2 => .array .int
  | 3 => .array .int
  | 4 => .boolean
  | 5 => .array .int
  | 6 => .array .int
  | 7 => .int
  | 8 => .int
  | 9 => .int
  | 10 => .array .int
  | 11 => .int
  | 12 => .int
  | 13 => .int
  | 14 => .int
  | 15 => .boolean
  | 16 => .array .int
  | 17 => .array .int
  | 18 => .array .int
  | _ => .array .int
abbrev cX0_init : ByteArray := prog_2_method_1_code
def yX0_init : MethodName := ⟨RX0, "<init>", "()V"⟩
abbrev cX0_takeAll : ByteArray := prog_2_method_2_code
def yX0_takeAll : MethodName := ⟨RX0, "takeAll", "(LSeenLand$Land;)V"⟩
abbrev cX0_takeCell : ByteArray := prog_2_method_3_code
def yX0_takeCell : MethodName := ⟨RX0, "takeCell", "(LSeenLand$Land;I)V"⟩
abbrev cX0_place : ByteArray := prog_2_method_4_code
def yX0_place : MethodName := ⟨RX0, "place", "(II)V"⟩
abbrev cX0_turnInto : ByteArray := prog_2_method_5_code
def yX0_turnInto : MethodName := ⟨RX0, "turnInto", "(II)V"⟩
abbrev cX0_raiseTo : ByteArray := prog_2_method_6_code
def yX0_raiseTo : MethodName := ⟨RX0, "raiseTo", "(II)V"⟩
abbrev cX0_lower : ByteArray := prog_2_method_7_code
def yX0_lower : MethodName := ⟨RX0, "lower", "(II)V"⟩
abbrev cX0_ageTo : ByteArray := prog_2_method_8_code
def yX0_ageTo : MethodName := ⟨RX0, "ageTo", "(II)V"⟩
abbrev cX0_grow : ByteArray := prog_2_method_9_code
def yX0_grow : MethodName := ⟨RX0, "grow", "(I)V"⟩
abbrev cX0_renewTop : ByteArray := prog_2_method_10_code
def yX0_renewTop : MethodName := ⟨RX0, "renewTop", "(I)V"⟩
abbrev cX0_topFor : ByteArray := prog_2_method_11_code
def yX0_topFor : MethodName := ⟨RX0, "topFor", "(III)I"⟩
abbrev cX0_worthOf : ByteArray := prog_2_method_12_code
def yX0_worthOf : MethodName := ⟨RX0, "worthOf", "(I)I"⟩
abbrev cX0_isOfKind : ByteArray := prog_2_method_13_code
def yX0_isOfKind : MethodName := ⟨RX0, "isOfKind", "(II)Z"⟩
abbrev cX0_isIn : ByteArray := prog_2_method_14_code
def yX0_isIn : MethodName := ⟨RX0, "isIn", "(II)Z"⟩
abbrev cX0_isBuiltUp : ByteArray := prog_2_method_15_code
def yX0_isBuiltUp : MethodName := ⟨RX0, "isBuiltUp", "()Z"⟩
abbrev cX0_build : ByteArray := prog_2_method_16_code
def yX0_build : MethodName := ⟨RX0, "build", "(III)V"⟩
abbrev cX0_eyeOf : ByteArray := prog_2_method_17_code
def yX0_eyeOf : MethodName := ⟨RX0, "eyeOf", "(I)I"⟩
abbrev cX0_sightOf : ByteArray := prog_2_method_18_code
def yX0_sightOf : MethodName := ⟨RX0, "sightOf", "(I)I"⟩
abbrev cX0_lookOut : ByteArray := prog_2_method_19_code
def yX0_lookOut : MethodName := ⟨RX0, "lookOut", "(II)I"⟩
abbrev cX0_hasInSight : ByteArray := prog_2_method_20_code
def yX0_hasInSight : MethodName := ⟨RX0, "hasInSight", "(II)Z"⟩
abbrev cX0_looksTowards : ByteArray := prog_2_method_21_code
def yX0_looksTowards : MethodName := ⟨RX0, "looksTowards", "(II)Z"⟩
abbrev cX0_hiderOf : ByteArray := prog_2_method_22_code
def yX0_hiderOf : MethodName := ⟨RX0, "hiderOf", "(II)I"⟩
abbrev cX0_allSight : ByteArray := prog_2_method_23_code
def yX0_allSight : MethodName := ⟨RX0, "allSight", "()I"⟩
abbrev cX0_worthSeenBy : ByteArray := prog_2_method_24_code
def yX0_worthSeenBy : MethodName := ⟨RX0, "worthSeenBy", "(I)I"⟩
abbrev cX0_taxFor : ByteArray := prog_2_method_25_code
def yX0_taxFor : MethodName := ⟨RX0, "taxFor", "(II)I"⟩
abbrev cX0_taxOf : ByteArray := prog_2_method_26_code
def yX0_taxOf : MethodName := ⟨RX0, "taxOf", "(I)I"⟩
abbrev cX0_allTax : ByteArray := prog_2_method_27_code
def yX0_allTax : MethodName := ⟨RX0, "allTax", "()I"⟩
abbrev cX0_draw : ByteArray := prog_2_method_28_code
def yX0_draw : MethodName := ⟨RX0, "draw", "()I"⟩
abbrev cX0_spotsInUse : ByteArray := prog_2_method_29_code
def yX0_spotsInUse : MethodName := ⟨RX0, "spotsInUse", "()I"⟩
abbrev cX1_init : ByteArray := prog_3_method_1_code
def yX1_init : MethodName := ⟨RX1, "<init>", "()V"⟩
abbrev cX1_isSheet : ByteArray := prog_3_method_2_code
def yX1_isSheet : MethodName := ⟨RX1, "isSheet", "(I)Z"⟩
abbrev cX1_isMissing : ByteArray := prog_3_method_3_code
def yX1_isMissing : MethodName := ⟨RX1, "isMissing", "(I)Z"⟩
abbrev cX1_make : ByteArray := prog_3_method_4_code
def yX1_make : MethodName := ⟨RX1, "make", "(III)V"⟩
abbrev cX1_hasRun : ByteArray := prog_3_method_5_code
def yX1_hasRun : MethodName := ⟨RX1, "hasRun", "(III)Z"⟩
abbrev cX1_numberAt : ByteArray := prog_3_method_6_code
def yX1_numberAt : MethodName := ⟨RX1, "numberAt", "(II)I"⟩
abbrev cX1_put : ByteArray := prog_3_method_7_code
def yX1_put : MethodName := ⟨RX1, "put", "(III)V"⟩
abbrev cX1_cutTo : ByteArray := prog_3_method_8_code
def yX1_cutTo : MethodName := ⟨RX1, "cutTo", "(II)I"⟩
abbrev cX1_move : ByteArray := prog_3_method_9_code
def yX1_move : MethodName := ⟨RX1, "move", "(IIIII)V"⟩
abbrev cX2_init : ByteArray := prog_4_method_1_code
def yX2_init : MethodName := ⟨RX2, "<init>", "()V"⟩
abbrev cX2_hasRoomFor : ByteArray := prog_4_method_2_code
def yX2_hasRoomFor : MethodName := ⟨RX2, "hasRoomFor", "(I)Z"⟩
abbrev cX2_append : ByteArray := prog_4_method_3_code
def yX2_append : MethodName := ⟨RX2, "append", "(I)V"⟩
abbrev cX2_rewind : ByteArray := prog_4_method_4_code
def yX2_rewind : MethodName := ⟨RX2, "rewind", "()V"⟩
abbrev cX2_step : ByteArray := prog_4_method_5_code
def yX2_step : MethodName := ⟨RX2, "step", "()V"⟩
abbrev cX2_takeDigit : ByteArray := prog_4_method_6_code
def yX2_takeDigit : MethodName := ⟨RX2, "takeDigit", "(I)V"⟩
abbrev cX2_sortAt : ByteArray := prog_4_method_7_code
def yX2_sortAt : MethodName := ⟨RX2, "sortAt", "(I)I"⟩
abbrev cX2_isWord : ByteArray := prog_4_method_8_code
def yX2_isWord : MethodName := ⟨RX2, "isWord", "(Ljava/lang/String;)Z"⟩
abbrev cX3_init : ByteArray := prog_5_method_1_code
def yX3_init : MethodName := ⟨RX3, "<init>", "(LSeenLand$Tape;)V"⟩
abbrev cX3_readInto : ByteArray := prog_5_method_2_code
def yX3_readInto : MethodName := ⟨RX3, "readInto", "(LSeenLand$Land;)I"⟩
abbrev cX3_faultHere : ByteArray := prog_5_method_3_code
def yX3_faultHere : MethodName := ⟨RX3, "faultHere", "()I"⟩
abbrev cX3_readItem : ByteArray := prog_5_method_4_code
def yX3_readItem : MethodName := ⟨RX3, "readItem", "(LSeenLand$Land;)Z"⟩
abbrev cX3_readKind : ByteArray := prog_5_method_5_code
def yX3_readKind : MethodName := ⟨RX3, "readKind", "()I"⟩
abbrev cX3_readThing : ByteArray := prog_5_method_6_code
def yX3_readThing : MethodName := ⟨RX3, "readThing", "(LSeenLand$Land;I)Z"⟩
abbrev cX3_readHouse : ByteArray := prog_5_method_7_code
def yX3_readHouse : MethodName := ⟨RX3, "readHouse", "(LSeenLand$Land;)Z"⟩
abbrev cX3_readHaze : ByteArray := prog_5_method_8_code
def yX3_readHaze : MethodName := ⟨RX3, "readHaze", "(LSeenLand$Land;)Z"⟩
abbrev cX3_readRate : ByteArray := prog_5_method_9_code
def yX3_readRate : MethodName := ⟨RX3, "readRate", "(LSeenLand$Land;)Z"⟩
abbrev cX3_passes : ByteArray := prog_5_method_10_code
def yX3_passes : MethodName := ⟨RX3, "passes", "(Ljava/lang/String;)Z"⟩
abbrev cX3_readNumber : ByteArray := prog_5_method_11_code
def yX3_readNumber : MethodName := ⟨RX3, "readNumber", "(II)I"⟩
abbrev cX4_init : ByteArray := prog_1_method_1_code
def yX4_init : MethodName := ⟨RX4, "<init>", "()V"⟩
abbrev cX4_cell : ByteArray := prog_1_method_2_code
def yX4_cell : MethodName := ⟨RX4, "cell", "(III)I"⟩
abbrev cX4_set : ByteArray := prog_1_method_3_code
def yX4_set : MethodName := ⟨RX4, "set", "(II)I"⟩
abbrev cX4_cellOf : ByteArray := prog_1_method_4_code
def yX4_cellOf : MethodName := ⟨RX4, "cellOf", "(II)I"⟩
abbrev cX4_house : ByteArray := prog_1_method_5_code
def yX4_house : MethodName := ⟨RX4, "house", "(II)I"⟩
abbrev cX4_houseOf : ByteArray := prog_1_method_6_code
def yX4_houseOf : MethodName := ⟨RX4, "houseOf", "(II)I"⟩
abbrev cX4_floor : ByteArray := prog_1_method_7_code
def yX4_floor : MethodName := ⟨RX4, "floor", "(II)I"⟩
abbrev cX4_windows : ByteArray := prog_1_method_8_code
def yX4_windows : MethodName := ⟨RX4, "windows", "(II)I"⟩
abbrev cX4_law : ByteArray := prog_1_method_9_code
def yX4_law : MethodName := ⟨RX4, "law", "(II)I"⟩
abbrev cX4_dig : ByteArray := prog_1_method_10_code
def yX4_dig : MethodName := ⟨RX4, "dig", "(III)I"⟩
abbrev cX4_drain : ByteArray := prog_1_method_11_code
def yX4_drain : MethodName := ⟨RX4, "drain", "(I)I"⟩
abbrev cX4_sight : ByteArray := prog_1_method_12_code
def yX4_sight : MethodName := ⟨RX4, "sight", "(I)I"⟩
abbrev cX4_sees : ByteArray := prog_1_method_13_code
def yX4_sees : MethodName := ⟨RX4, "sees", "(II)I"⟩
abbrev cX4_seenBy : ByteArray := prog_1_method_14_code
def yX4_seenBy : MethodName := ⟨RX4, "seenBy", "(I)I"⟩
abbrev cX4_neighbours : ByteArray := prog_1_method_15_code
def yX4_neighbours : MethodName := ⟨RX4, "neighbours", "(I)I"⟩
abbrev cX4_hidden : ByteArray := prog_1_method_16_code
def yX4_hidden : MethodName := ⟨RX4, "hidden", "(II)I"⟩
abbrev cX4_tax : ByteArray := prog_1_method_17_code
def yX4_tax : MethodName := ⟨RX4, "tax", "(I)I"⟩
abbrev cX4_all : ByteArray := prog_1_method_18_code
def yX4_all : MethodName := ⟨RX4, "all", "()I"⟩
abbrev cX4_cheapest : ByteArray := prog_1_method_19_code
def yX4_cheapest : MethodName := ⟨RX4, "cheapest", "(I)I"⟩
abbrev cX4_widest : ByteArray := prog_1_method_20_code
def yX4_widest : MethodName := ⟨RX4, "widest", "(I)I"⟩
abbrev cX4_wall : ByteArray := prog_1_method_21_code
def yX4_wall : MethodName := ⟨RX4, "wall", "(II)I"⟩
abbrev cX4_rateFor : ByteArray := prog_1_method_22_code
def yX4_rateFor : MethodName := ⟨RX4, "rateFor", "(I)I"⟩
abbrev cX4_shade : ByteArray := prog_1_method_23_code
def yX4_shade : MethodName := ⟨RX4, "shade", "(III)I"⟩
abbrev cX4_gains : ByteArray := prog_1_method_24_code
def yX4_gains : MethodName := ⟨RX4, "gains", "(III)I"⟩
abbrev cX4_plant : ByteArray := prog_1_method_25_code
def yX4_plant : MethodName := ⟨RX4, "plant", "(I)I"⟩
abbrev cX4_two : ByteArray := prog_1_method_26_code
def yX4_two : MethodName := ⟨RX4, "two", "(I)I"⟩
abbrev cX4_restless : ByteArray := prog_1_method_27_code
def yX4_restless : MethodName := ⟨RX4, "restless", "()I"⟩
abbrev cX4_walk : ByteArray := prog_1_method_28_code
def yX4_walk : MethodName := ⟨RX4, "walk", "()I"⟩
abbrev cX4_blind : ByteArray := prog_1_method_29_code
def yX4_blind : MethodName := ⟨RX4, "blind", "()I"⟩
abbrev cX4_heights : ByteArray := prog_1_method_30_code
def yX4_heights : MethodName := ⟨RX4, "heights", "(III)I"⟩
abbrev cX4_height : ByteArray := prog_1_method_31_code
def yX4_height : MethodName := ⟨RX4, "height", "(IIII)I"⟩
abbrev cX4_which : ByteArray := prog_1_method_32_code
def yX4_which : MethodName := ⟨RX4, "which", "(II)I"⟩
abbrev cX4_years : ByteArray := prog_1_method_33_code
def yX4_years : MethodName := ⟨RX4, "years", "(I)I"⟩
abbrev cX4_ahead : ByteArray := prog_1_method_34_code
def yX4_ahead : MethodName := ⟨RX4, "ahead", "(II)I"⟩
abbrev cX4_lost : ByteArray := prog_1_method_35_code
def yX4_lost : MethodName := ⟨RX4, "lost", "(II)I"⟩
abbrev cX4_when : ByteArray := prog_1_method_36_code
def yX4_when : MethodName := ⟨RX4, "when", "(I)I"⟩
abbrev cX4_quake : ByteArray := prog_1_method_37_code
def yX4_quake : MethodName := ⟨RX4, "quake", "(I)I"⟩
abbrev cX4_seed : ByteArray := prog_1_method_38_code
def yX4_seed : MethodName := ⟨RX4, "seed", "(I)I"⟩
abbrev cX4_feed : ByteArray := prog_1_method_39_code
def yX4_feed : MethodName := ⟨RX4, "feed", "(II)I"⟩
abbrev cX4_wipe : ByteArray := prog_1_method_40_code
def yX4_wipe : MethodName := ⟨RX4, "wipe", "()I"⟩
abbrev cX4_text : ByteArray := prog_1_method_41_code
def yX4_text : MethodName := ⟨RX4, "text", "()I"⟩
abbrev cX4_hold : ByteArray := prog_1_method_42_code
def yX4_hold : MethodName := ⟨RX4, "hold", "(II)I"⟩
abbrev cX4_as : ByteArray := prog_1_method_43_code
def yX4_as : MethodName := ⟨RX4, "as", "(II)I"⟩
abbrev cX4_sheet : ByteArray := prog_1_method_44_code
def yX4_sheet : MethodName := ⟨RX4, "sheet", "(III)I"⟩
abbrev cX4_write : ByteArray := prog_1_method_45_code
def yX4_write : MethodName := ⟨RX4, "write", "(III)I"⟩
abbrev cX4_copy : ByteArray := prog_1_method_46_code
def yX4_copy : MethodName := ⟨RX4, "copy", "(IIIII)I"⟩
abbrev cX4_load : ByteArray := prog_1_method_47_code
def yX4_load : MethodName := ⟨RX4, "load", "(II)I"⟩
abbrev cX4_judge : ByteArray := prog_1_method_48_code
def yX4_judge : MethodName := ⟨RX4, "judge", "(II)I"⟩
abbrev cX4_image : ByteArray := prog_1_method_49_code
def yX4_image : MethodName := ⟨RX4, "image", "()I"⟩
abbrev cX4_undo : ByteArray := prog_1_method_50_code
def yX4_undo : MethodName := ⟨RX4, "undo", "()I"⟩
abbrev cX4_tear : ByteArray := prog_1_method_51_code
def yX4_tear : MethodName := ⟨RX4, "tear", "()I"⟩
abbrev cX4_count : ByteArray := prog_1_method_52_code
def yX4_count : MethodName := ⟨RX4, "count", "(I)I"⟩
abbrev cX4_status : ByteArray := prog_1_method_53_code
def yX4_status : MethodName := ⟨RX4, "status", "(I)I"⟩
abbrev cX4_tell : ByteArray := prog_1_method_54_code
def yX4_tell : MethodName := ⟨RX4, "tell", "(I)I"⟩
abbrev cX4_isWithin : ByteArray := prog_1_method_55_code
def yX4_isWithin : MethodName := ⟨RX4, "isWithin", "(III)Z"⟩
abbrev cX4_isCell : ByteArray := prog_1_method_56_code
def yX4_isCell : MethodName := ⟨RX4, "isCell", "(I)Z"⟩
abbrev cX4_isKind : ByteArray := prog_1_method_57_code
def yX4_isKind : MethodName := ⟨RX4, "isKind", "(I)Z"⟩
abbrev cX4_isFloor : ByteArray := prog_1_method_58_code
def yX4_isFloor : MethodName := ⟨RX4, "isFloor", "(I)Z"⟩
abbrev cX4_isSpot : ByteArray := prog_1_method_59_code
def yX4_isSpot : MethodName := ⟨RX4, "isSpot", "(I)Z"⟩
abbrev cX4_isSpan : ByteArray := prog_1_method_60_code
def yX4_isSpan : MethodName := ⟨RX4, "isSpan", "(I)Z"⟩
abbrev cX4_isTaxAsked : ByteArray := prog_1_method_61_code
def yX4_isTaxAsked : MethodName := ⟨RX4, "isTaxAsked", "(I)Z"⟩
abbrev cX4_isHouse : ByteArray := prog_1_method_62_code
def yX4_isHouse : MethodName := ⟨RX4, "isHouse", "(I)Z"⟩
abbrev cX4_isTooLate : ByteArray := prog_1_method_63_code
def yX4_isTooLate : MethodName := ⟨RX4, "isTooLate", "(I)Z"⟩
abbrev cX4_tryYears : ByteArray := prog_1_method_64_code
def yX4_tryYears : MethodName := ⟨RX4, "tryYears", "(I)V"⟩
abbrev cX4_tryThing : ByteArray := prog_1_method_65_code
def yX4_tryThing : MethodName := ⟨RX4, "tryThing", "(III)V"⟩
abbrev cX4_thriftyFloor : ByteArray := prog_1_method_66_code
def yX4_thriftyFloor : MethodName := ⟨RX4, "thriftyFloor", "(I)I"⟩
abbrev cX4_sightsOf : ByteArray := prog_1_method_67_code
def yX4_sightsOf : MethodName := ⟨RX4, "sightsOf", "(I)I"⟩
abbrev cX5_init : ByteArray := prog_7_method_1_code
def yX5_init : MethodName := ⟨RX5, "<init>", "()V"⟩
abbrev cX5_in : ByteArray := prog_7_method_2_code
def yX5_in : MethodName := ⟨RX5, "in", "(JJJ)Z"⟩
abbrev cX5_finds : ByteArray := prog_7_method_3_code
def yX5_finds : MethodName := ⟨RX5, "finds", "(I)I"⟩
abbrev cX5_isCell : ByteArray := prog_7_method_4_code
def yX5_isCell : MethodName := ⟨RX5, "isCell", "(I)Z"⟩
abbrev cX5_isKind : ByteArray := prog_7_method_5_code
def yX5_isKind : MethodName := ⟨RX5, "isKind", "(I)Z"⟩
abbrev cX5_isFloor : ByteArray := prog_7_method_6_code
def yX5_isFloor : MethodName := ⟨RX5, "isFloor", "(I)Z"⟩
abbrev cX5_isAhead : ByteArray := prog_7_method_7_code
def yX5_isAhead : MethodName := ⟨RX5, "isAhead", "(I)Z"⟩
abbrev cX5_isTax : ByteArray := prog_7_method_8_code
def yX5_isTax : MethodName := ⟨RX5, "isTax", "(I)Z"⟩
abbrev cX5_isHouse : ByteArray := prog_7_method_9_code
def yX5_isHouse : MethodName := ⟨RX5, "isHouse", "(I)Z"⟩
abbrev cX5_isStretch : ByteArray := prog_7_method_10_code
def yX5_isStretch : MethodName := ⟨RX5, "isStretch", "(II)Z"⟩
abbrev cX5_has : ByteArray := prog_7_method_11_code
def yX5_has : MethodName := ⟨RX5, "has", "(II)Z"⟩
abbrev cX5_ones : ByteArray := prog_7_method_12_code
def yX5_ones : MethodName := ⟨RX5, "ones", "(I)I"⟩
abbrev cX5_size : ByteArray := prog_7_method_13_code
def yX5_size : MethodName := ⟨RX5, "size", "(I)I"⟩
abbrev cX5_next : ByteArray := prog_7_method_14_code
def yX5_next : MethodName := ⟨RX5, "next", "()I"⟩
abbrev cX5_puts : ByteArray := prog_7_method_15_code
def yX5_puts : MethodName := ⟨RX5, "puts", "()V"⟩
abbrev cX5_putsBack : ByteArray := prog_7_method_16_code
def yX5_putsBack : MethodName := ⟨RX5, "putsBack", "()V"⟩
abbrev cX5_kindOf : ByteArray := prog_7_method_17_code
def yX5_kindOf : MethodName := ⟨RX5, "kindOf", "(I)I"⟩
abbrev cX5_heightOf : ByteArray := prog_7_method_18_code
def yX5_heightOf : MethodName := ⟨RX5, "heightOf", "(I)I"⟩
abbrev cX5_ageOf : ByteArray := prog_7_method_19_code
def yX5_ageOf : MethodName := ⟨RX5, "ageOf", "(I)I"⟩
abbrev cX5_top : ByteArray := prog_7_method_20_code
def yX5_top : MethodName := ⟨RX5, "top", "(I)I"⟩
abbrev cX5_worth : ByteArray := prog_7_method_21_code
def yX5_worth : MethodName := ⟨RX5, "worth", "(I)I"⟩
abbrev cX5_cell : ByteArray := prog_7_method_22_code
def yX5_cell : MethodName := ⟨RX5, "cell", "(III)I"⟩
abbrev cX5_sets : ByteArray := prog_7_method_23_code
def yX5_sets : MethodName := ⟨RX5, "sets", "(II)V"⟩
abbrev cX5_set : ByteArray := prog_7_method_24_code
def yX5_set : MethodName := ⟨RX5, "set", "(II)I"⟩
abbrev cX5_cellOf : ByteArray := prog_7_method_25_code
def yX5_cellOf : MethodName := ⟨RX5, "cellOf", "(II)I"⟩
abbrev cX5_cellAt : ByteArray := prog_7_method_26_code
def yX5_cellAt : MethodName := ⟨RX5, "cellAt", "(I)I"⟩
abbrev cX5_openOf : ByteArray := prog_7_method_27_code
def yX5_openOf : MethodName := ⟨RX5, "openOf", "(I)I"⟩
abbrev cX5_eye : ByteArray := prog_7_method_28_code
def yX5_eye : MethodName := ⟨RX5, "eye", "(I)I"⟩
abbrev cX5_newHouse : ByteArray := prog_7_method_29_code
def yX5_newHouse : MethodName := ⟨RX5, "newHouse", "(III)I"⟩
abbrev cX5_house : ByteArray := prog_7_method_30_code
def yX5_house : MethodName := ⟨RX5, "house", "(II)I"⟩
abbrev cX5_houseOf : ByteArray := prog_7_method_31_code
def yX5_houseOf : MethodName := ⟨RX5, "houseOf", "(II)I"⟩
abbrev cX5_floor : ByteArray := prog_7_method_32_code
def yX5_floor : MethodName := ⟨RX5, "floor", "(II)I"⟩
abbrev cX5_windows : ByteArray := prog_7_method_33_code
def yX5_windows : MethodName := ⟨RX5, "windows", "(II)I"⟩
abbrev cX5_law : ByteArray := prog_7_method_34_code
def yX5_law : MethodName := ⟨RX5, "law", "(II)I"⟩
abbrev cX5_lowers : ByteArray := prog_7_method_35_code
def yX5_lowers : MethodName := ⟨RX5, "lowers", "(II)V"⟩
abbrev cX5_dig : ByteArray := prog_7_method_36_code
def yX5_dig : MethodName := ⟨RX5, "dig", "(III)I"⟩
abbrev cX5_drain : ByteArray := prog_7_method_37_code
def yX5_drain : MethodName := ⟨RX5, "drain", "(I)I"⟩
abbrev cX5_isHiding : ByteArray := prog_7_method_38_code
def yX5_isHiding : MethodName := ⟨RX5, "isHiding", "(III)Z"⟩
abbrev cX5_isTowards : ByteArray := prog_7_method_39_code
def yX5_isTowards : MethodName := ⟨RX5, "isTowards", "(II)Z"⟩
abbrev cX5_hider : ByteArray := prog_7_method_40_code
def yX5_hider : MethodName := ⟨RX5, "hider", "(II)I"⟩
abbrev cX5_sightOf : ByteArray := prog_7_method_41_code
def yX5_sightOf : MethodName := ⟨RX5, "sightOf", "(I)I"⟩
abbrev cX5_sight : ByteArray := prog_7_method_42_code
def yX5_sight : MethodName := ⟨RX5, "sight", "(I)I"⟩
abbrev cX5_sees : ByteArray := prog_7_method_43_code
def yX5_sees : MethodName := ⟨RX5, "sees", "(II)I"⟩
abbrev cX5_seenBy : ByteArray := prog_7_method_44_code
def yX5_seenBy : MethodName := ⟨RX5, "seenBy", "(I)I"⟩
abbrev cX5_neighbours : ByteArray := prog_7_method_45_code
def yX5_neighbours : MethodName := ⟨RX5, "neighbours", "(I)I"⟩
abbrev cX5_hidden : ByteArray := prog_7_method_46_code
def yX5_hidden : MethodName := ⟨RX5, "hidden", "(II)I"⟩
abbrev cX5_taxOf : ByteArray := prog_7_method_47_code
def yX5_taxOf : MethodName := ⟨RX5, "taxOf", "(I)I"⟩
abbrev cX5_allTax : ByteArray := prog_7_method_48_code
def yX5_allTax : MethodName := ⟨RX5, "allTax", "()I"⟩
abbrev cX5_tax : ByteArray := prog_7_method_49_code
def yX5_tax : MethodName := ⟨RX5, "tax", "(I)I"⟩
abbrev cX5_all : ByteArray := prog_7_method_50_code
def yX5_all : MethodName := ⟨RX5, "all", "()I"⟩
abbrev cX5_leastFloor : ByteArray := prog_7_method_51_code
def yX5_leastFloor : MethodName := ⟨RX5, "leastFloor", "(I)I"⟩
abbrev cX5_cheapest : ByteArray := prog_7_method_52_code
def yX5_cheapest : MethodName := ⟨RX5, "cheapest", "(I)I"⟩
abbrev cX5_widest : ByteArray := prog_7_method_53_code
def yX5_widest : MethodName := ⟨RX5, "widest", "(I)I"⟩
abbrev cX5_wall : ByteArray := prog_7_method_54_code
def yX5_wall : MethodName := ⟨RX5, "wall", "(II)I"⟩
abbrev cX5_rateFor : ByteArray := prog_7_method_55_code
def yX5_rateFor : MethodName := ⟨RX5, "rateFor", "(I)I"⟩
abbrev cX5_year : ByteArray := prog_7_method_56_code
def yX5_year : MethodName := ⟨RX5, "year", "()V"⟩
abbrev cX5_yearsGo : ByteArray := prog_7_method_57_code
def yX5_yearsGo : MethodName := ⟨RX5, "yearsGo", "(I)V"⟩
abbrev cX5_isTooFar : ByteArray := prog_7_method_58_code
def yX5_isTooFar : MethodName := ⟨RX5, "isTooFar", "(I)Z"⟩
abbrev cX5_shade : ByteArray := prog_7_method_59_code
def yX5_shade : MethodName := ⟨RX5, "shade", "(III)I"⟩
abbrev cX5_gains : ByteArray := prog_7_method_60_code
def yX5_gains : MethodName := ⟨RX5, "gains", "(III)I"⟩
abbrev cX5_plant : ByteArray := prog_7_method_61_code
def yX5_plant : MethodName := ⟨RX5, "plant", "(I)I"⟩
abbrev cX5_two : ByteArray := prog_7_method_62_code
def yX5_two : MethodName := ⟨RX5, "two", "(I)I"⟩
abbrev cX5_restless : ByteArray := prog_7_method_63_code
def yX5_restless : MethodName := ⟨RX5, "restless", "()I"⟩
abbrev cX5_findSights : ByteArray := prog_7_method_64_code
def yX5_findSights : MethodName := ⟨RX5, "findSights", "()I"⟩
abbrev cX5_walk : ByteArray := prog_7_method_65_code
def yX5_walk : MethodName := ⟨RX5, "walk", "()I"⟩
abbrev cX5_blind : ByteArray := prog_7_method_66_code
def yX5_blind : MethodName := ⟨RX5, "blind", "()I"⟩
abbrev cX5_findHeights : ByteArray := prog_7_method_67_code
def yX5_findHeights : MethodName := ⟨RX5, "findHeights", "(III)V"⟩
abbrev cX5_heights : ByteArray := prog_7_method_68_code
def yX5_heights : MethodName := ⟨RX5, "heights", "(III)I"⟩
abbrev cX5_height : ByteArray := prog_7_method_69_code
def yX5_height : MethodName := ⟨RX5, "height", "(IIII)I"⟩
abbrev cX5_which : ByteArray := prog_7_method_70_code
def yX5_which : MethodName := ⟨RX5, "which", "(II)I"⟩
abbrev cX5_years : ByteArray := prog_7_method_71_code
def yX5_years : MethodName := ⟨RX5, "years", "(I)I"⟩
abbrev cX5_ahead : ByteArray := prog_7_method_72_code
def yX5_ahead : MethodName := ⟨RX5, "ahead", "(II)I"⟩
abbrev cX5_lost : ByteArray := prog_7_method_73_code
def yX5_lost : MethodName := ⟨RX5, "lost", "(II)I"⟩
abbrev cX5_when : ByteArray := prog_7_method_74_code
def yX5_when : MethodName := ⟨RX5, "when", "(I)I"⟩
abbrev cX5_quake : ByteArray := prog_7_method_75_code
def yX5_quake : MethodName := ⟨RX5, "quake", "(I)I"⟩
abbrev cX5_seed : ByteArray := prog_7_method_76_code
def yX5_seed : MethodName := ⟨RX5, "seed", "(I)I"⟩
abbrev cX5_feed : ByteArray := prog_7_method_77_code
def yX5_feed : MethodName := ⟨RX5, "feed", "(II)I"⟩
abbrev cX5_wipe : ByteArray := prog_7_method_78_code
def yX5_wipe : MethodName := ⟨RX5, "wipe", "()I"⟩
abbrev cX5_byteAt : ByteArray := prog_7_method_79_code
def yX5_byteAt : MethodName := ⟨RX5, "byteAt", "(I)I"⟩
abbrev cX5_isLetter : ByteArray := prog_7_method_80_code
def yX5_isLetter : MethodName := ⟨RX5, "isLetter", "(I)Z"⟩
abbrev cX5_isDigit : ByteArray := prog_7_method_81_code
def yX5_isDigit : MethodName := ⟨RX5, "isDigit", "(I)Z"⟩
abbrev cX5_token : ByteArray := prog_7_method_82_code
def yX5_token : MethodName := ⟨RX5, "token", "()V"⟩
abbrev cX5_needs : ByteArray := prog_7_method_83_code
def yX5_needs : MethodName := ⟨RX5, "needs", "(Z)V"⟩
abbrev cX5_word : ByteArray := prog_7_method_84_code
def yX5_word : MethodName := ⟨RX5, "word", "()J"⟩
abbrev cX5_number : ByteArray := prog_7_method_85_code
def yX5_number : MethodName := ⟨RX5, "number", "(II)V"⟩
abbrev cX5_kindHere : ByteArray := prog_7_method_86_code
def yX5_kindHere : MethodName := ⟨RX5, "kindHere", "()I"⟩
abbrev cX5_perhaps : ByteArray := prog_7_method_87_code
def yX5_perhaps : MethodName := ⟨RX5, "perhaps", "(ZIII)I"⟩
abbrev cX5_cellItem : ByteArray := prog_7_method_88_code
def yX5_cellItem : MethodName := ⟨RX5, "cellItem", "(I)V"⟩
abbrev cX5_houseItem : ByteArray := prog_7_method_89_code
def yX5_houseItem : MethodName := ⟨RX5, "houseItem", "()V"⟩
abbrev cX5_item : ByteArray := prog_7_method_90_code
def yX5_item : MethodName := ⟨RX5, "item", "()V"⟩
abbrev cX5_text : ByteArray := prog_7_method_91_code
def yX5_text : MethodName := ⟨RX5, "text", "()I"⟩
abbrev cX5_hold : ByteArray := prog_7_method_92_code
def yX5_hold : MethodName := ⟨RX5, "hold", "(II)I"⟩
abbrev cX5_as : ByteArray := prog_7_method_93_code
def yX5_as : MethodName := ⟨RX5, "as", "(II)I"⟩
abbrev cX5_isOne : ByteArray := prog_7_method_94_code
def yX5_isOne : MethodName := ⟨RX5, "isOne", "(I)Z"⟩
abbrev cX5_sheet : ByteArray := prog_7_method_95_code
def yX5_sheet : MethodName := ⟨RX5, "sheet", "(III)I"⟩
abbrev cX5_narrowed : ByteArray := prog_7_method_96_code
def yX5_narrowed : MethodName := ⟨RX5, "narrowed", "(II)I"⟩
abbrev cX5_wrong : ByteArray := prog_7_method_97_code
def yX5_wrong : MethodName := ⟨RX5, "wrong", "(I)I"⟩
abbrev cX5_write : ByteArray := prog_7_method_98_code
def yX5_write : MethodName := ⟨RX5, "write", "(III)I"⟩
abbrev cX5_copy : ByteArray := prog_7_method_99_code
def yX5_copy : MethodName := ⟨RX5, "copy", "(IIIII)I"⟩
abbrev cX5_load : ByteArray := prog_7_method_100_code
def yX5_load : MethodName := ⟨RX5, "load", "(II)I"⟩
abbrev cX5_judge : ByteArray := prog_7_method_101_code
def yX5_judge : MethodName := ⟨RX5, "judge", "(II)I"⟩
abbrev cX5_image : ByteArray := prog_7_method_102_code
def yX5_image : MethodName := ⟨RX5, "image", "()I"⟩
abbrev cX5_undo : ByteArray := prog_7_method_103_code
def yX5_undo : MethodName := ⟨RX5, "undo", "()I"⟩
abbrev cX5_tear : ByteArray := prog_7_method_104_code
def yX5_tear : MethodName := ⟨RX5, "tear", "()I"⟩
abbrev cX5_count : ByteArray := prog_7_method_105_code
def yX5_count : MethodName := ⟨RX5, "count", "(I)I"⟩
abbrev cX5_status : ByteArray := prog_7_method_106_code
def yX5_status : MethodName := ⟨RX5, "status", "(I)I"⟩
abbrev cJ6_bitCount_0f7a4 : ByteArray := prog_8_method_49_code
def yJ6_bitCount_0f7a4 : MethodName := ⟨RJ6, "bitCount", "(I)I"⟩
abbrev cJ9_abs_0f7a4 : ByteArray := prog_9_method_59_code
def yJ9_abs_0f7a4 : MethodName := ⟨RJ9, "abs", "(I)I"⟩
abbrev cJ9_max_7cf53 : ByteArray := prog_9_method_65_code
def yJ9_max_7cf53 : MethodName := ⟨RJ9, "max", "(II)I"⟩
abbrev cJ9_min_7cf53 : ByteArray := prog_9_method_69_code
def yJ9_min_7cf53 : MethodName := ⟨RJ9, "min", "(II)I"⟩
abbrev cJ0_length_8abf5 : ByteArray := prog_10_method_54_code
def yJ0_length_8abf5 : MethodName := ⟨RJ0, "length", "()I"⟩
abbrev cJ0_charAt_5068e : ByteArray := prog_10_method_56_code
def yJ0_charAt_5068e : MethodName := ⟨RJ0, "charAt", "(I)C"⟩
abbrev cJ0_coder_7d493 : ByteArray := prog_10_method_152_code
def yJ0_coder_7d493 : MethodName := ⟨RJ0, "coder", "()B"⟩
abbrev cJ0_isLatin1_aae02 : ByteArray := prog_10_method_154_code
def yJ0_isLatin1_aae02 : MethodName := ⟨RJ0, "isLatin1", "()Z"⟩
abbrev cJ0_checkIndex_df160 : ByteArray := prog_10_method_155_code
def yJ0_checkIndex_df160 : MethodName := ⟨RJ0, "checkIndex", "(II)V"⟩
abbrev cJ1_charAt_3b067 : ByteArray := prog_11_method_2_code
def yJ1_charAt_3b067 : MethodName := ⟨RJ1, "charAt", "([BI)C"⟩
abbrev cJ2_getChar_3b067 : ByteArray := prog_12_method_5_code
def yJ2_getChar_3b067 : MethodName := ⟨RJ2, "getChar", "([BI)C"⟩
abbrev cJ2_length_9d52b : ByteArray := prog_12_method_6_code
def yJ2_length_9d52b : MethodName := ⟨RJ2, "length", "([B)I"⟩
abbrev cJ2_charAt_3b067 : ByteArray := prog_12_method_83_code
def yJ2_charAt_3b067 : MethodName := ⟨RJ2, "charAt", "([BI)C"⟩
abbrev cJ2_checkIndex_2214a : ByteArray := prog_12_method_91_code
def yJ2_checkIndex_2214a : MethodName := ⟨RJ2, "checkIndex", "(I[B)V"⟩
abbrev cJ3_checkIndex_8e157 : ByteArray := prog_14_method_11_code
def yJ3_checkIndex_8e157 : MethodName := ⟨RJ3, "checkIndex", "(IILjava/util/function/BiFunction;)I"⟩
abbrev sl_cl : List vw_C := [(RX0, TX0, 13), (RX1, TX1, 3), (RX2, TX2, 6), (RX3, TX3, 1), (RX4, TX4, 9), (RX5, TX5, 20)]
def LX : List sl_E := [.inr (0, [some 1, some 2, some 3, some 4, some 5, some 6, some 7, some 8, none, none, none, none, none]), .inl 24, .inl 24, .inl 24, .inl 24, .inl 8, .inl 8, .inl 8, .inl 10, .inr (0, [some 10, some 11, some 12, some 13, some 14, some 15, some 16, some 17, none, none, none, none, none]), .inl 24, .inl 24, .inl 24, .inl 24, .inl 8, .inl 8, .inl 8, .inl 10, .inr (0, [some 19, some 20, some 21, some 22, some 23, some 24, some 25, some 26, none, none, none, none, none]), .inl 24, .inl 24, .inl 24, .inl 24, .inl 8, .inl 8, .inl 8, .inl 10, .inr (4, [some 0, some 9, some 18, none, some 28, some 30, some 31, some 35, some 36]), .inr (2, [some 29, none, none, none, none, none]), .inl 120, .inr (3, [some 28]), .inr (1, [some 32, some 33, some 34]), .inl 4, .inl 4, .inl 160, .inl 7, .inl 8]
def LR : List sl_E := [.inr (5, [some 1, some 2, some 3, some 4, none, some 5, some 6, none, none, none, some 7, none, none, none, none, none, some 8, some 9, some 10, some 11]), .inl 111, .inl 111, .inl 111, .inl 7, .inl 8, .inl 8, .inl 120, .inl 4, .inl 4, .inl 160, .inl 40]
theorem lx_0 : LX[0]? = some (.inr (0, [some 1, some 2, some 3, some 4, some 5, some 6, some 7, some 8, none, none, none, none, none])) := rfl
theorem lx_1 : LX[1]? = some (.inl 24) := rfl
theorem lx_2 : LX[2]? = some (.inl 24) := rfl
theorem lx_3 : LX[3]? = some (.inl 24) := rfl
theorem lx_4 : LX[4]? = some (.inl 24) := rfl
theorem lx_5 : LX[5]? = some (.inl 8) := rfl
theorem lx_6 : LX[6]? = some (.inl 8) := rfl
theorem lx_7 : LX[7]? = some (.inl 8) := rfl
theorem lx_8 : LX[8]? = some (.inl 10) := rfl
theorem lx_9 : LX[9]? = some (.inr (0, [some 10, some 11, some 12, some 13, some 14, some 15, some 16, some 17, none, none, none, none, none])) := rfl
theorem lx_10 : LX[10]? = some (.inl 24) := rfl
theorem lx_11 : LX[11]? = some (.inl 24) := rfl
theorem lx_12 : LX[12]? = some (.inl 24) := rfl
theorem lx_13 : LX[13]? = some (.inl 24) := rfl
theorem lx_14 : LX[14]? = some (.inl 8) := rfl
theorem lx_15 : LX[15]? = some (.inl 8) := rfl
theorem lx_16 : LX[16]? = some (.inl 8) := rfl
theorem lx_17 : LX[17]? = some (.inl 10) := rfl
theorem lx_18 : LX[18]? = some (.inr (0, [some 19, some 20, some 21, some 22, some 23, some 24, some 25, some 26, none, none, none, none, none])) := rfl
theorem lx_19 : LX[19]? = some (.inl 24) := rfl
theorem lx_20 : LX[20]? = some (.inl 24) := rfl
theorem lx_21 : LX[21]? = some (.inl 24) := rfl
theorem lx_22 : LX[22]? = some (.inl 24) := rfl
theorem lx_23 : LX[23]? = some (.inl 8) := rfl
theorem lx_24 : LX[24]? = some (.inl 8) := rfl
theorem lx_25 : LX[25]? = some (.inl 8) := rfl
theorem lx_26 : LX[26]? = some (.inl 10) := rfl
theorem lx_27 : LX[27]? = some (.inr (4, [some 0, some 9, some 18, none, some 28, some 30, some 31, some 35, some 36])) := rfl
theorem lx_28 : LX[28]? = some (.inr (2, [some 29, none, none, none, none, none])) := rfl
theorem lx_29 : LX[29]? = some (.inl 120) := rfl
theorem lx_30 : LX[30]? = some (.inr (3, [some 28])) := rfl
theorem lx_31 : LX[31]? = some (.inr (1, [some 32, some 33, some 34])) := rfl
theorem lx_32 : LX[32]? = some (.inl 4) := rfl
theorem lx_33 : LX[33]? = some (.inl 4) := rfl
theorem lx_34 : LX[34]? = some (.inl 160) := rfl
theorem lx_35 : LX[35]? = some (.inl 7) := rfl
theorem lx_36 : LX[36]? = some (.inl 8) := rfl
theorem lr_0 : LR[0]? = some (.inr (5, [some 1, some 2, some 3, some 4, none, some 5, some 6, none, none, none, some 7, none, none, none, none, none, some 8, some 9, some 10, some 11])) := rfl
theorem lr_1 : LR[1]? = some (.inl 111) := rfl
theorem lr_2 : LR[2]? = some (.inl 111) := rfl
theorem lr_3 : LR[3]? = some (.inl 111) := rfl
theorem lr_4 : LR[4]? = some (.inl 7) := rfl
theorem lr_5 : LR[5]? = some (.inl 8) := rfl
theorem lr_6 : LR[6]? = some (.inl 8) := rfl
theorem lr_7 : LR[7]? = some (.inl 120) := rfl
theorem lr_8 : LR[8]? = some (.inl 4) := rfl
theorem lr_9 : LR[9]? = some (.inl 4) := rfl
theorem lr_10 : LR[10]? = some (.inl 160) := rfl
theorem lr_11 : LR[11]? = some (.inl 40) := rfl
theorem lx_o {j : Nat} (h : j < 3) : LX[9 * j]? = some (.inr (0, [some (9 * j + 1), some (9 * j + 2), some (9 * j + 3), some (9 * j + 4), some (9 * j + 5), some (9 * j + 6), some (9 * j + 7), some (9 * j + 8), none, none, none, none, none])) := by
  match j, h with
  | 0, _ => rfl
  | 1, _ => rfl
  | 2, _ => rfl
theorem lx_a1 {j : Nat} (h : j < 3) : LX[9 * j + 1]? = some (.inl 24) := by
  match j, h with
  | 0, _ => rfl
  | 1, _ => rfl
  | 2, _ => rfl
theorem lx_a2 {j : Nat} (h : j < 3) : LX[9 * j + 2]? = some (.inl 24) := by
  match j, h with
  | 0, _ => rfl
  | 1, _ => rfl
  | 2, _ => rfl
theorem lx_a3 {j : Nat} (h : j < 3) : LX[9 * j + 3]? = some (.inl 24) := by
  match j, h with
  | 0, _ => rfl
  | 1, _ => rfl
  | 2, _ => rfl
theorem lx_a4 {j : Nat} (h : j < 3) : LX[9 * j + 4]? = some (.inl 24) := by
  match j, h with
  | 0, _ => rfl
  | 1, _ => rfl
  | 2, _ => rfl
theorem lx_a5 {j : Nat} (h : j < 3) : LX[9 * j + 5]? = some (.inl 8) := by
  match j, h with
  | 0, _ => rfl
  | 1, _ => rfl
  | 2, _ => rfl
theorem lx_a6 {j : Nat} (h : j < 3) : LX[9 * j + 6]? = some (.inl 8) := by
  match j, h with
  | 0, _ => rfl
  | 1, _ => rfl
  | 2, _ => rfl
theorem lx_a7 {j : Nat} (h : j < 3) : LX[9 * j + 7]? = some (.inl 8) := by
  match j, h with
  | 0, _ => rfl
  | 1, _ => rfl
  | 2, _ => rfl
theorem lx_a8 {j : Nat} (h : j < 3) : LX[9 * j + 8]? = some (.inl 10) := by
  match j, h with
  | 0, _ => rfl
  | 1, _ => rfl
  | 2, _ => rfl
theorem sl_in {ws : List Cond} (ps : List Nat) (hp : ws = ps.filterMap (fun i => lw_tbl[i]?)) : ∀ w ∈ ws, w ∈ lw_tbl := by
  intro w hw
  rw [hp] at hw
  obtain ⟨i, -, hi⟩ := List.mem_filterMap.mp hw
  exact List.mem_of_getElem? hi
theorem hh_X0 : sl_H sl_cl 0 RX0 TX0 13 tyX0 := ⟨rfl, sl_in [149, 151, 153, 155, 157, 159, 161, 163, 165, 167, 169, 171, 173] (by decide +kernel), by decide +kernel, by decide +kernel, by decide +kernel⟩
theorem hh_X1 : sl_H sl_cl 1 RX1 TX1 3 tyX1 := ⟨rfl, sl_in [227, 229, 231] (by decide +kernel), by decide +kernel, by decide +kernel, by decide +kernel⟩
theorem hh_X2 : sl_H sl_cl 2 RX2 TX2 6 tyX2 := ⟨rfl, sl_in [193, 195, 197, 199, 201, 203] (by decide +kernel), by decide +kernel, by decide +kernel, by decide +kernel⟩
theorem hh_X3 : sl_H sl_cl 3 RX3 TX3 1 tyX3 := ⟨rfl, sl_in [213] (by decide +kernel), by decide +kernel, by decide +kernel, by decide +kernel⟩
theorem hh_X4 : sl_H sl_cl 4 RX4 TX4 9 tyX4 := ⟨rfl, sl_in [243, 245, 247, 249, 251, 253, 255, 257, 259] (by decide +kernel), by decide +kernel, by decide +kernel, by decide +kernel⟩
theorem hh_X5 : sl_H sl_cl 5 RX5 TX5 20 tyX5 := ⟨rfl, sl_in [859, 861, 863, 865, 867, 869, 871, 873, 875, 877, 879, 881, 883, 885, 887, 889, 891, 893, 895, 897] (by decide +kernel), by decide +kernel, by decide +kernel, by decide +kernel⟩
theorem bp_m2 : (Int8.ofInt (-2)).toInt32 = -2 := by decide
theorem bp_6 : (Int8.ofInt 6).toInt32 = 6 := by decide
theorem bp_7 : (Int8.ofInt 7).toInt32 = 7 := by decide
theorem bp_8 : (Int8.ofInt 8).toInt32 = 8 := by decide
theorem bp_9 : (Int8.ofInt 9).toInt32 = 9 := by decide
theorem bp_10 : (Int8.ofInt 10).toInt32 = 10 := by decide
theorem bp_16 : (Int8.ofInt 16).toInt32 = 16 := by decide
theorem bp_20 : (Int8.ofInt 20).toInt32 = 20 := by decide
theorem bp_23 : (Int8.ofInt 23).toInt32 = 23 := by decide
theorem bp_24 : (Int8.ofInt 24).toInt32 = 24 := by decide
theorem bp_30 : (Int8.ofInt 30).toInt32 = 30 := by decide
theorem bp_32 : (Int8.ofInt 32).toInt32 = 32 := by decide
theorem bp_40 : (Int8.ofInt 40).toInt32 = 40 := by decide
theorem bp_48 : (Int8.ofInt 48).toInt32 = 48 := by decide
theorem bp_57 : (Int8.ofInt 57).toInt32 = 57 := by decide
theorem bp_59 : (Int8.ofInt 59).toInt32 = 59 := by decide
theorem bp_60 : (Int8.ofInt 60).toInt32 = 60 := by decide
theorem bp_63 : (Int8.ofInt 63).toInt32 = 63 := by decide
theorem bp_77 : (Int8.ofInt 77).toInt32 = 77 := by decide
theorem bp_96 : (Int8.ofInt 96).toInt32 = 96 := by decide
theorem bp_97 : (Int8.ofInt 97).toInt32 = 97 := by decide
theorem bp_99 : (Int8.ofInt 99).toInt32 = 99 := by decide
theorem bp_100 : (Int8.ofInt 100).toInt32 = 100 := by decide
theorem bp_101 : (Int8.ofInt 101).toInt32 = 101 := by decide
theorem bp_111 : (Int8.ofInt 111).toInt32 = 111 := by decide
theorem bp_120 : (Int8.ofInt 120).toInt32 = 120 := by decide
theorem bp_122 : (Int8.ofInt 122).toInt32 = 122 := by decide
theorem ic_m1 : Int32.ofInt (-1) = -1 := by decide
theorem ic_0 : Int32.ofInt 0 = 0 := by decide
theorem ic_1 : Int32.ofInt 1 = 1 := by decide
theorem ic_2 : Int32.ofInt 2 = 2 := by decide
theorem ic_3 : Int32.ofInt 3 = 3 := by decide
theorem ic_4 : Int32.ofInt 4 = 4 := by decide
theorem ic_5 : Int32.ofInt 5 = 5 := by decide
theorem sp_255 : (Int16.ofInt 255).toInt32 = 255 := by decide
theorem sp_999 : (Int16.ofInt 999).toInt32 = 999 := by decide
theorem sp_12345 : (Int16.ofInt 12345).toInt32 = 12345 := by decide
end
section
theorem q_0 : Cond.selects RX4 yX4_tell yX4_tell ∈ lw_tbl := List.mem_of_getElem? (i := 0) (by decide +kernel)
theorem q_1 : Cond.selects RX0 yX0_raiseTo yX0_raiseTo ∈ lw_tbl := List.mem_of_getElem? (i := 1) (by decide +kernel)
theorem q_2 : Cond.selects RX0 yX0_renewTop yX0_renewTop ∈ lw_tbl := List.mem_of_getElem? (i := 2) (by decide +kernel)
theorem q_3 : Cond.selects RX0 yX0_ageTo yX0_ageTo ∈ lw_tbl := List.mem_of_getElem? (i := 3) (by decide +kernel)
theorem q_4 : Cond.selects RX0 yX0_place yX0_place ∈ lw_tbl := List.mem_of_getElem? (i := 4) (by decide +kernel)
theorem q_5 : Cond.selects RX0 yX0_worthOf yX0_worthOf ∈ lw_tbl := List.mem_of_getElem? (i := 5) (by decide +kernel)
theorem q_6 : Cond.selects RX0 yX0_isBuiltUp yX0_isBuiltUp ∈ lw_tbl := List.mem_of_getElem? (i := 6) (by decide +kernel)
theorem q_7 : Cond.selects RX0 yX0_build yX0_build ∈ lw_tbl := List.mem_of_getElem? (i := 7) (by decide +kernel)
theorem q_8 : Cond.selects RX4 yX4_isHouse yX4_isHouse ∈ lw_tbl := List.mem_of_getElem? (i := 8) (by decide +kernel)
theorem q_9 : Cond.selects RX0 yX0_eyeOf yX0_eyeOf ∈ lw_tbl := List.mem_of_getElem? (i := 9) (by decide +kernel)
theorem q_10 : Cond.selects RX0 yX0_lower yX0_lower ∈ lw_tbl := List.mem_of_getElem? (i := 10) (by decide +kernel)
theorem q_11 : Cond.selects RX0 yX0_turnInto yX0_turnInto ∈ lw_tbl := List.mem_of_getElem? (i := 11) (by decide +kernel)
theorem q_12 : Cond.selects RX0 yX0_sightOf yX0_sightOf ∈ lw_tbl := List.mem_of_getElem? (i := 12) (by decide +kernel)
theorem q_13 : Cond.selects RX0 yX0_lookOut yX0_lookOut ∈ lw_tbl := List.mem_of_getElem? (i := 13) (by decide +kernel)
theorem q_14 : Cond.selects RX0 yX0_hasInSight yX0_hasInSight ∈ lw_tbl := List.mem_of_getElem? (i := 14) (by decide +kernel)
theorem q_15 : Cond.selects RX0 yX0_looksTowards yX0_looksTowards ∈ lw_tbl := List.mem_of_getElem? (i := 15) (by decide +kernel)
theorem q_16 : Cond.selects RX0 yX0_hiderOf yX0_hiderOf ∈ lw_tbl := List.mem_of_getElem? (i := 16) (by decide +kernel)
theorem q_17 : Cond.selects RX0 yX0_taxOf yX0_taxOf ∈ lw_tbl := List.mem_of_getElem? (i := 17) (by decide +kernel)
theorem q_18 : Cond.selects RX0 yX0_worthSeenBy yX0_worthSeenBy ∈ lw_tbl := List.mem_of_getElem? (i := 18) (by decide +kernel)
theorem q_19 : Cond.selects RX0 yX0_allTax yX0_allTax ∈ lw_tbl := List.mem_of_getElem? (i := 19) (by decide +kernel)
theorem q_20 : Cond.selects RX4 yX4_thriftyFloor yX4_thriftyFloor ∈ lw_tbl := List.mem_of_getElem? (i := 20) (by decide +kernel)
theorem q_21 : Cond.selects RX0 yX0_takeAll yX0_takeAll ∈ lw_tbl := List.mem_of_getElem? (i := 21) (by decide +kernel)
theorem q_22 : Cond.selects RX4 yX4_isTooLate yX4_isTooLate ∈ lw_tbl := List.mem_of_getElem? (i := 22) (by decide +kernel)
theorem q_23 : Cond.selects RX4 yX4_tryThing yX4_tryThing ∈ lw_tbl := List.mem_of_getElem? (i := 23) (by decide +kernel)
theorem q_24 : Cond.selects RX0 yX0_grow yX0_grow ∈ lw_tbl := List.mem_of_getElem? (i := 24) (by decide +kernel)
theorem q_25 : Cond.selects RX4 yX4_tryYears yX4_tryYears ∈ lw_tbl := List.mem_of_getElem? (i := 25) (by decide +kernel)
theorem q_26 : Cond.selects RX0 yX0_takeCell yX0_takeCell ∈ lw_tbl := List.mem_of_getElem? (i := 26) (by decide +kernel)
theorem q_27 : Cond.selects RX4 yX4_sightsOf yX4_sightsOf ∈ lw_tbl := List.mem_of_getElem? (i := 27) (by decide +kernel)
theorem q_28 : Cond.selects RX0 yX0_allSight yX0_allSight ∈ lw_tbl := List.mem_of_getElem? (i := 28) (by decide +kernel)
theorem q_29 : Cond.selects RX0 yX0_draw yX0_draw ∈ lw_tbl := List.mem_of_getElem? (i := 29) (by decide +kernel)
theorem q_30 : Cond.selects RX2 yX2_hasRoomFor yX2_hasRoomFor ∈ lw_tbl := List.mem_of_getElem? (i := 30) (by decide +kernel)
theorem q_31 : Cond.selects RX2 yX2_append yX2_append ∈ lw_tbl := List.mem_of_getElem? (i := 31) (by decide +kernel)
theorem q_32 : Cond.selects RX3 yX3_readInto yX3_readInto ∈ lw_tbl := List.mem_of_getElem? (i := 32) (by decide +kernel)
theorem q_33 : Cond.selects RX2 yX2_rewind yX2_rewind ∈ lw_tbl := List.mem_of_getElem? (i := 33) (by decide +kernel)
theorem q_34 : Cond.selects RX2 yX2_step yX2_step ∈ lw_tbl := List.mem_of_getElem? (i := 34) (by decide +kernel)
theorem q_35 : Cond.selects RX2 yX2_sortAt yX2_sortAt ∈ lw_tbl := List.mem_of_getElem? (i := 35) (by decide +kernel)
theorem q_36 : Cond.selects RX2 yX2_takeDigit yX2_takeDigit ∈ lw_tbl := List.mem_of_getElem? (i := 36) (by decide +kernel)
theorem q_37 : Cond.selects RX3 yX3_readItem yX3_readItem ∈ lw_tbl := List.mem_of_getElem? (i := 37) (by decide +kernel)
theorem q_38 : Cond.selects RX2 yX2_isWord yX2_isWord ∈ lw_tbl := List.mem_of_getElem? (i := 38) (by decide +kernel)
theorem q_39 : Cond.selects RX3 yX3_readHouse yX3_readHouse ∈ lw_tbl := List.mem_of_getElem? (i := 39) (by decide +kernel)
theorem q_40 : Cond.selects RX3 yX3_readNumber yX3_readNumber ∈ lw_tbl := List.mem_of_getElem? (i := 40) (by decide +kernel)
theorem q_41 : Cond.selects RX3 yX3_passes yX3_passes ∈ lw_tbl := List.mem_of_getElem? (i := 41) (by decide +kernel)
theorem q_42 : Cond.selects RX3 yX3_readHaze yX3_readHaze ∈ lw_tbl := List.mem_of_getElem? (i := 42) (by decide +kernel)
theorem q_43 : Cond.selects RX3 yX3_readRate yX3_readRate ∈ lw_tbl := List.mem_of_getElem? (i := 43) (by decide +kernel)
theorem q_44 : Cond.selects RX3 yX3_readKind yX3_readKind ∈ lw_tbl := List.mem_of_getElem? (i := 44) (by decide +kernel)
theorem q_45 : Cond.selects RX3 yX3_readThing yX3_readThing ∈ lw_tbl := List.mem_of_getElem? (i := 45) (by decide +kernel)
theorem q_46 : Cond.selects RX3 yX3_faultHere yX3_faultHere ∈ lw_tbl := List.mem_of_getElem? (i := 46) (by decide +kernel)
theorem q_47 : Cond.selects RX1 yX1_make yX1_make ∈ lw_tbl := List.mem_of_getElem? (i := 47) (by decide +kernel)
theorem q_48 : Cond.selects RX1 yX1_isMissing yX1_isMissing ∈ lw_tbl := List.mem_of_getElem? (i := 48) (by decide +kernel)
theorem q_49 : Cond.selects RX1 yX1_hasRun yX1_hasRun ∈ lw_tbl := List.mem_of_getElem? (i := 49) (by decide +kernel)
theorem q_50 : Cond.selects RX1 yX1_put yX1_put ∈ lw_tbl := List.mem_of_getElem? (i := 50) (by decide +kernel)
theorem q_51 : Cond.selects RX1 yX1_move yX1_move ∈ lw_tbl := List.mem_of_getElem? (i := 51) (by decide +kernel)
theorem q_52 : Cond.selects RX1 yX1_numberAt yX1_numberAt ∈ lw_tbl := List.mem_of_getElem? (i := 52) (by decide +kernel)
theorem q_53 : Cond.selects RX0 yX0_spotsInUse yX0_spotsInUse ∈ lw_tbl := List.mem_of_getElem? (i := 53) (by decide +kernel)
theorem q_54 : Cond.selects RX5 yX5_finds yX5_finds ∈ lw_tbl := List.mem_of_getElem? (i := 54) (by decide +kernel)
theorem q_55 : Cond.selects RX5 yX5_kindOf yX5_kindOf ∈ lw_tbl := List.mem_of_getElem? (i := 55) (by decide +kernel)
theorem q_56 : Cond.selects RX5 yX5_sets yX5_sets ∈ lw_tbl := List.mem_of_getElem? (i := 56) (by decide +kernel)
theorem q_57 : Cond.selects RX5 yX5_top yX5_top ∈ lw_tbl := List.mem_of_getElem? (i := 57) (by decide +kernel)
theorem q_58 : Cond.selects RX5 yX5_ageOf yX5_ageOf ∈ lw_tbl := List.mem_of_getElem? (i := 58) (by decide +kernel)
theorem q_59 : Cond.selects RX5 yX5_heightOf yX5_heightOf ∈ lw_tbl := List.mem_of_getElem? (i := 59) (by decide +kernel)
theorem q_60 : Cond.selects RX5 yX5_worth yX5_worth ∈ lw_tbl := List.mem_of_getElem? (i := 60) (by decide +kernel)
theorem q_61 : Cond.selects RX5 yX5_newHouse yX5_newHouse ∈ lw_tbl := List.mem_of_getElem? (i := 61) (by decide +kernel)
theorem q_62 : Cond.selects RX5 yX5_isHouse yX5_isHouse ∈ lw_tbl := List.mem_of_getElem? (i := 62) (by decide +kernel)
theorem q_63 : Cond.selects RX5 yX5_eye yX5_eye ∈ lw_tbl := List.mem_of_getElem? (i := 63) (by decide +kernel)
theorem q_64 : Cond.selects RX5 yX5_cellAt yX5_cellAt ∈ lw_tbl := List.mem_of_getElem? (i := 64) (by decide +kernel)
theorem q_65 : Cond.selects RX5 yX5_openOf yX5_openOf ∈ lw_tbl := List.mem_of_getElem? (i := 65) (by decide +kernel)
theorem q_66 : Cond.selects RX5 yX5_lowers yX5_lowers ∈ lw_tbl := List.mem_of_getElem? (i := 66) (by decide +kernel)
theorem q_67 : Cond.selects RX5 yX5_sightOf yX5_sightOf ∈ lw_tbl := List.mem_of_getElem? (i := 67) (by decide +kernel)
theorem q_68 : Cond.selects RX5 yX5_isTowards yX5_isTowards ∈ lw_tbl := List.mem_of_getElem? (i := 68) (by decide +kernel)
theorem q_69 : Cond.selects RX5 yX5_hider yX5_hider ∈ lw_tbl := List.mem_of_getElem? (i := 69) (by decide +kernel)
theorem q_70 : Cond.selects RX5 yX5_isHiding yX5_isHiding ∈ lw_tbl := List.mem_of_getElem? (i := 70) (by decide +kernel)
theorem q_71 : Cond.selects RX5 yX5_taxOf yX5_taxOf ∈ lw_tbl := List.mem_of_getElem? (i := 71) (by decide +kernel)
theorem q_72 : Cond.selects RX5 yX5_allTax yX5_allTax ∈ lw_tbl := List.mem_of_getElem? (i := 72) (by decide +kernel)
theorem q_73 : Cond.selects RX5 yX5_leastFloor yX5_leastFloor ∈ lw_tbl := List.mem_of_getElem? (i := 73) (by decide +kernel)
theorem q_74 : Cond.selects RX5 yX5_isTooFar yX5_isTooFar ∈ lw_tbl := List.mem_of_getElem? (i := 74) (by decide +kernel)
theorem q_75 : Cond.selects RX5 yX5_puts yX5_puts ∈ lw_tbl := List.mem_of_getElem? (i := 75) (by decide +kernel)
theorem q_76 : Cond.selects RX5 yX5_yearsGo yX5_yearsGo ∈ lw_tbl := List.mem_of_getElem? (i := 76) (by decide +kernel)
theorem q_77 : Cond.selects RX5 yX5_year yX5_year ∈ lw_tbl := List.mem_of_getElem? (i := 77) (by decide +kernel)
theorem q_78 : Cond.selects RX5 yX5_putsBack yX5_putsBack ∈ lw_tbl := List.mem_of_getElem? (i := 78) (by decide +kernel)
theorem q_79 : Cond.selects RX5 yX5_findSights yX5_findSights ∈ lw_tbl := List.mem_of_getElem? (i := 79) (by decide +kernel)
theorem q_80 : Cond.selects RX5 yX5_findHeights yX5_findHeights ∈ lw_tbl := List.mem_of_getElem? (i := 80) (by decide +kernel)
theorem q_81 : Cond.selects RX5 yX5_next yX5_next ∈ lw_tbl := List.mem_of_getElem? (i := 81) (by decide +kernel)
theorem q_82 : Cond.selects RX5 yX5_token yX5_token ∈ lw_tbl := List.mem_of_getElem? (i := 82) (by decide +kernel)
theorem q_83 : Cond.selects RX5 yX5_byteAt yX5_byteAt ∈ lw_tbl := List.mem_of_getElem? (i := 83) (by decide +kernel)
theorem q_84 : Cond.selects RX5 yX5_item yX5_item ∈ lw_tbl := List.mem_of_getElem? (i := 84) (by decide +kernel)
theorem q_85 : Cond.selects RX5 yX5_kindHere yX5_kindHere ∈ lw_tbl := List.mem_of_getElem? (i := 85) (by decide +kernel)
theorem q_86 : Cond.selects RX5 yX5_word yX5_word ∈ lw_tbl := List.mem_of_getElem? (i := 86) (by decide +kernel)
theorem q_87 : Cond.selects RX5 yX5_cellItem yX5_cellItem ∈ lw_tbl := List.mem_of_getElem? (i := 87) (by decide +kernel)
theorem q_88 : Cond.selects RX5 yX5_needs yX5_needs ∈ lw_tbl := List.mem_of_getElem? (i := 88) (by decide +kernel)
theorem q_89 : Cond.selects RX5 yX5_number yX5_number ∈ lw_tbl := List.mem_of_getElem? (i := 89) (by decide +kernel)
theorem q_90 : Cond.selects RX5 yX5_perhaps yX5_perhaps ∈ lw_tbl := List.mem_of_getElem? (i := 90) (by decide +kernel)
theorem q_91 : Cond.selects RX5 yX5_houseItem yX5_houseItem ∈ lw_tbl := List.mem_of_getElem? (i := 91) (by decide +kernel)
theorem q_92 : Cond.selects RX5 yX5_wrong yX5_wrong ∈ lw_tbl := List.mem_of_getElem? (i := 92) (by decide +kernel)
theorem q_94 : Cond.initialized RX4 ∈ lw_tbl := List.mem_of_getElem? (i := 94) (by decide +kernel)
theorem q_95 : Cond.initialized RX0 ∈ lw_tbl := List.mem_of_getElem? (i := 95) (by decide +kernel)
theorem q_96 : Cond.initialized RX2 ∈ lw_tbl := List.mem_of_getElem? (i := 96) (by decide +kernel)
theorem q_97 : Cond.initialized RX3 ∈ lw_tbl := List.mem_of_getElem? (i := 97) (by decide +kernel)
theorem q_98 : Cond.initialized RX1 ∈ lw_tbl := List.mem_of_getElem? (i := 98) (by decide +kernel)
theorem q_99 : Cond.initialized RX5 ∈ lw_tbl := List.mem_of_getElem? (i := 99) (by decide +kernel)
theorem q_100 : Cond.initialized RJ9 ∈ lw_tbl := List.mem_of_getElem? (i := 100) (by decide +kernel)
theorem q_101 : Cond.initialized RJ10 ∈ lw_tbl := List.mem_of_getElem? (i := 101) (by decide +kernel)
theorem q_102 : Cond.initialized RJ6 ∈ lw_tbl := List.mem_of_getElem? (i := 102) (by decide +kernel)
theorem q_121 : Cond.fieldLink RX0 9 "SeenLand$Land" "kinds" "[I" ∈ lw_tbl := List.mem_of_getElem? (i := 121) (by decide +kernel)
theorem q_122 : Cond.fieldLinkNest RX4 84 "SeenLand$Land" "kinds" "[I" "SeenLand" ∈ lw_tbl := List.mem_of_getElem? (i := 122) (by decide +kernel)
theorem q_123 : Cond.fieldLink RX0 13 "SeenLand$Land" "heights" "[I" ∈ lw_tbl := List.mem_of_getElem? (i := 123) (by decide +kernel)
theorem q_124 : Cond.fieldLinkNest RX4 68 "SeenLand$Land" "heights" "[I" "SeenLand" ∈ lw_tbl := List.mem_of_getElem? (i := 124) (by decide +kernel)
theorem q_125 : Cond.fieldLink RX0 16 "SeenLand$Land" "ages" "[I" ∈ lw_tbl := List.mem_of_getElem? (i := 125) (by decide +kernel)
theorem q_126 : Cond.fieldLinkNest RX4 75 "SeenLand$Land" "ages" "[I" "SeenLand" ∈ lw_tbl := List.mem_of_getElem? (i := 126) (by decide +kernel)
theorem q_127 : Cond.fieldLink RX0 19 "SeenLand$Land" "tops" "[I" ∈ lw_tbl := List.mem_of_getElem? (i := 127) (by decide +kernel)
theorem q_128 : Cond.fieldLinkNest RX4 90 "SeenLand$Land" "tops" "[I" "SeenLand" ∈ lw_tbl := List.mem_of_getElem? (i := 128) (by decide +kernel)
theorem q_129 : Cond.fieldLink RX0 22 "SeenLand$Land" "homes" "[I" ∈ lw_tbl := List.mem_of_getElem? (i := 129) (by decide +kernel)
theorem q_130 : Cond.fieldLinkNest RX4 114 "SeenLand$Land" "homes" "[I" "SeenLand" ∈ lw_tbl := List.mem_of_getElem? (i := 130) (by decide +kernel)
theorem q_131 : Cond.fieldLink RX0 25 "SeenLand$Land" "floors" "[I" ∈ lw_tbl := List.mem_of_getElem? (i := 131) (by decide +kernel)
theorem q_132 : Cond.fieldLinkNest RX4 117 "SeenLand$Land" "floors" "[I" "SeenLand" ∈ lw_tbl := List.mem_of_getElem? (i := 132) (by decide +kernel)
theorem q_133 : Cond.fieldLink RX0 28 "SeenLand$Land" "opens" "[I" ∈ lw_tbl := List.mem_of_getElem? (i := 133) (by decide +kernel)
theorem q_134 : Cond.fieldLinkNest RX4 123 "SeenLand$Land" "opens" "[I" "SeenLand" ∈ lw_tbl := List.mem_of_getElem? (i := 134) (by decide +kernel)
theorem q_135 : Cond.fieldLink RX0 31 "SeenLand$Land" "spots" "[I" ∈ lw_tbl := List.mem_of_getElem? (i := 135) (by decide +kernel)
theorem q_136 : Cond.fieldLinkNest RX4 235 "SeenLand$Land" "spots" "[I" "SeenLand" ∈ lw_tbl := List.mem_of_getElem? (i := 136) (by decide +kernel)
theorem q_137 : Cond.fieldLink RX0 34 "SeenLand$Land" "houses" "I" ∈ lw_tbl := List.mem_of_getElem? (i := 137) (by decide +kernel)
theorem q_138 : Cond.fieldLinkNest RX4 107 "SeenLand$Land" "houses" "I" "SeenLand" ∈ lw_tbl := List.mem_of_getElem? (i := 138) (by decide +kernel)
theorem q_139 : Cond.fieldLink RX0 38 "SeenLand$Land" "haze" "I" ∈ lw_tbl := List.mem_of_getElem? (i := 139) (by decide +kernel)
theorem q_140 : Cond.fieldLinkNest RX3 117 "SeenLand$Land" "haze" "I" "SeenLand" ∈ lw_tbl := List.mem_of_getElem? (i := 140) (by decide +kernel)
theorem q_141 : Cond.fieldLinkNest RX4 126 "SeenLand$Land" "haze" "I" "SeenLand" ∈ lw_tbl := List.mem_of_getElem? (i := 141) (by decide +kernel)
theorem q_142 : Cond.fieldLink RX0 41 "SeenLand$Land" "rate" "I" ∈ lw_tbl := List.mem_of_getElem? (i := 142) (by decide +kernel)
theorem q_143 : Cond.fieldLinkNest RX3 119 "SeenLand$Land" "rate" "I" "SeenLand" ∈ lw_tbl := List.mem_of_getElem? (i := 143) (by decide +kernel)
theorem q_144 : Cond.fieldLinkNest RX4 129 "SeenLand$Land" "rate" "I" "SeenLand" ∈ lw_tbl := List.mem_of_getElem? (i := 144) (by decide +kernel)
theorem q_145 : Cond.fieldLink RX0 44 "SeenLand$Land" "year" "I" ∈ lw_tbl := List.mem_of_getElem? (i := 145) (by decide +kernel)
theorem q_146 : Cond.fieldLinkNest RX4 210 "SeenLand$Land" "year" "I" "SeenLand" ∈ lw_tbl := List.mem_of_getElem? (i := 146) (by decide +kernel)
theorem q_147 : Cond.fieldLink RX0 47 "SeenLand$Land" "z" "I" ∈ lw_tbl := List.mem_of_getElem? (i := 147) (by decide +kernel)
theorem q_148 : Cond.fieldLinkNest RX4 216 "SeenLand$Land" "z" "I" "SeenLand" ∈ lw_tbl := List.mem_of_getElem? (i := 148) (by decide +kernel)
theorem q_183 : Cond.fieldLink RX2 9 "SeenLand$Tape" "bytes" "[I" ∈ lw_tbl := List.mem_of_getElem? (i := 183) (by decide +kernel)
theorem q_184 : Cond.fieldLink RX2 13 "SeenLand$Tape" "size" "I" ∈ lw_tbl := List.mem_of_getElem? (i := 184) (by decide +kernel)
theorem q_185 : Cond.fieldLinkNest RX4 225 "SeenLand$Tape" "size" "I" "SeenLand" ∈ lw_tbl := List.mem_of_getElem? (i := 185) (by decide +kernel)
theorem q_186 : Cond.fieldLink RX2 17 "SeenLand$Tape" "at" "I" ∈ lw_tbl := List.mem_of_getElem? (i := 186) (by decide +kernel)
theorem q_187 : Cond.fieldLink RX2 20 "SeenLand$Tape" "sort" "I" ∈ lw_tbl := List.mem_of_getElem? (i := 187) (by decide +kernel)
theorem q_188 : Cond.fieldLinkNest RX3 26 "SeenLand$Tape" "sort" "I" "SeenLand" ∈ lw_tbl := List.mem_of_getElem? (i := 188) (by decide +kernel)
theorem q_189 : Cond.fieldLink RX2 23 "SeenLand$Tape" "start" "I" ∈ lw_tbl := List.mem_of_getElem? (i := 189) (by decide +kernel)
theorem q_190 : Cond.fieldLinkNest RX3 33 "SeenLand$Tape" "start" "I" "SeenLand" ∈ lw_tbl := List.mem_of_getElem? (i := 190) (by decide +kernel)
theorem q_191 : Cond.fieldLink RX2 26 "SeenLand$Tape" "number" "I" ∈ lw_tbl := List.mem_of_getElem? (i := 191) (by decide +kernel)
theorem q_192 : Cond.fieldLinkNest RX3 121 "SeenLand$Tape" "number" "I" "SeenLand" ∈ lw_tbl := List.mem_of_getElem? (i := 192) (by decide +kernel)
theorem q_212 : Cond.fieldLink RX3 7 "SeenLand$TextReader" "tape" "LSeenLand$Tape;" ∈ lw_tbl := List.mem_of_getElem? (i := 212) (by decide +kernel)
theorem q_222 : Cond.fieldLink RX1 9 "SeenLand$Sheets" "widths" "[I" ∈ lw_tbl := List.mem_of_getElem? (i := 222) (by decide +kernel)
theorem q_223 : Cond.fieldLinkNest RX4 259 "SeenLand$Sheets" "widths" "[I" "SeenLand" ∈ lw_tbl := List.mem_of_getElem? (i := 223) (by decide +kernel)
theorem q_224 : Cond.fieldLink RX1 13 "SeenLand$Sheets" "sizes" "[I" ∈ lw_tbl := List.mem_of_getElem? (i := 224) (by decide +kernel)
theorem q_225 : Cond.fieldLinkNest RX4 247 "SeenLand$Sheets" "sizes" "[I" "SeenLand" ∈ lw_tbl := List.mem_of_getElem? (i := 225) (by decide +kernel)
theorem q_226 : Cond.fieldLink RX1 16 "SeenLand$Sheets" "numbers" "[I" ∈ lw_tbl := List.mem_of_getElem? (i := 226) (by decide +kernel)
theorem q_234 : Cond.fieldLink RX4 10 "SeenLand" "land" "LSeenLand$Land;" ∈ lw_tbl := List.mem_of_getElem? (i := 234) (by decide +kernel)
theorem q_235 : Cond.fieldLink RX4 16 "SeenLand" "trial" "LSeenLand$Land;" ∈ lw_tbl := List.mem_of_getElem? (i := 235) (by decide +kernel)
theorem q_236 : Cond.fieldLink RX4 19 "SeenLand" "kept" "LSeenLand$Land;" ∈ lw_tbl := List.mem_of_getElem? (i := 236) (by decide +kernel)
theorem q_237 : Cond.fieldLink RX4 22 "SeenLand" "isKept" "Z" ∈ lw_tbl := List.mem_of_getElem? (i := 237) (by decide +kernel)
theorem q_238 : Cond.fieldLink RX4 29 "SeenLand" "tape" "LSeenLand$Tape;" ∈ lw_tbl := List.mem_of_getElem? (i := 238) (by decide +kernel)
theorem q_239 : Cond.fieldLink RX4 38 "SeenLand" "reader" "LSeenLand$TextReader;" ∈ lw_tbl := List.mem_of_getElem? (i := 239) (by decide +kernel)
theorem q_240 : Cond.fieldLink RX4 45 "SeenLand" "sheets" "LSeenLand$Sheets;" ∈ lw_tbl := List.mem_of_getElem? (i := 240) (by decide +kernel)
theorem q_241 : Cond.fieldLink RX4 49 "SeenLand" "told" "[I" ∈ lw_tbl := List.mem_of_getElem? (i := 241) (by decide +kernel)
theorem q_242 : Cond.fieldLink RX4 53 "SeenLand" "marks" "[I" ∈ lw_tbl := List.mem_of_getElem? (i := 242) (by decide +kernel)
theorem q_265 : Cond.code yX4_cell cX4_cell 5 (some .int) ∈ lw_tbl := List.mem_of_getElem? (i := 265) (by decide +kernel)
theorem q_266 : Cond.methodLink RX4 56 yX4_isCell ∈ lw_tbl := List.mem_of_getElem? (i := 266) (by decide +kernel)
theorem q_267 : Cond.static yX4_isCell ∈ lw_tbl := List.mem_of_getElem? (i := 267) (by decide +kernel)
theorem q_268 : Cond.code yX4_isCell cX4_isCell 1 (some .boolean) ∈ lw_tbl := List.mem_of_getElem? (i := 268) (by decide +kernel)
theorem q_269 : Cond.methodLink RX4 60 yX4_isWithin ∈ lw_tbl := List.mem_of_getElem? (i := 269) (by decide +kernel)
theorem q_270 : Cond.static yX4_isWithin ∈ lw_tbl := List.mem_of_getElem? (i := 270) (by decide +kernel)
theorem q_271 : Cond.code yX4_isWithin cX4_isWithin 3 (some .boolean) ∈ lw_tbl := List.mem_of_getElem? (i := 271) (by decide +kernel)
theorem q_272 : Cond.methodLink RX4 64 yX4_tell ∈ lw_tbl := List.mem_of_getElem? (i := 272) (by decide +kernel)
theorem q_274 : Cond.instanceMethod yX4_tell ∈ lw_tbl := List.mem_of_getElem? (i := 274) (by decide +kernel)
theorem q_275 : Cond.code yX4_tell cX4_tell 2 (some .int) ∈ lw_tbl := List.mem_of_getElem? (i := 275) (by decide +kernel)
theorem q_276 : Cond.constant RX4 272 (-1000001) ∈ lw_tbl := List.mem_of_getElem? (i := 276) (by decide +kernel)
theorem q_277 : Cond.methodLinkNest RX4 71 yX0_raiseTo "SeenLand" ∈ lw_tbl := List.mem_of_getElem? (i := 277) (by decide +kernel)
theorem q_279 : Cond.instanceMethod yX0_raiseTo ∈ lw_tbl := List.mem_of_getElem? (i := 279) (by decide +kernel)
theorem q_280 : Cond.code yX0_raiseTo cX0_raiseTo 3 none ∈ lw_tbl := List.mem_of_getElem? (i := 280) (by decide +kernel)
theorem q_281 : Cond.methodLink RX0 56 yX0_renewTop ∈ lw_tbl := List.mem_of_getElem? (i := 281) (by decide +kernel)
theorem q_283 : Cond.instanceMethod yX0_renewTop ∈ lw_tbl := List.mem_of_getElem? (i := 283) (by decide +kernel)
theorem q_284 : Cond.code yX0_renewTop cX0_renewTop 2 none ∈ lw_tbl := List.mem_of_getElem? (i := 284) (by decide +kernel)
theorem q_285 : Cond.methodLink RX0 76 yX0_topFor ∈ lw_tbl := List.mem_of_getElem? (i := 285) (by decide +kernel)
theorem q_286 : Cond.static yX0_topFor ∈ lw_tbl := List.mem_of_getElem? (i := 286) (by decide +kernel)
theorem q_287 : Cond.code yX0_topFor cX0_topFor 3 (some .int) ∈ lw_tbl := List.mem_of_getElem? (i := 287) (by decide +kernel)
theorem q_288 : Cond.methodLink RX0 70 Lib.Math.min.name ∈ lw_tbl := List.mem_of_getElem? (i := 288) (by decide +kernel)
theorem q_289 : Cond.static Lib.Math.min.name ∈ lw_tbl := List.mem_of_getElem? (i := 289) (by decide +kernel)
theorem q_290 : Cond.code Lib.Math.min.name Lib.Math.min.code 2 (some .int) ∈ lw_tbl := List.mem_of_getElem? (i := 290) (by decide +kernel)
theorem q_291 : Cond.methodLinkNest RX4 78 yX0_ageTo "SeenLand" ∈ lw_tbl := List.mem_of_getElem? (i := 291) (by decide +kernel)
theorem q_293 : Cond.instanceMethod yX0_ageTo ∈ lw_tbl := List.mem_of_getElem? (i := 293) (by decide +kernel)
theorem q_294 : Cond.code yX0_ageTo cX0_ageTo 3 none ∈ lw_tbl := List.mem_of_getElem? (i := 294) (by decide +kernel)
theorem q_298 : Cond.code yX4_set cX4_set 4 (some .int) ∈ lw_tbl := List.mem_of_getElem? (i := 298) (by decide +kernel)
theorem q_299 : Cond.methodLink RX4 81 yX4_isKind ∈ lw_tbl := List.mem_of_getElem? (i := 299) (by decide +kernel)
theorem q_300 : Cond.static yX4_isKind ∈ lw_tbl := List.mem_of_getElem? (i := 300) (by decide +kernel)
theorem q_301 : Cond.code yX4_isKind cX4_isKind 1 (some .boolean) ∈ lw_tbl := List.mem_of_getElem? (i := 301) (by decide +kernel)
theorem q_302 : Cond.methodLinkNest RX4 87 yX0_place "SeenLand" ∈ lw_tbl := List.mem_of_getElem? (i := 302) (by decide +kernel)
theorem q_304 : Cond.instanceMethod yX0_place ∈ lw_tbl := List.mem_of_getElem? (i := 304) (by decide +kernel)
theorem q_305 : Cond.code yX0_place cX0_place 3 none ∈ lw_tbl := List.mem_of_getElem? (i := 305) (by decide +kernel)
theorem q_309 : Cond.code yX4_cellOf cX4_cellOf 3 (some .int) ∈ lw_tbl := List.mem_of_getElem? (i := 309) (by decide +kernel)
theorem q_310 : Cond.methodLinkNest RX4 93 yX0_worthOf "SeenLand" ∈ lw_tbl := List.mem_of_getElem? (i := 310) (by decide +kernel)
theorem q_312 : Cond.instanceMethod yX0_worthOf ∈ lw_tbl := List.mem_of_getElem? (i := 312) (by decide +kernel)
theorem q_313 : Cond.code yX0_worthOf cX0_worthOf 2 (some .int) ∈ lw_tbl := List.mem_of_getElem? (i := 313) (by decide +kernel)
theorem q_314 : Cond.fieldLink RX0 80 "SeenLand$Land" "WORTHS" "[I" ∈ lw_tbl := List.mem_of_getElem? (i := 314) (by decide +kernel)
theorem q_319 : Cond.code yX4_house cX4_house 3 (some .int) ∈ lw_tbl := List.mem_of_getElem? (i := 319) (by decide +kernel)
theorem q_320 : Cond.methodLink RX4 96 yX4_isFloor ∈ lw_tbl := List.mem_of_getElem? (i := 320) (by decide +kernel)
theorem q_321 : Cond.static yX4_isFloor ∈ lw_tbl := List.mem_of_getElem? (i := 321) (by decide +kernel)
theorem q_322 : Cond.code yX4_isFloor cX4_isFloor 1 (some .boolean) ∈ lw_tbl := List.mem_of_getElem? (i := 322) (by decide +kernel)
theorem q_323 : Cond.methodLinkNest RX4 99 yX0_isBuiltUp "SeenLand" ∈ lw_tbl := List.mem_of_getElem? (i := 323) (by decide +kernel)
theorem q_325 : Cond.instanceMethod yX0_isBuiltUp ∈ lw_tbl := List.mem_of_getElem? (i := 325) (by decide +kernel)
theorem q_326 : Cond.code yX0_isBuiltUp cX0_isBuiltUp 1 (some .boolean) ∈ lw_tbl := List.mem_of_getElem? (i := 326) (by decide +kernel)
theorem q_327 : Cond.methodLinkNest RX4 103 yX0_build "SeenLand" ∈ lw_tbl := List.mem_of_getElem? (i := 327) (by decide +kernel)
theorem q_329 : Cond.instanceMethod yX0_build ∈ lw_tbl := List.mem_of_getElem? (i := 329) (by decide +kernel)
theorem q_330 : Cond.code yX0_build cX0_build 4 none ∈ lw_tbl := List.mem_of_getElem? (i := 330) (by decide +kernel)
theorem q_334 : Cond.code yX4_houseOf cX4_houseOf 3 (some .int) ∈ lw_tbl := List.mem_of_getElem? (i := 334) (by decide +kernel)
theorem q_335 : Cond.methodLink RX4 111 yX4_isHouse ∈ lw_tbl := List.mem_of_getElem? (i := 335) (by decide +kernel)
theorem q_337 : Cond.instanceMethod yX4_isHouse ∈ lw_tbl := List.mem_of_getElem? (i := 337) (by decide +kernel)
theorem q_338 : Cond.code yX4_isHouse cX4_isHouse 2 (some .boolean) ∈ lw_tbl := List.mem_of_getElem? (i := 338) (by decide +kernel)
theorem q_339 : Cond.methodLinkNest RX4 120 yX0_eyeOf "SeenLand" ∈ lw_tbl := List.mem_of_getElem? (i := 339) (by decide +kernel)
theorem q_341 : Cond.instanceMethod yX0_eyeOf ∈ lw_tbl := List.mem_of_getElem? (i := 341) (by decide +kernel)
theorem q_342 : Cond.code yX0_eyeOf cX0_eyeOf 2 (some .int) ∈ lw_tbl := List.mem_of_getElem? (i := 342) (by decide +kernel)
theorem q_346 : Cond.code yX4_floor cX4_floor 4 (some .int) ∈ lw_tbl := List.mem_of_getElem? (i := 346) (by decide +kernel)
theorem q_350 : Cond.code yX4_windows cX4_windows 4 (some .int) ∈ lw_tbl := List.mem_of_getElem? (i := 350) (by decide +kernel)
theorem q_354 : Cond.code yX4_law cX4_law 4 (some .int) ∈ lw_tbl := List.mem_of_getElem? (i := 354) (by decide +kernel)
theorem q_358 : Cond.code yX4_dig cX4_dig 6 (some .int) ∈ lw_tbl := List.mem_of_getElem? (i := 358) (by decide +kernel)
theorem q_359 : Cond.methodLinkNest RX4 132 yX0_lower "SeenLand" ∈ lw_tbl := List.mem_of_getElem? (i := 359) (by decide +kernel)
theorem q_361 : Cond.instanceMethod yX0_lower ∈ lw_tbl := List.mem_of_getElem? (i := 361) (by decide +kernel)
theorem q_362 : Cond.code yX0_lower cX0_lower 3 none ∈ lw_tbl := List.mem_of_getElem? (i := 362) (by decide +kernel)
theorem q_363 : Cond.methodLink RX0 60 Lib.Math.max.name ∈ lw_tbl := List.mem_of_getElem? (i := 363) (by decide +kernel)
theorem q_364 : Cond.static Lib.Math.max.name ∈ lw_tbl := List.mem_of_getElem? (i := 364) (by decide +kernel)
theorem q_365 : Cond.code Lib.Math.max.name Lib.Math.max.code 2 (some .int) ∈ lw_tbl := List.mem_of_getElem? (i := 365) (by decide +kernel)
theorem q_366 : Cond.methodLink RX0 66 yX0_raiseTo ∈ lw_tbl := List.mem_of_getElem? (i := 366) (by decide +kernel)
theorem q_370 : Cond.code yX4_drain cX4_drain 4 (some .int) ∈ lw_tbl := List.mem_of_getElem? (i := 370) (by decide +kernel)
theorem q_371 : Cond.methodLinkNest RX4 135 yX0_turnInto "SeenLand" ∈ lw_tbl := List.mem_of_getElem? (i := 371) (by decide +kernel)
theorem q_373 : Cond.instanceMethod yX0_turnInto ∈ lw_tbl := List.mem_of_getElem? (i := 373) (by decide +kernel)
theorem q_374 : Cond.code yX0_turnInto cX0_turnInto 3 none ∈ lw_tbl := List.mem_of_getElem? (i := 374) (by decide +kernel)
theorem q_378 : Cond.code yX4_sight cX4_sight 2 (some .int) ∈ lw_tbl := List.mem_of_getElem? (i := 378) (by decide +kernel)
theorem q_379 : Cond.methodLinkNest RX4 138 yX0_sightOf "SeenLand" ∈ lw_tbl := List.mem_of_getElem? (i := 379) (by decide +kernel)
theorem q_381 : Cond.instanceMethod yX0_sightOf ∈ lw_tbl := List.mem_of_getElem? (i := 381) (by decide +kernel)
theorem q_382 : Cond.code yX0_sightOf cX0_sightOf 3 (some .int) ∈ lw_tbl := List.mem_of_getElem? (i := 382) (by decide +kernel)
theorem q_383 : Cond.methodLink RX0 86 yX0_lookOut ∈ lw_tbl := List.mem_of_getElem? (i := 383) (by decide +kernel)
theorem q_385 : Cond.instanceMethod yX0_lookOut ∈ lw_tbl := List.mem_of_getElem? (i := 385) (by decide +kernel)
theorem q_386 : Cond.code yX0_lookOut cX0_lookOut 12 (some .int) ∈ lw_tbl := List.mem_of_getElem? (i := 386) (by decide +kernel)
theorem q_387 : Cond.methodLink RX0 89 yX0_eyeOf ∈ lw_tbl := List.mem_of_getElem? (i := 387) (by decide +kernel)
theorem q_391 : Cond.code yX4_sees cX4_sees 3 (some .int) ∈ lw_tbl := List.mem_of_getElem? (i := 391) (by decide +kernel)
theorem q_392 : Cond.methodLinkNest RX4 141 yX0_hasInSight "SeenLand" ∈ lw_tbl := List.mem_of_getElem? (i := 392) (by decide +kernel)
theorem q_394 : Cond.instanceMethod yX0_hasInSight ∈ lw_tbl := List.mem_of_getElem? (i := 394) (by decide +kernel)
theorem q_395 : Cond.code yX0_hasInSight cX0_hasInSight 3 (some .boolean) ∈ lw_tbl := List.mem_of_getElem? (i := 395) (by decide +kernel)
theorem q_396 : Cond.methodLink RX0 93 yX0_sightOf ∈ lw_tbl := List.mem_of_getElem? (i := 396) (by decide +kernel)
theorem q_397 : Cond.methodLink RX0 96 yX0_isIn ∈ lw_tbl := List.mem_of_getElem? (i := 397) (by decide +kernel)
theorem q_398 : Cond.static yX0_isIn ∈ lw_tbl := List.mem_of_getElem? (i := 398) (by decide +kernel)
theorem q_399 : Cond.code yX0_isIn cX0_isIn 2 (some .boolean) ∈ lw_tbl := List.mem_of_getElem? (i := 399) (by decide +kernel)
theorem q_403 : Cond.code yX4_seenBy cX4_seenBy 4 (some .int) ∈ lw_tbl := List.mem_of_getElem? (i := 403) (by decide +kernel)
theorem q_407 : Cond.code yX4_neighbours cX4_neighbours 5 (some .int) ∈ lw_tbl := List.mem_of_getElem? (i := 407) (by decide +kernel)
theorem q_408 : Cond.methodLinkNest RX4 145 yX0_isIn "SeenLand" ∈ lw_tbl := List.mem_of_getElem? (i := 408) (by decide +kernel)
theorem q_412 : Cond.code yX4_hidden cX4_hidden 4 (some .int) ∈ lw_tbl := List.mem_of_getElem? (i := 412) (by decide +kernel)
theorem q_413 : Cond.methodLinkNest RX4 148 yX0_looksTowards "SeenLand" ∈ lw_tbl := List.mem_of_getElem? (i := 413) (by decide +kernel)
theorem q_415 : Cond.instanceMethod yX0_looksTowards ∈ lw_tbl := List.mem_of_getElem? (i := 415) (by decide +kernel)
theorem q_416 : Cond.code yX0_looksTowards cX0_looksTowards 5 (some .boolean) ∈ lw_tbl := List.mem_of_getElem? (i := 416) (by decide +kernel)
theorem q_417 : Cond.methodLink RX0 100 Lib.Math.abs.name ∈ lw_tbl := List.mem_of_getElem? (i := 417) (by decide +kernel)
theorem q_418 : Cond.static Lib.Math.abs.name ∈ lw_tbl := List.mem_of_getElem? (i := 418) (by decide +kernel)
theorem q_419 : Cond.code Lib.Math.abs.name Lib.Math.abs.code 1 (some .int) ∈ lw_tbl := List.mem_of_getElem? (i := 419) (by decide +kernel)
theorem q_420 : Cond.methodLinkNest RX4 151 yX0_hiderOf "SeenLand" ∈ lw_tbl := List.mem_of_getElem? (i := 420) (by decide +kernel)
theorem q_422 : Cond.instanceMethod yX0_hiderOf ∈ lw_tbl := List.mem_of_getElem? (i := 422) (by decide +kernel)
theorem q_423 : Cond.code yX0_hiderOf cX0_hiderOf 10 (some .int) ∈ lw_tbl := List.mem_of_getElem? (i := 423) (by decide +kernel)
theorem q_427 : Cond.code yX4_tax cX4_tax 2 (some .int) ∈ lw_tbl := List.mem_of_getElem? (i := 427) (by decide +kernel)
theorem q_428 : Cond.methodLinkNest RX4 155 yX0_taxOf "SeenLand" ∈ lw_tbl := List.mem_of_getElem? (i := 428) (by decide +kernel)
theorem q_430 : Cond.instanceMethod yX0_taxOf ∈ lw_tbl := List.mem_of_getElem? (i := 430) (by decide +kernel)
theorem q_431 : Cond.code yX0_taxOf cX0_taxOf 2 (some .int) ∈ lw_tbl := List.mem_of_getElem? (i := 431) (by decide +kernel)
theorem q_432 : Cond.methodLink RX0 106 yX0_worthSeenBy ∈ lw_tbl := List.mem_of_getElem? (i := 432) (by decide +kernel)
theorem q_434 : Cond.instanceMethod yX0_worthSeenBy ∈ lw_tbl := List.mem_of_getElem? (i := 434) (by decide +kernel)
theorem q_435 : Cond.code yX0_worthSeenBy cX0_worthSeenBy 5 (some .int) ∈ lw_tbl := List.mem_of_getElem? (i := 435) (by decide +kernel)
theorem q_436 : Cond.methodLink RX0 103 yX0_worthOf ∈ lw_tbl := List.mem_of_getElem? (i := 436) (by decide +kernel)
theorem q_437 : Cond.methodLink RX0 109 yX0_taxFor ∈ lw_tbl := List.mem_of_getElem? (i := 437) (by decide +kernel)
theorem q_438 : Cond.static yX0_taxFor ∈ lw_tbl := List.mem_of_getElem? (i := 438) (by decide +kernel)
theorem q_439 : Cond.code yX0_taxFor cX0_taxFor 2 (some .int) ∈ lw_tbl := List.mem_of_getElem? (i := 439) (by decide +kernel)
theorem q_443 : Cond.code yX4_all cX4_all 1 (some .int) ∈ lw_tbl := List.mem_of_getElem? (i := 443) (by decide +kernel)
theorem q_444 : Cond.methodLinkNest RX4 158 yX0_allTax "SeenLand" ∈ lw_tbl := List.mem_of_getElem? (i := 444) (by decide +kernel)
theorem q_446 : Cond.instanceMethod yX0_allTax ∈ lw_tbl := List.mem_of_getElem? (i := 446) (by decide +kernel)
theorem q_447 : Cond.code yX0_allTax cX0_allTax 3 (some .int) ∈ lw_tbl := List.mem_of_getElem? (i := 447) (by decide +kernel)
theorem q_448 : Cond.methodLink RX0 112 yX0_taxOf ∈ lw_tbl := List.mem_of_getElem? (i := 448) (by decide +kernel)
theorem q_452 : Cond.code yX4_cheapest cX4_cheapest 2 (some .int) ∈ lw_tbl := List.mem_of_getElem? (i := 452) (by decide +kernel)
theorem q_453 : Cond.methodLink RX4 162 yX4_thriftyFloor ∈ lw_tbl := List.mem_of_getElem? (i := 453) (by decide +kernel)
theorem q_455 : Cond.instanceMethod yX4_thriftyFloor ∈ lw_tbl := List.mem_of_getElem? (i := 455) (by decide +kernel)
theorem q_456 : Cond.code yX4_thriftyFloor cX4_thriftyFloor 6 (some .int) ∈ lw_tbl := List.mem_of_getElem? (i := 456) (by decide +kernel)
theorem q_457 : Cond.methodLinkNest RX4 165 yX0_takeAll "SeenLand" ∈ lw_tbl := List.mem_of_getElem? (i := 457) (by decide +kernel)
theorem q_459 : Cond.instanceMethod yX0_takeAll ∈ lw_tbl := List.mem_of_getElem? (i := 459) (by decide +kernel)
theorem q_460 : Cond.code yX0_takeAll cX0_takeAll 2 none ∈ lw_tbl := List.mem_of_getElem? (i := 460) (by decide +kernel)
theorem q_461 : Cond.methodLink RX0 50 arraycopyName ∈ lw_tbl := List.mem_of_getElem? (i := 461) (by decide +kernel)
theorem q_462 : Cond.static arraycopyName ∈ lw_tbl := List.mem_of_getElem? (i := 462) (by decide +kernel)
theorem q_463 : Cond.native arraycopyName ∈ lw_tbl := List.mem_of_getElem? (i := 463) (by decide +kernel)
theorem q_467 : Cond.code yX4_widest cX4_widest 6 (some .int) ∈ lw_tbl := List.mem_of_getElem? (i := 467) (by decide +kernel)
theorem q_468 : Cond.methodLink RX4 169 yJ6_bitCount_0f7a4 ∈ lw_tbl := List.mem_of_getElem? (i := 468) (by decide +kernel)
theorem q_469 : Cond.static yJ6_bitCount_0f7a4 ∈ lw_tbl := List.mem_of_getElem? (i := 469) (by decide +kernel)
theorem q_470 : Cond.code yJ6_bitCount_0f7a4 cJ6_bitCount_0f7a4 1 (some .int) ∈ lw_tbl := List.mem_of_getElem? (i := 470) (by decide +kernel)
theorem q_471 : Cond.constant RJ6 265 (1431655765) ∈ lw_tbl := List.mem_of_getElem? (i := 471) (by decide +kernel)
theorem q_472 : Cond.constant RJ6 266 (858993459) ∈ lw_tbl := List.mem_of_getElem? (i := 472) (by decide +kernel)
theorem q_473 : Cond.constant RJ6 267 (252645135) ∈ lw_tbl := List.mem_of_getElem? (i := 473) (by decide +kernel)
theorem q_477 : Cond.code yX4_wall cX4_wall 7 (some .int) ∈ lw_tbl := List.mem_of_getElem? (i := 477) (by decide +kernel)
theorem q_481 : Cond.code yX4_rateFor cX4_rateFor 5 (some .int) ∈ lw_tbl := List.mem_of_getElem? (i := 481) (by decide +kernel)
theorem q_482 : Cond.methodLink RX4 174 yX4_isTaxAsked ∈ lw_tbl := List.mem_of_getElem? (i := 482) (by decide +kernel)
theorem q_483 : Cond.static yX4_isTaxAsked ∈ lw_tbl := List.mem_of_getElem? (i := 483) (by decide +kernel)
theorem q_484 : Cond.code yX4_isTaxAsked cX4_isTaxAsked 1 (some .boolean) ∈ lw_tbl := List.mem_of_getElem? (i := 484) (by decide +kernel)
theorem q_485 : Cond.constant RX4 273 (99999) ∈ lw_tbl := List.mem_of_getElem? (i := 485) (by decide +kernel)
theorem q_486 : Cond.methodLinkNest RX4 177 yX0_worthSeenBy "SeenLand" ∈ lw_tbl := List.mem_of_getElem? (i := 486) (by decide +kernel)
theorem q_487 : Cond.methodLinkNest RX4 180 yX0_taxFor "SeenLand" ∈ lw_tbl := List.mem_of_getElem? (i := 487) (by decide +kernel)
theorem q_491 : Cond.code yX4_shade cX4_shade 8 (some .int) ∈ lw_tbl := List.mem_of_getElem? (i := 491) (by decide +kernel)
theorem q_492 : Cond.methodLink RX4 183 yX4_isSpan ∈ lw_tbl := List.mem_of_getElem? (i := 492) (by decide +kernel)
theorem q_493 : Cond.static yX4_isSpan ∈ lw_tbl := List.mem_of_getElem? (i := 493) (by decide +kernel)
theorem q_494 : Cond.code yX4_isSpan cX4_isSpan 1 (some .boolean) ∈ lw_tbl := List.mem_of_getElem? (i := 494) (by decide +kernel)
theorem q_495 : Cond.methodLink RX4 186 yX4_isTooLate ∈ lw_tbl := List.mem_of_getElem? (i := 495) (by decide +kernel)
theorem q_497 : Cond.instanceMethod yX4_isTooLate ∈ lw_tbl := List.mem_of_getElem? (i := 497) (by decide +kernel)
theorem q_498 : Cond.code yX4_isTooLate cX4_isTooLate 2 (some .boolean) ∈ lw_tbl := List.mem_of_getElem? (i := 498) (by decide +kernel)
theorem q_499 : Cond.methodLink RX4 189 yX4_tryThing ∈ lw_tbl := List.mem_of_getElem? (i := 499) (by decide +kernel)
theorem q_501 : Cond.instanceMethod yX4_tryThing ∈ lw_tbl := List.mem_of_getElem? (i := 501) (by decide +kernel)
theorem q_502 : Cond.code yX4_tryThing cX4_tryThing 4 none ∈ lw_tbl := List.mem_of_getElem? (i := 502) (by decide +kernel)
theorem q_503 : Cond.methodLinkNest RX4 207 yX0_grow "SeenLand" ∈ lw_tbl := List.mem_of_getElem? (i := 503) (by decide +kernel)
theorem q_505 : Cond.instanceMethod yX0_grow ∈ lw_tbl := List.mem_of_getElem? (i := 505) (by decide +kernel)
theorem q_506 : Cond.code yX0_grow cX0_grow 3 none ∈ lw_tbl := List.mem_of_getElem? (i := 506) (by decide +kernel)
theorem q_507 : Cond.methodLink RX0 73 yX0_ageTo ∈ lw_tbl := List.mem_of_getElem? (i := 507) (by decide +kernel)
theorem q_511 : Cond.code yX4_gains cX4_gains 6 (some .int) ∈ lw_tbl := List.mem_of_getElem? (i := 511) (by decide +kernel)
theorem q_512 : Cond.methodLink RX4 192 yX4_tryYears ∈ lw_tbl := List.mem_of_getElem? (i := 512) (by decide +kernel)
theorem q_514 : Cond.instanceMethod yX4_tryYears ∈ lw_tbl := List.mem_of_getElem? (i := 514) (by decide +kernel)
theorem q_515 : Cond.code yX4_tryYears cX4_tryYears 2 none ∈ lw_tbl := List.mem_of_getElem? (i := 515) (by decide +kernel)
theorem q_519 : Cond.code yX4_plant cX4_plant 6 (some .int) ∈ lw_tbl := List.mem_of_getElem? (i := 519) (by decide +kernel)
theorem q_523 : Cond.code yX4_two cX4_two 7 (some .int) ∈ lw_tbl := List.mem_of_getElem? (i := 523) (by decide +kernel)
theorem q_524 : Cond.methodLinkNest RX4 196 yX0_takeCell "SeenLand" ∈ lw_tbl := List.mem_of_getElem? (i := 524) (by decide +kernel)
theorem q_526 : Cond.instanceMethod yX0_takeCell ∈ lw_tbl := List.mem_of_getElem? (i := 526) (by decide +kernel)
theorem q_527 : Cond.code yX0_takeCell cX0_takeCell 3 none ∈ lw_tbl := List.mem_of_getElem? (i := 527) (by decide +kernel)
theorem q_531 : Cond.code yX4_restless cX4_restless 4 (some .int) ∈ lw_tbl := List.mem_of_getElem? (i := 531) (by decide +kernel)
theorem q_535 : Cond.code yX4_walk cX4_walk 6 (some .int) ∈ lw_tbl := List.mem_of_getElem? (i := 535) (by decide +kernel)
theorem q_536 : Cond.methodLink RX4 200 yX4_sightsOf ∈ lw_tbl := List.mem_of_getElem? (i := 536) (by decide +kernel)
theorem q_538 : Cond.instanceMethod yX4_sightsOf ∈ lw_tbl := List.mem_of_getElem? (i := 538) (by decide +kernel)
theorem q_539 : Cond.code yX4_sightsOf cX4_sightsOf 4 (some .int) ∈ lw_tbl := List.mem_of_getElem? (i := 539) (by decide +kernel)
theorem q_543 : Cond.code yX4_blind cX4_blind 1 (some .int) ∈ lw_tbl := List.mem_of_getElem? (i := 543) (by decide +kernel)
theorem q_544 : Cond.constant RX4 203 (16777215) ∈ lw_tbl := List.mem_of_getElem? (i := 544) (by decide +kernel)
theorem q_545 : Cond.methodLinkNest RX4 204 yX0_allSight "SeenLand" ∈ lw_tbl := List.mem_of_getElem? (i := 545) (by decide +kernel)
theorem q_547 : Cond.instanceMethod yX0_allSight ∈ lw_tbl := List.mem_of_getElem? (i := 547) (by decide +kernel)
theorem q_548 : Cond.code yX0_allSight cX0_allSight 3 (some .int) ∈ lw_tbl := List.mem_of_getElem? (i := 548) (by decide +kernel)
theorem q_552 : Cond.code yX4_heights cX4_heights 6 (some .int) ∈ lw_tbl := List.mem_of_getElem? (i := 552) (by decide +kernel)
theorem q_556 : Cond.code yX4_height cX4_height 7 (some .int) ∈ lw_tbl := List.mem_of_getElem? (i := 556) (by decide +kernel)
theorem q_560 : Cond.code yX4_which cX4_which 4 (some .int) ∈ lw_tbl := List.mem_of_getElem? (i := 560) (by decide +kernel)
theorem q_564 : Cond.code yX4_years cX4_years 2 (some .int) ∈ lw_tbl := List.mem_of_getElem? (i := 564) (by decide +kernel)
theorem q_568 : Cond.code yX4_ahead cX4_ahead 3 (some .int) ∈ lw_tbl := List.mem_of_getElem? (i := 568) (by decide +kernel)
theorem q_572 : Cond.code yX4_lost cX4_lost 4 (some .int) ∈ lw_tbl := List.mem_of_getElem? (i := 572) (by decide +kernel)
theorem q_576 : Cond.code yX4_when cX4_when 6 (some .int) ∈ lw_tbl := List.mem_of_getElem? (i := 576) (by decide +kernel)
theorem q_580 : Cond.code yX4_quake cX4_quake 4 (some .int) ∈ lw_tbl := List.mem_of_getElem? (i := 580) (by decide +kernel)
theorem q_581 : Cond.methodLinkNest RX4 213 yX0_draw "SeenLand" ∈ lw_tbl := List.mem_of_getElem? (i := 581) (by decide +kernel)
theorem q_583 : Cond.instanceMethod yX0_draw ∈ lw_tbl := List.mem_of_getElem? (i := 583) (by decide +kernel)
theorem q_584 : Cond.code yX0_draw cX0_draw 1 (some .int) ∈ lw_tbl := List.mem_of_getElem? (i := 584) (by decide +kernel)
theorem q_585 : Cond.constant RX0 115 (1103515245) ∈ lw_tbl := List.mem_of_getElem? (i := 585) (by decide +kernel)
theorem q_589 : Cond.code yX4_seed cX4_seed 3 (some .int) ∈ lw_tbl := List.mem_of_getElem? (i := 589) (by decide +kernel)
theorem q_593 : Cond.code yX4_feed cX4_feed 4 (some .int) ∈ lw_tbl := List.mem_of_getElem? (i := 593) (by decide +kernel)
theorem q_594 : Cond.methodLinkNest RX4 219 yX2_hasRoomFor "SeenLand" ∈ lw_tbl := List.mem_of_getElem? (i := 594) (by decide +kernel)
theorem q_596 : Cond.instanceMethod yX2_hasRoomFor ∈ lw_tbl := List.mem_of_getElem? (i := 596) (by decide +kernel)
theorem q_597 : Cond.code yX2_hasRoomFor cX2_hasRoomFor 2 (some .boolean) ∈ lw_tbl := List.mem_of_getElem? (i := 597) (by decide +kernel)
theorem q_598 : Cond.methodLinkNest RX4 222 yX2_append "SeenLand" ∈ lw_tbl := List.mem_of_getElem? (i := 598) (by decide +kernel)
theorem q_600 : Cond.instanceMethod yX2_append ∈ lw_tbl := List.mem_of_getElem? (i := 600) (by decide +kernel)
theorem q_601 : Cond.code yX2_append cX2_append 2 none ∈ lw_tbl := List.mem_of_getElem? (i := 601) (by decide +kernel)
theorem q_605 : Cond.code yX4_wipe cX4_wipe 2 (some .int) ∈ lw_tbl := List.mem_of_getElem? (i := 605) (by decide +kernel)
theorem q_609 : Cond.code yX4_text cX4_text 2 (some .int) ∈ lw_tbl := List.mem_of_getElem? (i := 609) (by decide +kernel)
theorem q_610 : Cond.methodLinkNest RX4 228 yX3_readInto "SeenLand" ∈ lw_tbl := List.mem_of_getElem? (i := 610) (by decide +kernel)
theorem q_612 : Cond.instanceMethod yX3_readInto ∈ lw_tbl := List.mem_of_getElem? (i := 612) (by decide +kernel)
theorem q_613 : Cond.code yX3_readInto cX3_readInto 3 (some .int) ∈ lw_tbl := List.mem_of_getElem? (i := 613) (by decide +kernel)
theorem q_614 : Cond.methodLinkNest RX3 13 yX2_rewind "SeenLand" ∈ lw_tbl := List.mem_of_getElem? (i := 614) (by decide +kernel)
theorem q_616 : Cond.instanceMethod yX2_rewind ∈ lw_tbl := List.mem_of_getElem? (i := 616) (by decide +kernel)
theorem q_617 : Cond.code yX2_rewind cX2_rewind 1 none ∈ lw_tbl := List.mem_of_getElem? (i := 617) (by decide +kernel)
theorem q_618 : Cond.methodLink RX2 29 yX2_step ∈ lw_tbl := List.mem_of_getElem? (i := 618) (by decide +kernel)
theorem q_620 : Cond.instanceMethod yX2_step ∈ lw_tbl := List.mem_of_getElem? (i := 620) (by decide +kernel)
theorem q_621 : Cond.code yX2_step cX2_step 1 none ∈ lw_tbl := List.mem_of_getElem? (i := 621) (by decide +kernel)
theorem q_622 : Cond.methodLink RX2 32 yX2_sortAt ∈ lw_tbl := List.mem_of_getElem? (i := 622) (by decide +kernel)
theorem q_624 : Cond.instanceMethod yX2_sortAt ∈ lw_tbl := List.mem_of_getElem? (i := 624) (by decide +kernel)
theorem q_625 : Cond.code yX2_sortAt cX2_sortAt 3 (some .int) ∈ lw_tbl := List.mem_of_getElem? (i := 625) (by decide +kernel)
theorem q_626 : Cond.methodLink RX2 36 yX2_takeDigit ∈ lw_tbl := List.mem_of_getElem? (i := 626) (by decide +kernel)
theorem q_628 : Cond.instanceMethod yX2_takeDigit ∈ lw_tbl := List.mem_of_getElem? (i := 628) (by decide +kernel)
theorem q_629 : Cond.code yX2_takeDigit cX2_takeDigit 2 none ∈ lw_tbl := List.mem_of_getElem? (i := 629) (by decide +kernel)
theorem q_630 : Cond.methodLink RX3 18 yX3_readItem ∈ lw_tbl := List.mem_of_getElem? (i := 630) (by decide +kernel)
theorem q_632 : Cond.instanceMethod yX3_readItem ∈ lw_tbl := List.mem_of_getElem? (i := 632) (by decide +kernel)
theorem q_633 : Cond.code yX3_readItem cX3_readItem 3 (some .boolean) ∈ lw_tbl := List.mem_of_getElem? (i := 633) (by decide +kernel)
theorem q_635 : Cond.methodLinkNest RX3 38 yX2_isWord "SeenLand" ∈ lw_tbl := List.mem_of_getElem? (i := 635) (by decide +kernel)
theorem q_637 : Cond.instanceMethod yX2_isWord ∈ lw_tbl := List.mem_of_getElem? (i := 637) (by decide +kernel)
theorem q_638 : Cond.code yX2_isWord cX2_isWord 3 (some .boolean) ∈ lw_tbl := List.mem_of_getElem? (i := 638) (by decide +kernel)
theorem q_639 : Cond.methodLink RX2 40 yJ0_length_8abf5 ∈ lw_tbl := List.mem_of_getElem? (i := 639) (by decide +kernel)
theorem q_649 : Cond.methodLink RX2 46 yJ0_charAt_5068e ∈ lw_tbl := List.mem_of_getElem? (i := 649) (by decide +kernel)
theorem q_687 : Cond.methodLinkNest RX3 42 yX0_isBuiltUp "SeenLand" ∈ lw_tbl := List.mem_of_getElem? (i := 687) (by decide +kernel)
theorem q_688 : Cond.methodLink RX3 48 yX3_readHouse ∈ lw_tbl := List.mem_of_getElem? (i := 688) (by decide +kernel)
theorem q_690 : Cond.instanceMethod yX3_readHouse ∈ lw_tbl := List.mem_of_getElem? (i := 690) (by decide +kernel)
theorem q_691 : Cond.code yX3_readHouse cX3_readHouse 5 (some .boolean) ∈ lw_tbl := List.mem_of_getElem? (i := 691) (by decide +kernel)
theorem q_692 : Cond.methodLinkNest RX3 30 yX2_step "SeenLand" ∈ lw_tbl := List.mem_of_getElem? (i := 692) (by decide +kernel)
theorem q_693 : Cond.methodLink RX3 85 yX3_readNumber ∈ lw_tbl := List.mem_of_getElem? (i := 693) (by decide +kernel)
theorem q_695 : Cond.instanceMethod yX3_readNumber ∈ lw_tbl := List.mem_of_getElem? (i := 695) (by decide +kernel)
theorem q_696 : Cond.code yX3_readNumber cX3_readNumber 4 (some .int) ∈ lw_tbl := List.mem_of_getElem? (i := 696) (by decide +kernel)
theorem q_698 : Cond.methodLink RX3 53 yX3_passes ∈ lw_tbl := List.mem_of_getElem? (i := 698) (by decide +kernel)
theorem q_700 : Cond.instanceMethod yX3_passes ∈ lw_tbl := List.mem_of_getElem? (i := 700) (by decide +kernel)
theorem q_701 : Cond.code yX3_passes cX3_passes 2 (some .boolean) ∈ lw_tbl := List.mem_of_getElem? (i := 701) (by decide +kernel)
theorem q_705 : Cond.methodLinkNest RX3 113 yX0_build "SeenLand" ∈ lw_tbl := List.mem_of_getElem? (i := 705) (by decide +kernel)
theorem q_707 : Cond.methodLink RX3 56 yX3_readHaze ∈ lw_tbl := List.mem_of_getElem? (i := 707) (by decide +kernel)
theorem q_709 : Cond.instanceMethod yX3_readHaze ∈ lw_tbl := List.mem_of_getElem? (i := 709) (by decide +kernel)
theorem q_710 : Cond.code yX3_readHaze cX3_readHaze 3 (some .boolean) ∈ lw_tbl := List.mem_of_getElem? (i := 710) (by decide +kernel)
theorem q_712 : Cond.methodLink RX3 61 yX3_readRate ∈ lw_tbl := List.mem_of_getElem? (i := 712) (by decide +kernel)
theorem q_714 : Cond.instanceMethod yX3_readRate ∈ lw_tbl := List.mem_of_getElem? (i := 714) (by decide +kernel)
theorem q_715 : Cond.code yX3_readRate cX3_readRate 3 (some .boolean) ∈ lw_tbl := List.mem_of_getElem? (i := 715) (by decide +kernel)
theorem q_716 : Cond.methodLink RX3 64 yX3_readKind ∈ lw_tbl := List.mem_of_getElem? (i := 716) (by decide +kernel)
theorem q_718 : Cond.instanceMethod yX3_readKind ∈ lw_tbl := List.mem_of_getElem? (i := 718) (by decide +kernel)
theorem q_719 : Cond.code yX3_readKind cX3_readKind 1 (some .int) ∈ lw_tbl := List.mem_of_getElem? (i := 719) (by decide +kernel)
theorem q_727 : Cond.methodLink RX3 67 yX3_readThing ∈ lw_tbl := List.mem_of_getElem? (i := 727) (by decide +kernel)
theorem q_729 : Cond.instanceMethod yX3_readThing ∈ lw_tbl := List.mem_of_getElem? (i := 729) (by decide +kernel)
theorem q_730 : Cond.code yX3_readThing cX3_readThing 8 (some .boolean) ∈ lw_tbl := List.mem_of_getElem? (i := 730) (by decide +kernel)
theorem q_734 : Cond.methodLinkNest RX3 95 yX0_place "SeenLand" ∈ lw_tbl := List.mem_of_getElem? (i := 734) (by decide +kernel)
theorem q_735 : Cond.methodLinkNest RX3 99 yX0_ageTo "SeenLand" ∈ lw_tbl := List.mem_of_getElem? (i := 735) (by decide +kernel)
theorem q_736 : Cond.methodLinkNest RX3 102 yX0_raiseTo "SeenLand" ∈ lw_tbl := List.mem_of_getElem? (i := 736) (by decide +kernel)
theorem q_737 : Cond.methodLink RX3 22 yX3_faultHere ∈ lw_tbl := List.mem_of_getElem? (i := 737) (by decide +kernel)
theorem q_739 : Cond.instanceMethod yX3_faultHere ∈ lw_tbl := List.mem_of_getElem? (i := 739) (by decide +kernel)
theorem q_740 : Cond.code yX3_faultHere cX3_faultHere 1 (some .int) ∈ lw_tbl := List.mem_of_getElem? (i := 740) (by decide +kernel)
theorem q_745 : Cond.code yX4_hold cX4_hold 3 (some .int) ∈ lw_tbl := List.mem_of_getElem? (i := 745) (by decide +kernel)
theorem q_746 : Cond.methodLink RX4 232 yX4_isSpot ∈ lw_tbl := List.mem_of_getElem? (i := 746) (by decide +kernel)
theorem q_747 : Cond.static yX4_isSpot ∈ lw_tbl := List.mem_of_getElem? (i := 747) (by decide +kernel)
theorem q_748 : Cond.code yX4_isSpot cX4_isSpot 1 (some .boolean) ∈ lw_tbl := List.mem_of_getElem? (i := 748) (by decide +kernel)
theorem q_752 : Cond.code yX4_as cX4_as 4 (some .int) ∈ lw_tbl := List.mem_of_getElem? (i := 752) (by decide +kernel)
theorem q_753 : Cond.methodLinkNest RX4 238 yX0_isOfKind "SeenLand" ∈ lw_tbl := List.mem_of_getElem? (i := 753) (by decide +kernel)
theorem q_754 : Cond.static yX0_isOfKind ∈ lw_tbl := List.mem_of_getElem? (i := 754) (by decide +kernel)
theorem q_755 : Cond.code yX0_isOfKind cX0_isOfKind 4 (some .boolean) ∈ lw_tbl := List.mem_of_getElem? (i := 755) (by decide +kernel)
theorem q_756 : Cond.fieldLink RX0 83 "SeenLand$Land" "KIND_ABOVE" "[I" ∈ lw_tbl := List.mem_of_getElem? (i := 756) (by decide +kernel)
theorem q_761 : Cond.code yX4_sheet cX4_sheet 4 (some .int) ∈ lw_tbl := List.mem_of_getElem? (i := 761) (by decide +kernel)
theorem q_762 : Cond.methodLinkNest RX4 241 yX1_isSheet "SeenLand" ∈ lw_tbl := List.mem_of_getElem? (i := 762) (by decide +kernel)
theorem q_763 : Cond.static yX1_isSheet ∈ lw_tbl := List.mem_of_getElem? (i := 763) (by decide +kernel)
theorem q_764 : Cond.code yX1_isSheet cX1_isSheet 1 (some .boolean) ∈ lw_tbl := List.mem_of_getElem? (i := 764) (by decide +kernel)
theorem q_765 : Cond.methodLinkNest RX4 244 yX1_make "SeenLand" ∈ lw_tbl := List.mem_of_getElem? (i := 765) (by decide +kernel)
theorem q_767 : Cond.instanceMethod yX1_make ∈ lw_tbl := List.mem_of_getElem? (i := 767) (by decide +kernel)
theorem q_768 : Cond.code yX1_make cX1_make 5 none ∈ lw_tbl := List.mem_of_getElem? (i := 768) (by decide +kernel)
theorem q_772 : Cond.code yX4_write cX4_write 4 (some .int) ∈ lw_tbl := List.mem_of_getElem? (i := 772) (by decide +kernel)
theorem q_773 : Cond.methodLinkNest RX4 250 yX1_isMissing "SeenLand" ∈ lw_tbl := List.mem_of_getElem? (i := 773) (by decide +kernel)
theorem q_775 : Cond.instanceMethod yX1_isMissing ∈ lw_tbl := List.mem_of_getElem? (i := 775) (by decide +kernel)
theorem q_776 : Cond.code yX1_isMissing cX1_isMissing 2 (some .boolean) ∈ lw_tbl := List.mem_of_getElem? (i := 776) (by decide +kernel)
theorem q_777 : Cond.methodLinkNest RX4 253 yX1_hasRun "SeenLand" ∈ lw_tbl := List.mem_of_getElem? (i := 777) (by decide +kernel)
theorem q_779 : Cond.instanceMethod yX1_hasRun ∈ lw_tbl := List.mem_of_getElem? (i := 779) (by decide +kernel)
theorem q_780 : Cond.code yX1_hasRun cX1_hasRun 4 (some .boolean) ∈ lw_tbl := List.mem_of_getElem? (i := 780) (by decide +kernel)
theorem q_781 : Cond.methodLinkNest RX4 256 yX1_put "SeenLand" ∈ lw_tbl := List.mem_of_getElem? (i := 781) (by decide +kernel)
theorem q_783 : Cond.instanceMethod yX1_put ∈ lw_tbl := List.mem_of_getElem? (i := 783) (by decide +kernel)
theorem q_784 : Cond.code yX1_put cX1_put 4 none ∈ lw_tbl := List.mem_of_getElem? (i := 784) (by decide +kernel)
theorem q_785 : Cond.methodLink RX1 19 yX1_cutTo ∈ lw_tbl := List.mem_of_getElem? (i := 785) (by decide +kernel)
theorem q_786 : Cond.static yX1_cutTo ∈ lw_tbl := List.mem_of_getElem? (i := 786) (by decide +kernel)
theorem q_787 : Cond.code yX1_cutTo cX1_cutTo 2 (some .int) ∈ lw_tbl := List.mem_of_getElem? (i := 787) (by decide +kernel)
theorem q_791 : Cond.code yX4_copy cX4_copy 6 (some .int) ∈ lw_tbl := List.mem_of_getElem? (i := 791) (by decide +kernel)
theorem q_792 : Cond.methodLinkNest RX4 262 yX1_move "SeenLand" ∈ lw_tbl := List.mem_of_getElem? (i := 792) (by decide +kernel)
theorem q_794 : Cond.instanceMethod yX1_move ∈ lw_tbl := List.mem_of_getElem? (i := 794) (by decide +kernel)
theorem q_795 : Cond.code yX1_move cX1_move 6 none ∈ lw_tbl := List.mem_of_getElem? (i := 795) (by decide +kernel)
theorem q_796 : Cond.methodLink RX1 23 arraycopyName ∈ lw_tbl := List.mem_of_getElem? (i := 796) (by decide +kernel)
theorem q_800 : Cond.code yX4_load cX4_load 4 (some .int) ∈ lw_tbl := List.mem_of_getElem? (i := 800) (by decide +kernel)
theorem q_801 : Cond.methodLinkNest RX4 266 yX1_numberAt "SeenLand" ∈ lw_tbl := List.mem_of_getElem? (i := 801) (by decide +kernel)
theorem q_803 : Cond.instanceMethod yX1_numberAt ∈ lw_tbl := List.mem_of_getElem? (i := 803) (by decide +kernel)
theorem q_804 : Cond.code yX1_numberAt cX1_numberAt 3 (some .int) ∈ lw_tbl := List.mem_of_getElem? (i := 804) (by decide +kernel)
theorem q_808 : Cond.code yX4_judge cX4_judge 5 (some .int) ∈ lw_tbl := List.mem_of_getElem? (i := 808) (by decide +kernel)
theorem q_812 : Cond.code yX4_image cX4_image 1 (some .int) ∈ lw_tbl := List.mem_of_getElem? (i := 812) (by decide +kernel)
theorem q_816 : Cond.code yX4_undo cX4_undo 1 (some .int) ∈ lw_tbl := List.mem_of_getElem? (i := 816) (by decide +kernel)
theorem q_820 : Cond.code yX4_tear cX4_tear 2 (some .int) ∈ lw_tbl := List.mem_of_getElem? (i := 820) (by decide +kernel)
theorem q_824 : Cond.code yX4_count cX4_count 2 (some .int) ∈ lw_tbl := List.mem_of_getElem? (i := 824) (by decide +kernel)
theorem q_825 : Cond.methodLinkNest RX4 269 yX0_spotsInUse "SeenLand" ∈ lw_tbl := List.mem_of_getElem? (i := 825) (by decide +kernel)
theorem q_827 : Cond.instanceMethod yX0_spotsInUse ∈ lw_tbl := List.mem_of_getElem? (i := 827) (by decide +kernel)
theorem q_828 : Cond.code yX0_spotsInUse cX0_spotsInUse 3 (some .int) ∈ lw_tbl := List.mem_of_getElem? (i := 828) (by decide +kernel)
theorem q_832 : Cond.code yX4_status cX4_status 4 (some .int) ∈ lw_tbl := List.mem_of_getElem? (i := 832) (by decide +kernel)
theorem q_839 : Cond.fieldLink RX5 7 "SeenLandModel" "s" "[I" ∈ lw_tbl := List.mem_of_getElem? (i := 839) (by decide +kernel)
theorem q_840 : Cond.fieldLink RX5 13 "SeenLandModel" "keptS" "[I" ∈ lw_tbl := List.mem_of_getElem? (i := 840) (by decide +kernel)
theorem q_841 : Cond.fieldLink RX5 16 "SeenLandModel" "other" "[I" ∈ lw_tbl := List.mem_of_getElem? (i := 841) (by decide +kernel)
theorem q_842 : Cond.fieldLink RX5 19 "SeenLandModel" "statuses" "[I" ∈ lw_tbl := List.mem_of_getElem? (i := 842) (by decide +kernel)
theorem q_843 : Cond.fieldLink RX5 320 "SeenLandModel" "isKept" "Z" ∈ lw_tbl := List.mem_of_getElem? (i := 843) (by decide +kernel)
theorem q_844 : Cond.fieldLink RX5 22 "SeenLandModel" "taxes" "[I" ∈ lw_tbl := List.mem_of_getElem? (i := 844) (by decide +kernel)
theorem q_845 : Cond.fieldLink RX5 25 "SeenLandModel" "sights" "[I" ∈ lw_tbl := List.mem_of_getElem? (i := 845) (by decide +kernel)
theorem q_846 : Cond.fieldLink RX5 185 "SeenLandModel" "heightMany" "I" ∈ lw_tbl := List.mem_of_getElem? (i := 846) (by decide +kernel)
theorem q_847 : Cond.fieldLink RX5 189 "SeenLandModel" "heightLeast" "I" ∈ lw_tbl := List.mem_of_getElem? (i := 847) (by decide +kernel)
theorem q_848 : Cond.fieldLink RX5 192 "SeenLandModel" "heightMost" "I" ∈ lw_tbl := List.mem_of_getElem? (i := 848) (by decide +kernel)
theorem q_849 : Cond.fieldLink RX5 28 "SeenLandModel" "tape" "[I" ∈ lw_tbl := List.mem_of_getElem? (i := 849) (by decide +kernel)
theorem q_850 : Cond.fieldLink RX5 204 "SeenLandModel" "taped" "I" ∈ lw_tbl := List.mem_of_getElem? (i := 850) (by decide +kernel)
theorem q_851 : Cond.fieldLink RX5 218 "SeenLandModel" "from" "I" ∈ lw_tbl := List.mem_of_getElem? (i := 851) (by decide +kernel)
theorem q_852 : Cond.fieldLink RX5 215 "SeenLandModel" "to" "I" ∈ lw_tbl := List.mem_of_getElem? (i := 852) (by decide +kernel)
theorem q_853 : Cond.fieldLink RX5 241 "SeenLandModel" "value" "I" ∈ lw_tbl := List.mem_of_getElem? (i := 853) (by decide +kernel)
theorem q_854 : Cond.fieldLink RX5 230 "SeenLandModel" "isWrong" "Z" ∈ lw_tbl := List.mem_of_getElem? (i := 854) (by decide +kernel)
theorem q_855 : Cond.fieldLink RX5 31 "SeenLandModel" "bitsOf" "[I" ∈ lw_tbl := List.mem_of_getElem? (i := 855) (by decide +kernel)
theorem q_856 : Cond.fieldLink RX5 34 "SeenLandModel" "sizeOf" "[I" ∈ lw_tbl := List.mem_of_getElem? (i := 856) (by decide +kernel)
theorem q_857 : Cond.fieldLink RX5 37 "SeenLandModel" "number" "[I" ∈ lw_tbl := List.mem_of_getElem? (i := 857) (by decide +kernel)
theorem q_858 : Cond.fieldLink RX5 40 "SeenLandModel" "moved" "[I" ∈ lw_tbl := List.mem_of_getElem? (i := 858) (by decide +kernel)
theorem q_903 : Cond.code yX5_cell cX5_cell 5 (some .int) ∈ lw_tbl := List.mem_of_getElem? (i := 903) (by decide +kernel)
theorem q_904 : Cond.methodLink RX5 58 yX5_isCell ∈ lw_tbl := List.mem_of_getElem? (i := 904) (by decide +kernel)
theorem q_905 : Cond.static yX5_isCell ∈ lw_tbl := List.mem_of_getElem? (i := 905) (by decide +kernel)
theorem q_906 : Cond.code yX5_isCell cX5_isCell 1 (some .boolean) ∈ lw_tbl := List.mem_of_getElem? (i := 906) (by decide +kernel)
theorem q_907 : Cond.constantLong RX5 44 (23) ∈ lw_tbl := List.mem_of_getElem? (i := 907) (by decide +kernel)
theorem q_908 : Cond.methodLink RX5 46 yX5_in ∈ lw_tbl := List.mem_of_getElem? (i := 908) (by decide +kernel)
theorem q_909 : Cond.static yX5_in ∈ lw_tbl := List.mem_of_getElem? (i := 909) (by decide +kernel)
theorem q_910 : Cond.code yX5_in cX5_in 6 (some .boolean) ∈ lw_tbl := List.mem_of_getElem? (i := 910) (by decide +kernel)
theorem q_911 : Cond.constantLong RX5 73 (99) ∈ lw_tbl := List.mem_of_getElem? (i := 911) (by decide +kernel)
theorem q_912 : Cond.constant RX5 43 (-1000001) ∈ lw_tbl := List.mem_of_getElem? (i := 912) (by decide +kernel)
theorem q_913 : Cond.methodLink RX5 75 yX5_finds ∈ lw_tbl := List.mem_of_getElem? (i := 913) (by decide +kernel)
theorem q_915 : Cond.instanceMethod yX5_finds ∈ lw_tbl := List.mem_of_getElem? (i := 915) (by decide +kernel)
theorem q_916 : Cond.code yX5_finds cX5_finds 2 (some .int) ∈ lw_tbl := List.mem_of_getElem? (i := 916) (by decide +kernel)
theorem q_920 : Cond.code yX5_set cX5_set 4 (some .int) ∈ lw_tbl := List.mem_of_getElem? (i := 920) (by decide +kernel)
theorem q_921 : Cond.methodLink RX5 78 yX5_isKind ∈ lw_tbl := List.mem_of_getElem? (i := 921) (by decide +kernel)
theorem q_922 : Cond.static yX5_isKind ∈ lw_tbl := List.mem_of_getElem? (i := 922) (by decide +kernel)
theorem q_923 : Cond.code yX5_isKind cX5_isKind 1 (some .boolean) ∈ lw_tbl := List.mem_of_getElem? (i := 923) (by decide +kernel)
theorem q_924 : Cond.constantLong RX5 50 (6) ∈ lw_tbl := List.mem_of_getElem? (i := 924) (by decide +kernel)
theorem q_925 : Cond.methodLink RX5 67 yX5_kindOf ∈ lw_tbl := List.mem_of_getElem? (i := 925) (by decide +kernel)
theorem q_927 : Cond.instanceMethod yX5_kindOf ∈ lw_tbl := List.mem_of_getElem? (i := 927) (by decide +kernel)
theorem q_928 : Cond.code yX5_kindOf cX5_kindOf 2 (some .int) ∈ lw_tbl := List.mem_of_getElem? (i := 928) (by decide +kernel)
theorem q_929 : Cond.methodLink RX5 81 yX5_sets ∈ lw_tbl := List.mem_of_getElem? (i := 929) (by decide +kernel)
theorem q_931 : Cond.instanceMethod yX5_sets ∈ lw_tbl := List.mem_of_getElem? (i := 931) (by decide +kernel)
theorem q_932 : Cond.code yX5_sets cX5_sets 3 none ∈ lw_tbl := List.mem_of_getElem? (i := 932) (by decide +kernel)
theorem q_936 : Cond.code yX5_cellOf cX5_cellOf 3 (some .int) ∈ lw_tbl := List.mem_of_getElem? (i := 936) (by decide +kernel)
theorem q_937 : Cond.constantLong RX5 85 (4) ∈ lw_tbl := List.mem_of_getElem? (i := 937) (by decide +kernel)
theorem q_938 : Cond.methodLink RX5 87 yX5_top ∈ lw_tbl := List.mem_of_getElem? (i := 938) (by decide +kernel)
theorem q_940 : Cond.instanceMethod yX5_top ∈ lw_tbl := List.mem_of_getElem? (i := 940) (by decide +kernel)
theorem q_941 : Cond.code yX5_top cX5_top 3 (some .int) ∈ lw_tbl := List.mem_of_getElem? (i := 941) (by decide +kernel)
theorem q_942 : Cond.methodLink RX5 63 yX5_ageOf ∈ lw_tbl := List.mem_of_getElem? (i := 942) (by decide +kernel)
theorem q_944 : Cond.instanceMethod yX5_ageOf ∈ lw_tbl := List.mem_of_getElem? (i := 944) (by decide +kernel)
theorem q_945 : Cond.code yX5_ageOf cX5_ageOf 2 (some .int) ∈ lw_tbl := List.mem_of_getElem? (i := 945) (by decide +kernel)
theorem q_946 : Cond.methodLink RX5 70 yX5_heightOf ∈ lw_tbl := List.mem_of_getElem? (i := 946) (by decide +kernel)
theorem q_948 : Cond.instanceMethod yX5_heightOf ∈ lw_tbl := List.mem_of_getElem? (i := 948) (by decide +kernel)
theorem q_949 : Cond.code yX5_heightOf cX5_heightOf 2 (some .int) ∈ lw_tbl := List.mem_of_getElem? (i := 949) (by decide +kernel)
theorem q_950 : Cond.methodLink RX5 90 yX5_worth ∈ lw_tbl := List.mem_of_getElem? (i := 950) (by decide +kernel)
theorem q_952 : Cond.instanceMethod yX5_worth ∈ lw_tbl := List.mem_of_getElem? (i := 952) (by decide +kernel)
theorem q_953 : Cond.code yX5_worth cX5_worth 2 (some .int) ∈ lw_tbl := List.mem_of_getElem? (i := 953) (by decide +kernel)
theorem q_957 : Cond.code yX5_house cX5_house 3 (some .int) ∈ lw_tbl := List.mem_of_getElem? (i := 957) (by decide +kernel)
theorem q_958 : Cond.methodLink RX5 96 yX5_isFloor ∈ lw_tbl := List.mem_of_getElem? (i := 958) (by decide +kernel)
theorem q_959 : Cond.static yX5_isFloor ∈ lw_tbl := List.mem_of_getElem? (i := 959) (by decide +kernel)
theorem q_960 : Cond.code yX5_isFloor cX5_isFloor 1 (some .boolean) ∈ lw_tbl := List.mem_of_getElem? (i := 960) (by decide +kernel)
theorem q_961 : Cond.constantLong RX5 52 (40) ∈ lw_tbl := List.mem_of_getElem? (i := 961) (by decide +kernel)
theorem q_962 : Cond.constant RX5 99 (-1000002) ∈ lw_tbl := List.mem_of_getElem? (i := 962) (by decide +kernel)
theorem q_963 : Cond.methodLink RX5 100 yX5_newHouse ∈ lw_tbl := List.mem_of_getElem? (i := 963) (by decide +kernel)
theorem q_965 : Cond.instanceMethod yX5_newHouse ∈ lw_tbl := List.mem_of_getElem? (i := 965) (by decide +kernel)
theorem q_966 : Cond.code yX5_newHouse cX5_newHouse 5 (some .int) ∈ lw_tbl := List.mem_of_getElem? (i := 966) (by decide +kernel)
theorem q_970 : Cond.code yX5_houseOf cX5_houseOf 3 (some .int) ∈ lw_tbl := List.mem_of_getElem? (i := 970) (by decide +kernel)
theorem q_971 : Cond.methodLink RX5 104 yX5_isHouse ∈ lw_tbl := List.mem_of_getElem? (i := 971) (by decide +kernel)
theorem q_973 : Cond.instanceMethod yX5_isHouse ∈ lw_tbl := List.mem_of_getElem? (i := 973) (by decide +kernel)
theorem q_974 : Cond.code yX5_isHouse cX5_isHouse 2 (some .boolean) ∈ lw_tbl := List.mem_of_getElem? (i := 974) (by decide +kernel)
theorem q_975 : Cond.constantLong RX5 107 (3) ∈ lw_tbl := List.mem_of_getElem? (i := 975) (by decide +kernel)
theorem q_976 : Cond.methodLink RX5 109 yX5_eye ∈ lw_tbl := List.mem_of_getElem? (i := 976) (by decide +kernel)
theorem q_978 : Cond.instanceMethod yX5_eye ∈ lw_tbl := List.mem_of_getElem? (i := 978) (by decide +kernel)
theorem q_979 : Cond.code yX5_eye cX5_eye 2 (some .int) ∈ lw_tbl := List.mem_of_getElem? (i := 979) (by decide +kernel)
theorem q_980 : Cond.methodLink RX5 93 yX5_cellAt ∈ lw_tbl := List.mem_of_getElem? (i := 980) (by decide +kernel)
theorem q_982 : Cond.instanceMethod yX5_cellAt ∈ lw_tbl := List.mem_of_getElem? (i := 982) (by decide +kernel)
theorem q_983 : Cond.code yX5_cellAt cX5_cellAt 2 (some .int) ∈ lw_tbl := List.mem_of_getElem? (i := 983) (by decide +kernel)
theorem q_984 : Cond.methodLink RX5 112 yX5_openOf ∈ lw_tbl := List.mem_of_getElem? (i := 984) (by decide +kernel)
theorem q_986 : Cond.instanceMethod yX5_openOf ∈ lw_tbl := List.mem_of_getElem? (i := 986) (by decide +kernel)
theorem q_987 : Cond.code yX5_openOf cX5_openOf 2 (some .int) ∈ lw_tbl := List.mem_of_getElem? (i := 987) (by decide +kernel)
theorem q_991 : Cond.code yX5_floor cX5_floor 4 (some .int) ∈ lw_tbl := List.mem_of_getElem? (i := 991) (by decide +kernel)
theorem q_995 : Cond.code yX5_windows cX5_windows 4 (some .int) ∈ lw_tbl := List.mem_of_getElem? (i := 995) (by decide +kernel)
theorem q_999 : Cond.code yX5_law cX5_law 4 (some .int) ∈ lw_tbl := List.mem_of_getElem? (i := 999) (by decide +kernel)
theorem q_1003 : Cond.code yX5_dig cX5_dig 6 (some .int) ∈ lw_tbl := List.mem_of_getElem? (i := 1003) (by decide +kernel)
theorem q_1004 : Cond.methodLink RX5 115 yX5_isStretch ∈ lw_tbl := List.mem_of_getElem? (i := 1004) (by decide +kernel)
theorem q_1005 : Cond.static yX5_isStretch ∈ lw_tbl := List.mem_of_getElem? (i := 1005) (by decide +kernel)
theorem q_1006 : Cond.code yX5_isStretch cX5_isStretch 2 (some .boolean) ∈ lw_tbl := List.mem_of_getElem? (i := 1006) (by decide +kernel)
theorem q_1007 : Cond.methodLink RX5 119 yX5_lowers ∈ lw_tbl := List.mem_of_getElem? (i := 1007) (by decide +kernel)
theorem q_1009 : Cond.instanceMethod yX5_lowers ∈ lw_tbl := List.mem_of_getElem? (i := 1009) (by decide +kernel)
theorem q_1010 : Cond.code yX5_lowers cX5_lowers 3 none ∈ lw_tbl := List.mem_of_getElem? (i := 1010) (by decide +kernel)
theorem q_1014 : Cond.code yX5_drain cX5_drain 4 (some .int) ∈ lw_tbl := List.mem_of_getElem? (i := 1014) (by decide +kernel)
theorem q_1015 : Cond.constantLong RX5 122 (20) ∈ lw_tbl := List.mem_of_getElem? (i := 1015) (by decide +kernel)
theorem q_1019 : Cond.code yX5_sight cX5_sight 2 (some .int) ∈ lw_tbl := List.mem_of_getElem? (i := 1019) (by decide +kernel)
theorem q_1020 : Cond.methodLink RX5 141 yX5_sightOf ∈ lw_tbl := List.mem_of_getElem? (i := 1020) (by decide +kernel)
theorem q_1022 : Cond.instanceMethod yX5_sightOf ∈ lw_tbl := List.mem_of_getElem? (i := 1022) (by decide +kernel)
theorem q_1023 : Cond.code yX5_sightOf cX5_sightOf 4 (some .int) ∈ lw_tbl := List.mem_of_getElem? (i := 1023) (by decide +kernel)
theorem q_1024 : Cond.methodLink RX5 134 yX5_isTowards ∈ lw_tbl := List.mem_of_getElem? (i := 1024) (by decide +kernel)
theorem q_1026 : Cond.instanceMethod yX5_isTowards ∈ lw_tbl := List.mem_of_getElem? (i := 1026) (by decide +kernel)
theorem q_1027 : Cond.code yX5_isTowards cX5_isTowards 4 (some .boolean) ∈ lw_tbl := List.mem_of_getElem? (i := 1027) (by decide +kernel)
theorem q_1028 : Cond.methodLink RX5 124 yX5_size ∈ lw_tbl := List.mem_of_getElem? (i := 1028) (by decide +kernel)
theorem q_1029 : Cond.static yX5_size ∈ lw_tbl := List.mem_of_getElem? (i := 1029) (by decide +kernel)
theorem q_1030 : Cond.code yX5_size cX5_size 1 (some .int) ∈ lw_tbl := List.mem_of_getElem? (i := 1030) (by decide +kernel)
theorem q_1031 : Cond.methodLink RX5 127 yX5_has ∈ lw_tbl := List.mem_of_getElem? (i := 1031) (by decide +kernel)
theorem q_1032 : Cond.static yX5_has ∈ lw_tbl := List.mem_of_getElem? (i := 1032) (by decide +kernel)
theorem q_1033 : Cond.code yX5_has cX5_has 2 (some .boolean) ∈ lw_tbl := List.mem_of_getElem? (i := 1033) (by decide +kernel)
theorem q_1034 : Cond.methodLink RX5 137 yX5_hider ∈ lw_tbl := List.mem_of_getElem? (i := 1034) (by decide +kernel)
theorem q_1036 : Cond.instanceMethod yX5_hider ∈ lw_tbl := List.mem_of_getElem? (i := 1036) (by decide +kernel)
theorem q_1037 : Cond.code yX5_hider cX5_hider 5 (some .int) ∈ lw_tbl := List.mem_of_getElem? (i := 1037) (by decide +kernel)
theorem q_1038 : Cond.methodLink RX5 130 yX5_isHiding ∈ lw_tbl := List.mem_of_getElem? (i := 1038) (by decide +kernel)
theorem q_1040 : Cond.instanceMethod yX5_isHiding ∈ lw_tbl := List.mem_of_getElem? (i := 1040) (by decide +kernel)
theorem q_1041 : Cond.code yX5_isHiding cX5_isHiding 7 (some .boolean) ∈ lw_tbl := List.mem_of_getElem? (i := 1041) (by decide +kernel)
theorem q_1045 : Cond.code yX5_sees cX5_sees 3 (some .int) ∈ lw_tbl := List.mem_of_getElem? (i := 1045) (by decide +kernel)
theorem q_1049 : Cond.code yX5_seenBy cX5_seenBy 4 (some .int) ∈ lw_tbl := List.mem_of_getElem? (i := 1049) (by decide +kernel)
theorem q_1053 : Cond.code yX5_neighbours cX5_neighbours 5 (some .int) ∈ lw_tbl := List.mem_of_getElem? (i := 1053) (by decide +kernel)
theorem q_1057 : Cond.code yX5_hidden cX5_hidden 4 (some .int) ∈ lw_tbl := List.mem_of_getElem? (i := 1057) (by decide +kernel)
theorem q_1058 : Cond.constant RX5 144 (-1000005) ∈ lw_tbl := List.mem_of_getElem? (i := 1058) (by decide +kernel)
theorem q_1059 : Cond.constant RX5 145 (-1000004) ∈ lw_tbl := List.mem_of_getElem? (i := 1059) (by decide +kernel)
theorem q_1063 : Cond.code yX5_tax cX5_tax 2 (some .int) ∈ lw_tbl := List.mem_of_getElem? (i := 1063) (by decide +kernel)
theorem q_1064 : Cond.methodLink RX5 146 yX5_taxOf ∈ lw_tbl := List.mem_of_getElem? (i := 1064) (by decide +kernel)
theorem q_1066 : Cond.instanceMethod yX5_taxOf ∈ lw_tbl := List.mem_of_getElem? (i := 1066) (by decide +kernel)
theorem q_1067 : Cond.code yX5_taxOf cX5_taxOf 5 (some .int) ∈ lw_tbl := List.mem_of_getElem? (i := 1067) (by decide +kernel)
theorem q_1071 : Cond.code yX5_all cX5_all 1 (some .int) ∈ lw_tbl := List.mem_of_getElem? (i := 1071) (by decide +kernel)
theorem q_1072 : Cond.methodLink RX5 149 yX5_allTax ∈ lw_tbl := List.mem_of_getElem? (i := 1072) (by decide +kernel)
theorem q_1074 : Cond.instanceMethod yX5_allTax ∈ lw_tbl := List.mem_of_getElem? (i := 1074) (by decide +kernel)
theorem q_1075 : Cond.code yX5_allTax cX5_allTax 3 (some .int) ∈ lw_tbl := List.mem_of_getElem? (i := 1075) (by decide +kernel)
theorem q_1079 : Cond.code yX5_cheapest cX5_cheapest 2 (some .int) ∈ lw_tbl := List.mem_of_getElem? (i := 1079) (by decide +kernel)
theorem q_1080 : Cond.methodLink RX5 153 yX5_leastFloor ∈ lw_tbl := List.mem_of_getElem? (i := 1080) (by decide +kernel)
theorem q_1082 : Cond.instanceMethod yX5_leastFloor ∈ lw_tbl := List.mem_of_getElem? (i := 1082) (by decide +kernel)
theorem q_1083 : Cond.code yX5_leastFloor cX5_leastFloor 7 (some .int) ∈ lw_tbl := List.mem_of_getElem? (i := 1083) (by decide +kernel)
theorem q_1087 : Cond.code yX5_widest cX5_widest 7 (some .int) ∈ lw_tbl := List.mem_of_getElem? (i := 1087) (by decide +kernel)
theorem q_1088 : Cond.methodLink RX5 156 yX5_ones ∈ lw_tbl := List.mem_of_getElem? (i := 1088) (by decide +kernel)
theorem q_1089 : Cond.static yX5_ones ∈ lw_tbl := List.mem_of_getElem? (i := 1089) (by decide +kernel)
theorem q_1090 : Cond.code yX5_ones cX5_ones 3 (some .int) ∈ lw_tbl := List.mem_of_getElem? (i := 1090) (by decide +kernel)
theorem q_1094 : Cond.code yX5_wall cX5_wall 8 (some .int) ∈ lw_tbl := List.mem_of_getElem? (i := 1094) (by decide +kernel)
theorem q_1098 : Cond.code yX5_rateFor cX5_rateFor 5 (some .int) ∈ lw_tbl := List.mem_of_getElem? (i := 1098) (by decide +kernel)
theorem q_1099 : Cond.methodLink RX5 159 yX5_isTax ∈ lw_tbl := List.mem_of_getElem? (i := 1099) (by decide +kernel)
theorem q_1100 : Cond.static yX5_isTax ∈ lw_tbl := List.mem_of_getElem? (i := 1100) (by decide +kernel)
theorem q_1101 : Cond.code yX5_isTax cX5_isTax 1 (some .boolean) ∈ lw_tbl := List.mem_of_getElem? (i := 1101) (by decide +kernel)
theorem q_1102 : Cond.constantLong RX5 56 (99999) ∈ lw_tbl := List.mem_of_getElem? (i := 1102) (by decide +kernel)
theorem q_1106 : Cond.code yX5_shade cX5_shade 8 (some .int) ∈ lw_tbl := List.mem_of_getElem? (i := 1106) (by decide +kernel)
theorem q_1107 : Cond.methodLink RX5 165 yX5_isAhead ∈ lw_tbl := List.mem_of_getElem? (i := 1107) (by decide +kernel)
theorem q_1108 : Cond.static yX5_isAhead ∈ lw_tbl := List.mem_of_getElem? (i := 1108) (by decide +kernel)
theorem q_1109 : Cond.code yX5_isAhead cX5_isAhead 1 (some .boolean) ∈ lw_tbl := List.mem_of_getElem? (i := 1109) (by decide +kernel)
theorem q_1110 : Cond.constantLong RX5 54 (60) ∈ lw_tbl := List.mem_of_getElem? (i := 1110) (by decide +kernel)
theorem q_1111 : Cond.methodLink RX5 168 yX5_isTooFar ∈ lw_tbl := List.mem_of_getElem? (i := 1111) (by decide +kernel)
theorem q_1113 : Cond.instanceMethod yX5_isTooFar ∈ lw_tbl := List.mem_of_getElem? (i := 1113) (by decide +kernel)
theorem q_1114 : Cond.code yX5_isTooFar cX5_isTooFar 2 (some .boolean) ∈ lw_tbl := List.mem_of_getElem? (i := 1114) (by decide +kernel)
theorem q_1115 : Cond.methodLink RX5 171 yX5_puts ∈ lw_tbl := List.mem_of_getElem? (i := 1115) (by decide +kernel)
theorem q_1117 : Cond.instanceMethod yX5_puts ∈ lw_tbl := List.mem_of_getElem? (i := 1117) (by decide +kernel)
theorem q_1118 : Cond.code yX5_puts cX5_puts 2 none ∈ lw_tbl := List.mem_of_getElem? (i := 1118) (by decide +kernel)
theorem q_1119 : Cond.methodLink RX5 174 yX5_yearsGo ∈ lw_tbl := List.mem_of_getElem? (i := 1119) (by decide +kernel)
theorem q_1121 : Cond.instanceMethod yX5_yearsGo ∈ lw_tbl := List.mem_of_getElem? (i := 1121) (by decide +kernel)
theorem q_1122 : Cond.code yX5_yearsGo cX5_yearsGo 3 none ∈ lw_tbl := List.mem_of_getElem? (i := 1122) (by decide +kernel)
theorem q_1123 : Cond.methodLink RX5 162 yX5_year ∈ lw_tbl := List.mem_of_getElem? (i := 1123) (by decide +kernel)
theorem q_1125 : Cond.instanceMethod yX5_year ∈ lw_tbl := List.mem_of_getElem? (i := 1125) (by decide +kernel)
theorem q_1126 : Cond.code yX5_year cX5_year 2 none ∈ lw_tbl := List.mem_of_getElem? (i := 1126) (by decide +kernel)
theorem q_1127 : Cond.methodLink RX5 178 yX5_putsBack ∈ lw_tbl := List.mem_of_getElem? (i := 1127) (by decide +kernel)
theorem q_1129 : Cond.instanceMethod yX5_putsBack ∈ lw_tbl := List.mem_of_getElem? (i := 1129) (by decide +kernel)
theorem q_1130 : Cond.code yX5_putsBack cX5_putsBack 2 none ∈ lw_tbl := List.mem_of_getElem? (i := 1130) (by decide +kernel)
theorem q_1134 : Cond.code yX5_gains cX5_gains 6 (some .int) ∈ lw_tbl := List.mem_of_getElem? (i := 1134) (by decide +kernel)
theorem q_1138 : Cond.code yX5_plant cX5_plant 6 (some .int) ∈ lw_tbl := List.mem_of_getElem? (i := 1138) (by decide +kernel)
theorem q_1142 : Cond.code yX5_two cX5_two 7 (some .int) ∈ lw_tbl := List.mem_of_getElem? (i := 1142) (by decide +kernel)
theorem q_1146 : Cond.code yX5_restless cX5_restless 6 (some .int) ∈ lw_tbl := List.mem_of_getElem? (i := 1146) (by decide +kernel)
theorem q_1150 : Cond.code yX5_walk cX5_walk 6 (some .int) ∈ lw_tbl := List.mem_of_getElem? (i := 1150) (by decide +kernel)
theorem q_1151 : Cond.methodLink RX5 181 yX5_findSights ∈ lw_tbl := List.mem_of_getElem? (i := 1151) (by decide +kernel)
theorem q_1153 : Cond.instanceMethod yX5_findSights ∈ lw_tbl := List.mem_of_getElem? (i := 1153) (by decide +kernel)
theorem q_1154 : Cond.code yX5_findSights cX5_findSights 3 (some .int) ∈ lw_tbl := List.mem_of_getElem? (i := 1154) (by decide +kernel)
theorem q_1158 : Cond.code yX5_blind cX5_blind 1 (some .int) ∈ lw_tbl := List.mem_of_getElem? (i := 1158) (by decide +kernel)
theorem q_1159 : Cond.constant RX5 184 (16777215) ∈ lw_tbl := List.mem_of_getElem? (i := 1159) (by decide +kernel)
theorem q_1163 : Cond.code yX5_heights cX5_heights 4 (some .int) ∈ lw_tbl := List.mem_of_getElem? (i := 1163) (by decide +kernel)
theorem q_1164 : Cond.methodLink RX5 195 yX5_findHeights ∈ lw_tbl := List.mem_of_getElem? (i := 1164) (by decide +kernel)
theorem q_1166 : Cond.instanceMethod yX5_findHeights ∈ lw_tbl := List.mem_of_getElem? (i := 1166) (by decide +kernel)
theorem q_1167 : Cond.code yX5_findHeights cX5_findHeights 6 none ∈ lw_tbl := List.mem_of_getElem? (i := 1167) (by decide +kernel)
theorem q_1171 : Cond.code yX5_height cX5_height 5 (some .int) ∈ lw_tbl := List.mem_of_getElem? (i := 1171) (by decide +kernel)
theorem q_1175 : Cond.code yX5_which cX5_which 6 (some .int) ∈ lw_tbl := List.mem_of_getElem? (i := 1175) (by decide +kernel)
theorem q_1179 : Cond.code yX5_years cX5_years 2 (some .int) ∈ lw_tbl := List.mem_of_getElem? (i := 1179) (by decide +kernel)
theorem q_1183 : Cond.code yX5_ahead cX5_ahead 4 (some .int) ∈ lw_tbl := List.mem_of_getElem? (i := 1183) (by decide +kernel)
theorem q_1187 : Cond.code yX5_lost cX5_lost 5 (some .int) ∈ lw_tbl := List.mem_of_getElem? (i := 1187) (by decide +kernel)
theorem q_1191 : Cond.code yX5_when cX5_when 6 (some .int) ∈ lw_tbl := List.mem_of_getElem? (i := 1191) (by decide +kernel)
theorem q_1195 : Cond.code yX5_quake cX5_quake 4 (some .int) ∈ lw_tbl := List.mem_of_getElem? (i := 1195) (by decide +kernel)
theorem q_1196 : Cond.constantLong RX5 199 (10) ∈ lw_tbl := List.mem_of_getElem? (i := 1196) (by decide +kernel)
theorem q_1197 : Cond.methodLink RX5 201 yX5_next ∈ lw_tbl := List.mem_of_getElem? (i := 1197) (by decide +kernel)
theorem q_1199 : Cond.instanceMethod yX5_next ∈ lw_tbl := List.mem_of_getElem? (i := 1199) (by decide +kernel)
theorem q_1200 : Cond.code yX5_next cX5_next 1 (some .int) ∈ lw_tbl := List.mem_of_getElem? (i := 1200) (by decide +kernel)
theorem q_1201 : Cond.constant RX5 62 (1103515245) ∈ lw_tbl := List.mem_of_getElem? (i := 1201) (by decide +kernel)
theorem q_1205 : Cond.code yX5_seed cX5_seed 3 (some .int) ∈ lw_tbl := List.mem_of_getElem? (i := 1205) (by decide +kernel)
theorem q_1209 : Cond.code yX5_feed cX5_feed 4 (some .int) ∈ lw_tbl := List.mem_of_getElem? (i := 1209) (by decide +kernel)
theorem q_1213 : Cond.code yX5_wipe cX5_wipe 2 (some .int) ∈ lw_tbl := List.mem_of_getElem? (i := 1213) (by decide +kernel)
theorem q_1217 : Cond.code yX5_text cX5_text 2 (some .int) ∈ lw_tbl := List.mem_of_getElem? (i := 1217) (by decide +kernel)
theorem q_1218 : Cond.methodLink RX5 234 yX5_token ∈ lw_tbl := List.mem_of_getElem? (i := 1218) (by decide +kernel)
theorem q_1220 : Cond.instanceMethod yX5_token ∈ lw_tbl := List.mem_of_getElem? (i := 1220) (by decide +kernel)
theorem q_1221 : Cond.code yX5_token cX5_token 3 none ∈ lw_tbl := List.mem_of_getElem? (i := 1221) (by decide +kernel)
theorem q_1222 : Cond.methodLink RX5 221 yX5_byteAt ∈ lw_tbl := List.mem_of_getElem? (i := 1222) (by decide +kernel)
theorem q_1224 : Cond.instanceMethod yX5_byteAt ∈ lw_tbl := List.mem_of_getElem? (i := 1224) (by decide +kernel)
theorem q_1225 : Cond.code yX5_byteAt cX5_byteAt 2 (some .int) ∈ lw_tbl := List.mem_of_getElem? (i := 1225) (by decide +kernel)
theorem q_1226 : Cond.methodLink RX5 224 yX5_isLetter ∈ lw_tbl := List.mem_of_getElem? (i := 1226) (by decide +kernel)
theorem q_1227 : Cond.static yX5_isLetter ∈ lw_tbl := List.mem_of_getElem? (i := 1227) (by decide +kernel)
theorem q_1228 : Cond.code yX5_isLetter cX5_isLetter 1 (some .boolean) ∈ lw_tbl := List.mem_of_getElem? (i := 1228) (by decide +kernel)
theorem q_1229 : Cond.constantLong RX5 207 (97) ∈ lw_tbl := List.mem_of_getElem? (i := 1229) (by decide +kernel)
theorem q_1230 : Cond.constantLong RX5 209 (122) ∈ lw_tbl := List.mem_of_getElem? (i := 1230) (by decide +kernel)
theorem q_1231 : Cond.methodLink RX5 227 yX5_isDigit ∈ lw_tbl := List.mem_of_getElem? (i := 1231) (by decide +kernel)
theorem q_1232 : Cond.static yX5_isDigit ∈ lw_tbl := List.mem_of_getElem? (i := 1232) (by decide +kernel)
theorem q_1233 : Cond.code yX5_isDigit cX5_isDigit 1 (some .boolean) ∈ lw_tbl := List.mem_of_getElem? (i := 1233) (by decide +kernel)
theorem q_1234 : Cond.constantLong RX5 211 (48) ∈ lw_tbl := List.mem_of_getElem? (i := 1234) (by decide +kernel)
theorem q_1235 : Cond.constantLong RX5 213 (57) ∈ lw_tbl := List.mem_of_getElem? (i := 1235) (by decide +kernel)
theorem q_1236 : Cond.methodLink RX5 301 yX5_item ∈ lw_tbl := List.mem_of_getElem? (i := 1236) (by decide +kernel)
theorem q_1238 : Cond.instanceMethod yX5_item ∈ lw_tbl := List.mem_of_getElem? (i := 1238) (by decide +kernel)
theorem q_1239 : Cond.code yX5_item cX5_item 2 none ∈ lw_tbl := List.mem_of_getElem? (i := 1239) (by decide +kernel)
theorem q_1240 : Cond.methodLink RX5 286 yX5_kindHere ∈ lw_tbl := List.mem_of_getElem? (i := 1240) (by decide +kernel)
theorem q_1242 : Cond.instanceMethod yX5_kindHere ∈ lw_tbl := List.mem_of_getElem? (i := 1242) (by decide +kernel)
theorem q_1243 : Cond.code yX5_kindHere cX5_kindHere 3 (some .int) ∈ lw_tbl := List.mem_of_getElem? (i := 1243) (by decide +kernel)
theorem q_1244 : Cond.methodLink RX5 248 yX5_word ∈ lw_tbl := List.mem_of_getElem? (i := 1244) (by decide +kernel)
theorem q_1246 : Cond.instanceMethod yX5_word ∈ lw_tbl := List.mem_of_getElem? (i := 1246) (by decide +kernel)
theorem q_1247 : Cond.code yX5_word cX5_word 4 (some .long) ∈ lw_tbl := List.mem_of_getElem? (i := 1247) (by decide +kernel)
theorem q_1248 : Cond.constantLong RX5 237 (36028797018963967) ∈ lw_tbl := List.mem_of_getElem? (i := 1248) (by decide +kernel)
theorem q_1249 : Cond.constantLong RX5 239 (32) ∈ lw_tbl := List.mem_of_getElem? (i := 1249) (by decide +kernel)
theorem q_1250 : Cond.constantLong RX5 252 (394692) ∈ lw_tbl := List.mem_of_getElem? (i := 1250) (by decide +kernel)
theorem q_1251 : Cond.constantLong RX5 254 (24170674) ∈ lw_tbl := List.mem_of_getElem? (i := 1251) (by decide +kernel)
theorem q_1252 : Cond.constantLong RX5 256 (6591876) ∈ lw_tbl := List.mem_of_getElem? (i := 1252) (by decide +kernel)
theorem q_1253 : Cond.constantLong RX5 258 (19617) ∈ lw_tbl := List.mem_of_getElem? (i := 1253) (by decide +kernel)
theorem q_1254 : Cond.constantLong RX5 260 (605670) ∈ lw_tbl := List.mem_of_getElem? (i := 1254) (by decide +kernel)
theorem q_1255 : Cond.constantLong RX5 262 (769508) ∈ lw_tbl := List.mem_of_getElem? (i := 1255) (by decide +kernel)
theorem q_1256 : Cond.constantLong RX5 264 (5517) ∈ lw_tbl := List.mem_of_getElem? (i := 1256) (by decide +kernel)
theorem q_1257 : Cond.methodLink RX5 289 yX5_cellItem ∈ lw_tbl := List.mem_of_getElem? (i := 1257) (by decide +kernel)
theorem q_1259 : Cond.instanceMethod yX5_cellItem ∈ lw_tbl := List.mem_of_getElem? (i := 1259) (by decide +kernel)
theorem q_1260 : Cond.code yX5_cellItem cX5_cellItem 7 none ∈ lw_tbl := List.mem_of_getElem? (i := 1260) (by decide +kernel)
theorem q_1261 : Cond.methodLink RX5 244 yX5_needs ∈ lw_tbl := List.mem_of_getElem? (i := 1261) (by decide +kernel)
theorem q_1263 : Cond.instanceMethod yX5_needs ∈ lw_tbl := List.mem_of_getElem? (i := 1263) (by decide +kernel)
theorem q_1264 : Cond.code yX5_needs cX5_needs 2 none ∈ lw_tbl := List.mem_of_getElem? (i := 1264) (by decide +kernel)
theorem q_1265 : Cond.methodLink RX5 266 yX5_number ∈ lw_tbl := List.mem_of_getElem? (i := 1265) (by decide +kernel)
theorem q_1267 : Cond.instanceMethod yX5_number ∈ lw_tbl := List.mem_of_getElem? (i := 1267) (by decide +kernel)
theorem q_1268 : Cond.code yX5_number cX5_number 6 none ∈ lw_tbl := List.mem_of_getElem? (i := 1268) (by decide +kernel)
theorem q_1269 : Cond.constantLong RX5 268 (655) ∈ lw_tbl := List.mem_of_getElem? (i := 1269) (by decide +kernel)
theorem q_1270 : Cond.methodLink RX5 270 yX5_perhaps ∈ lw_tbl := List.mem_of_getElem? (i := 1270) (by decide +kernel)
theorem q_1272 : Cond.instanceMethod yX5_perhaps ∈ lw_tbl := List.mem_of_getElem? (i := 1272) (by decide +kernel)
theorem q_1273 : Cond.code yX5_perhaps cX5_perhaps 5 (some .int) ∈ lw_tbl := List.mem_of_getElem? (i := 1273) (by decide +kernel)
theorem q_1274 : Cond.constantLong RX5 274 (271592) ∈ lw_tbl := List.mem_of_getElem? (i := 1274) (by decide +kernel)
theorem q_1275 : Cond.constantLong RX5 276 (1253) ∈ lw_tbl := List.mem_of_getElem? (i := 1275) (by decide +kernel)
theorem q_1276 : Cond.constantLong RX5 292 (8902245) ∈ lw_tbl := List.mem_of_getElem? (i := 1276) (by decide +kernel)
theorem q_1277 : Cond.methodLink RX5 294 yX5_houseItem ∈ lw_tbl := List.mem_of_getElem? (i := 1277) (by decide +kernel)
theorem q_1279 : Cond.instanceMethod yX5_houseItem ∈ lw_tbl := List.mem_of_getElem? (i := 1279) (by decide +kernel)
theorem q_1280 : Cond.code yX5_houseItem cX5_houseItem 5 none ∈ lw_tbl := List.mem_of_getElem? (i := 1280) (by decide +kernel)
theorem q_1281 : Cond.constantLong RX5 278 (6700530) ∈ lw_tbl := List.mem_of_getElem? (i := 1281) (by decide +kernel)
theorem q_1282 : Cond.constantLong RX5 280 (2500036) ∈ lw_tbl := List.mem_of_getElem? (i := 1282) (by decide +kernel)
theorem q_1283 : Cond.constantLong RX5 282 (759412) ∈ lw_tbl := List.mem_of_getElem? (i := 1283) (by decide +kernel)
theorem q_1284 : Cond.constantLong RX5 284 (165492) ∈ lw_tbl := List.mem_of_getElem? (i := 1284) (by decide +kernel)
theorem q_1285 : Cond.constantLong RX5 297 (264005) ∈ lw_tbl := List.mem_of_getElem? (i := 1285) (by decide +kernel)
theorem q_1286 : Cond.constantLong RX5 299 (591493) ∈ lw_tbl := List.mem_of_getElem? (i := 1286) (by decide +kernel)
theorem q_1290 : Cond.code yX5_hold cX5_hold 3 (some .int) ∈ lw_tbl := List.mem_of_getElem? (i := 1290) (by decide +kernel)
theorem q_1291 : Cond.constantLong RX5 304 (9) ∈ lw_tbl := List.mem_of_getElem? (i := 1291) (by decide +kernel)
theorem q_1292 : Cond.constantLong RX5 306 (-1) ∈ lw_tbl := List.mem_of_getElem? (i := 1292) (by decide +kernel)
theorem q_1296 : Cond.code yX5_as cX5_as 6 (some .int) ∈ lw_tbl := List.mem_of_getElem? (i := 1296) (by decide +kernel)
theorem q_1297 : Cond.constant RX5 308 (-1000006) ∈ lw_tbl := List.mem_of_getElem? (i := 1297) (by decide +kernel)
theorem q_1298 : Cond.constant RX5 309 (-1000003) ∈ lw_tbl := List.mem_of_getElem? (i := 1298) (by decide +kernel)
theorem q_1302 : Cond.code yX5_sheet cX5_sheet 5 (some .int) ∈ lw_tbl := List.mem_of_getElem? (i := 1302) (by decide +kernel)
theorem q_1303 : Cond.methodLink RX5 310 yX5_isOne ∈ lw_tbl := List.mem_of_getElem? (i := 1303) (by decide +kernel)
theorem q_1304 : Cond.static yX5_isOne ∈ lw_tbl := List.mem_of_getElem? (i := 1304) (by decide +kernel)
theorem q_1305 : Cond.code yX5_isOne cX5_isOne 1 (some .boolean) ∈ lw_tbl := List.mem_of_getElem? (i := 1305) (by decide +kernel)
theorem q_1306 : Cond.constant RX5 313 (-1000007) ∈ lw_tbl := List.mem_of_getElem? (i := 1306) (by decide +kernel)
theorem q_1310 : Cond.code yX5_write cX5_write 5 (some .int) ∈ lw_tbl := List.mem_of_getElem? (i := 1310) (by decide +kernel)
theorem q_1311 : Cond.methodLink RX5 314 yX5_wrong ∈ lw_tbl := List.mem_of_getElem? (i := 1311) (by decide +kernel)
theorem q_1313 : Cond.instanceMethod yX5_wrong ∈ lw_tbl := List.mem_of_getElem? (i := 1313) (by decide +kernel)
theorem q_1314 : Cond.code yX5_wrong cX5_wrong 2 (some .int) ∈ lw_tbl := List.mem_of_getElem? (i := 1314) (by decide +kernel)
theorem q_1315 : Cond.methodLink RX5 317 yX5_narrowed ∈ lw_tbl := List.mem_of_getElem? (i := 1315) (by decide +kernel)
theorem q_1316 : Cond.static yX5_narrowed ∈ lw_tbl := List.mem_of_getElem? (i := 1316) (by decide +kernel)
theorem q_1317 : Cond.code yX5_narrowed cX5_narrowed 2 (some .int) ∈ lw_tbl := List.mem_of_getElem? (i := 1317) (by decide +kernel)
theorem q_1321 : Cond.code yX5_copy cX5_copy 7 (some .int) ∈ lw_tbl := List.mem_of_getElem? (i := 1321) (by decide +kernel)
theorem q_1325 : Cond.code yX5_load cX5_load 5 (some .int) ∈ lw_tbl := List.mem_of_getElem? (i := 1325) (by decide +kernel)
theorem q_1329 : Cond.code yX5_judge cX5_judge 5 (some .int) ∈ lw_tbl := List.mem_of_getElem? (i := 1329) (by decide +kernel)
theorem q_1333 : Cond.code yX5_image cX5_image 2 (some .int) ∈ lw_tbl := List.mem_of_getElem? (i := 1333) (by decide +kernel)
theorem q_1337 : Cond.code yX5_undo cX5_undo 2 (some .int) ∈ lw_tbl := List.mem_of_getElem? (i := 1337) (by decide +kernel)
theorem q_1341 : Cond.code yX5_tear cX5_tear 2 (some .int) ∈ lw_tbl := List.mem_of_getElem? (i := 1341) (by decide +kernel)
theorem q_1345 : Cond.code yX5_count cX5_count 4 (some .int) ∈ lw_tbl := List.mem_of_getElem? (i := 1345) (by decide +kernel)
theorem q_1349 : Cond.code yX5_status cX5_status 4 (some .int) ∈ lw_tbl := List.mem_of_getElem? (i := 1349) (by decide +kernel)
theorem yy_X0_takeAll : sl_Y yX0_takeAll cX0_takeAll 2 1 none := ⟨q_460, q_95, ⟨by decide +kernel, by decide +kernel⟩, by decide +kernel⟩
theorem yy_X0_takeCell : sl_Y yX0_takeCell cX0_takeCell 3 2 none := ⟨q_527, q_95, ⟨by decide +kernel, by decide +kernel⟩, by decide +kernel⟩
theorem yy_X0_topFor : sl_Y yX0_topFor cX0_topFor 3 3 (some .int) := ⟨q_287, q_95, ⟨by decide +kernel, by decide +kernel⟩, by decide +kernel⟩
theorem yy_X0_renewTop : sl_Y yX0_renewTop cX0_renewTop 2 1 none := ⟨q_284, q_95, ⟨by decide +kernel, by decide +kernel⟩, by decide +kernel⟩
theorem yy_X0_place : sl_Y yX0_place cX0_place 3 2 none := ⟨q_305, q_95, ⟨by decide +kernel, by decide +kernel⟩, by decide +kernel⟩
theorem yy_X0_turnInto : sl_Y yX0_turnInto cX0_turnInto 3 2 none := ⟨q_374, q_95, ⟨by decide +kernel, by decide +kernel⟩, by decide +kernel⟩
theorem yy_X0_raiseTo : sl_Y yX0_raiseTo cX0_raiseTo 3 2 none := ⟨q_280, q_95, ⟨by decide +kernel, by decide +kernel⟩, by decide +kernel⟩
theorem yy_X0_lower : sl_Y yX0_lower cX0_lower 3 2 none := ⟨q_362, q_95, ⟨by decide +kernel, by decide +kernel⟩, by decide +kernel⟩
theorem yy_X0_ageTo : sl_Y yX0_ageTo cX0_ageTo 3 2 none := ⟨q_294, q_95, ⟨by decide +kernel, by decide +kernel⟩, by decide +kernel⟩
theorem yy_X0_grow : sl_Y yX0_grow cX0_grow 3 1 none := ⟨q_506, q_95, ⟨by decide +kernel, by decide +kernel⟩, by decide +kernel⟩
theorem yy_X0_worthOf : sl_Y yX0_worthOf cX0_worthOf 2 1 (some .int) := ⟨q_313, q_95, ⟨by decide +kernel, by decide +kernel⟩, by decide +kernel⟩
theorem yy_X0_isOfKind : sl_Y yX0_isOfKind cX0_isOfKind 4 2 (some .boolean) := ⟨q_755, q_95, ⟨by decide +kernel, by decide +kernel⟩, by decide +kernel⟩
theorem yy_X0_isIn : sl_Y yX0_isIn cX0_isIn 2 2 (some .boolean) := ⟨q_399, q_95, ⟨by decide +kernel, by decide +kernel⟩, by decide +kernel⟩
theorem yy_X0_isBuiltUp : sl_Y yX0_isBuiltUp cX0_isBuiltUp 1 0 (some .boolean) := ⟨q_326, q_95, ⟨by decide +kernel, by decide +kernel⟩, by decide +kernel⟩
theorem yy_X0_build : sl_Y yX0_build cX0_build 4 3 none := ⟨q_330, q_95, ⟨by decide +kernel, by decide +kernel⟩, by decide +kernel⟩
theorem yy_X0_eyeOf : sl_Y yX0_eyeOf cX0_eyeOf 2 1 (some .int) := ⟨q_342, q_95, ⟨by decide +kernel, by decide +kernel⟩, by decide +kernel⟩
theorem yy_X0_lookOut : sl_Y yX0_lookOut cX0_lookOut 12 2 (some .int) := ⟨q_386, q_95, ⟨by decide +kernel, by decide +kernel⟩, by decide +kernel⟩
theorem yy_X0_sightOf : sl_Y yX0_sightOf cX0_sightOf 3 1 (some .int) := ⟨q_382, q_95, ⟨by decide +kernel, by decide +kernel⟩, by decide +kernel⟩
theorem yy_X0_hasInSight : sl_Y yX0_hasInSight cX0_hasInSight 3 2 (some .boolean) := ⟨q_395, q_95, ⟨by decide +kernel, by decide +kernel⟩, by decide +kernel⟩
theorem yy_X0_looksTowards : sl_Y yX0_looksTowards cX0_looksTowards 5 2 (some .boolean) := ⟨q_416, q_95, ⟨by decide +kernel, by decide +kernel⟩, by decide +kernel⟩
theorem yy_X0_hiderOf : sl_Y yX0_hiderOf cX0_hiderOf 10 2 (some .int) := ⟨q_423, q_95, ⟨by decide +kernel, by decide +kernel⟩, by decide +kernel⟩
theorem yy_X0_allSight : sl_Y yX0_allSight cX0_allSight 3 0 (some .int) := ⟨q_548, q_95, ⟨by decide +kernel, by decide +kernel⟩, by decide +kernel⟩
theorem yy_X0_worthSeenBy : sl_Y yX0_worthSeenBy cX0_worthSeenBy 5 1 (some .int) := ⟨q_435, q_95, ⟨by decide +kernel, by decide +kernel⟩, by decide +kernel⟩
theorem yy_X0_taxFor : sl_Y yX0_taxFor cX0_taxFor 2 2 (some .int) := ⟨q_439, q_95, ⟨by decide +kernel, by decide +kernel⟩, by decide +kernel⟩
theorem yy_X0_taxOf : sl_Y yX0_taxOf cX0_taxOf 2 1 (some .int) := ⟨q_431, q_95, ⟨by decide +kernel, by decide +kernel⟩, by decide +kernel⟩
theorem yy_X0_allTax : sl_Y yX0_allTax cX0_allTax 3 0 (some .int) := ⟨q_447, q_95, ⟨by decide +kernel, by decide +kernel⟩, by decide +kernel⟩
theorem yy_X0_draw : sl_Y yX0_draw cX0_draw 1 0 (some .int) := ⟨q_584, q_95, ⟨by decide +kernel, by decide +kernel⟩, by decide +kernel⟩
theorem yy_X0_spotsInUse : sl_Y yX0_spotsInUse cX0_spotsInUse 3 0 (some .int) := ⟨q_828, q_95, ⟨by decide +kernel, by decide +kernel⟩, by decide +kernel⟩
theorem yy_X1_isSheet : sl_Y yX1_isSheet cX1_isSheet 1 1 (some .boolean) := ⟨q_764, q_98, ⟨by decide +kernel, by decide +kernel⟩, by decide +kernel⟩
theorem yy_X1_isMissing : sl_Y yX1_isMissing cX1_isMissing 2 1 (some .boolean) := ⟨q_776, q_98, ⟨by decide +kernel, by decide +kernel⟩, by decide +kernel⟩
theorem yy_X1_make : sl_Y yX1_make cX1_make 5 3 none := ⟨q_768, q_98, ⟨by decide +kernel, by decide +kernel⟩, by decide +kernel⟩
theorem yy_X1_hasRun : sl_Y yX1_hasRun cX1_hasRun 4 3 (some .boolean) := ⟨q_780, q_98, ⟨by decide +kernel, by decide +kernel⟩, by decide +kernel⟩
theorem yy_X1_numberAt : sl_Y yX1_numberAt cX1_numberAt 3 2 (some .int) := ⟨q_804, q_98, ⟨by decide +kernel, by decide +kernel⟩, by decide +kernel⟩
theorem yy_X1_cutTo : sl_Y yX1_cutTo cX1_cutTo 2 2 (some .int) := ⟨q_787, q_98, ⟨by decide +kernel, by decide +kernel⟩, by decide +kernel⟩
theorem yy_X1_put : sl_Y yX1_put cX1_put 4 3 none := ⟨q_784, q_98, ⟨by decide +kernel, by decide +kernel⟩, by decide +kernel⟩
theorem yy_X1_move : sl_Y yX1_move cX1_move 6 5 none := ⟨q_795, q_98, ⟨by decide +kernel, by decide +kernel⟩, by decide +kernel⟩
theorem yy_X2_hasRoomFor : sl_Y yX2_hasRoomFor cX2_hasRoomFor 2 1 (some .boolean) := ⟨q_597, q_96, ⟨by decide +kernel, by decide +kernel⟩, by decide +kernel⟩
theorem yy_X2_append : sl_Y yX2_append cX2_append 2 1 none := ⟨q_601, q_96, ⟨by decide +kernel, by decide +kernel⟩, by decide +kernel⟩
theorem yy_X2_sortAt : sl_Y yX2_sortAt cX2_sortAt 3 1 (some .int) := ⟨q_625, q_96, ⟨by decide +kernel, by decide +kernel⟩, by decide +kernel⟩
theorem yy_X2_takeDigit : sl_Y yX2_takeDigit cX2_takeDigit 2 1 none := ⟨q_629, q_96, ⟨by decide +kernel, by decide +kernel⟩, by decide +kernel⟩
theorem yy_X2_step : sl_Y yX2_step cX2_step 1 0 none := ⟨q_621, q_96, ⟨by decide +kernel, by decide +kernel⟩, by decide +kernel⟩
theorem yy_X2_rewind : sl_Y yX2_rewind cX2_rewind 1 0 none := ⟨q_617, q_96, ⟨by decide +kernel, by decide +kernel⟩, by decide +kernel⟩
theorem yy_X2_isWord : sl_Y yX2_isWord cX2_isWord 3 1 (some .boolean) := ⟨q_638, q_96, ⟨by decide +kernel, by decide +kernel⟩, by decide +kernel⟩
theorem yy_X3_readNumber : sl_Y yX3_readNumber cX3_readNumber 4 2 (some .int) := ⟨q_696, q_97, ⟨by decide +kernel, by decide +kernel⟩, by decide +kernel⟩
theorem yy_X3_passes : sl_Y yX3_passes cX3_passes 2 1 (some .boolean) := ⟨q_701, q_97, ⟨by decide +kernel, by decide +kernel⟩, by decide +kernel⟩
theorem yy_X3_readHouse : sl_Y yX3_readHouse cX3_readHouse 5 1 (some .boolean) := ⟨q_691, q_97, ⟨by decide +kernel, by decide +kernel⟩, by decide +kernel⟩
theorem yy_X3_readHaze : sl_Y yX3_readHaze cX3_readHaze 3 1 (some .boolean) := ⟨q_710, q_97, ⟨by decide +kernel, by decide +kernel⟩, by decide +kernel⟩
theorem yy_X3_readRate : sl_Y yX3_readRate cX3_readRate 3 1 (some .boolean) := ⟨q_715, q_97, ⟨by decide +kernel, by decide +kernel⟩, by decide +kernel⟩
theorem yy_X3_readKind : sl_Y yX3_readKind cX3_readKind 1 0 (some .int) := ⟨q_719, q_97, ⟨by decide +kernel, by decide +kernel⟩, by decide +kernel⟩
theorem yy_X3_readThing : sl_Y yX3_readThing cX3_readThing 8 2 (some .boolean) := ⟨q_730, q_97, ⟨by decide +kernel, by decide +kernel⟩, by decide +kernel⟩
theorem yy_X3_readItem : sl_Y yX3_readItem cX3_readItem 3 1 (some .boolean) := ⟨q_633, q_97, ⟨by decide +kernel, by decide +kernel⟩, by decide +kernel⟩
theorem yy_X3_faultHere : sl_Y yX3_faultHere cX3_faultHere 1 0 (some .int) := ⟨q_740, q_97, ⟨by decide +kernel, by decide +kernel⟩, by decide +kernel⟩
theorem yy_X3_readInto : sl_Y yX3_readInto cX3_readInto 3 1 (some .int) := ⟨q_613, q_97, ⟨by decide +kernel, by decide +kernel⟩, by decide +kernel⟩
theorem yy_X4_isWithin : sl_Y yX4_isWithin cX4_isWithin 3 3 (some .boolean) := ⟨q_271, q_94, ⟨by decide +kernel, by decide +kernel⟩, by decide +kernel⟩
theorem yy_X4_isCell : sl_Y yX4_isCell cX4_isCell 1 1 (some .boolean) := ⟨q_268, q_94, ⟨by decide +kernel, by decide +kernel⟩, by decide +kernel⟩
theorem yy_X4_tell : sl_Y yX4_tell cX4_tell 2 1 (some .int) := ⟨q_275, q_94, ⟨by decide +kernel, by decide +kernel⟩, by decide +kernel⟩
theorem yy_X4_cell : sl_Y yX4_cell cX4_cell 5 3 (some .int) := ⟨q_265, q_94, ⟨by decide +kernel, by decide +kernel⟩, by decide +kernel⟩
theorem yy_X4_isKind : sl_Y yX4_isKind cX4_isKind 1 1 (some .boolean) := ⟨q_301, q_94, ⟨by decide +kernel, by decide +kernel⟩, by decide +kernel⟩
theorem yy_X4_set : sl_Y yX4_set cX4_set 4 2 (some .int) := ⟨q_298, q_94, ⟨by decide +kernel, by decide +kernel⟩, by decide +kernel⟩
theorem yy_X4_cellOf : sl_Y yX4_cellOf cX4_cellOf 3 2 (some .int) := ⟨q_309, q_94, ⟨by decide +kernel, by decide +kernel⟩, by decide +kernel⟩
theorem yy_X4_isFloor : sl_Y yX4_isFloor cX4_isFloor 1 1 (some .boolean) := ⟨q_322, q_94, ⟨by decide +kernel, by decide +kernel⟩, by decide +kernel⟩
theorem yy_X4_house : sl_Y yX4_house cX4_house 3 2 (some .int) := ⟨q_319, q_94, ⟨by decide +kernel, by decide +kernel⟩, by decide +kernel⟩
theorem yy_X4_isHouse : sl_Y yX4_isHouse cX4_isHouse 2 1 (some .boolean) := ⟨q_338, q_94, ⟨by decide +kernel, by decide +kernel⟩, by decide +kernel⟩
theorem yy_X4_houseOf : sl_Y yX4_houseOf cX4_houseOf 3 2 (some .int) := ⟨q_334, q_94, ⟨by decide +kernel, by decide +kernel⟩, by decide +kernel⟩
theorem yy_X4_floor : sl_Y yX4_floor cX4_floor 4 2 (some .int) := ⟨q_346, q_94, ⟨by decide +kernel, by decide +kernel⟩, by decide +kernel⟩
theorem yy_X4_windows : sl_Y yX4_windows cX4_windows 4 2 (some .int) := ⟨q_350, q_94, ⟨by decide +kernel, by decide +kernel⟩, by decide +kernel⟩
theorem yy_X4_law : sl_Y yX4_law cX4_law 4 2 (some .int) := ⟨q_354, q_94, ⟨by decide +kernel, by decide +kernel⟩, by decide +kernel⟩
theorem yy_X4_dig : sl_Y yX4_dig cX4_dig 6 3 (some .int) := ⟨q_358, q_94, ⟨by decide +kernel, by decide +kernel⟩, by decide +kernel⟩
theorem yy_X4_drain : sl_Y yX4_drain cX4_drain 4 1 (some .int) := ⟨q_370, q_94, ⟨by decide +kernel, by decide +kernel⟩, by decide +kernel⟩
theorem yy_X4_sight : sl_Y yX4_sight cX4_sight 2 1 (some .int) := ⟨q_378, q_94, ⟨by decide +kernel, by decide +kernel⟩, by decide +kernel⟩
theorem yy_X4_sees : sl_Y yX4_sees cX4_sees 3 2 (some .int) := ⟨q_391, q_94, ⟨by decide +kernel, by decide +kernel⟩, by decide +kernel⟩
theorem yy_X4_seenBy : sl_Y yX4_seenBy cX4_seenBy 4 1 (some .int) := ⟨q_403, q_94, ⟨by decide +kernel, by decide +kernel⟩, by decide +kernel⟩
theorem yy_X4_neighbours : sl_Y yX4_neighbours cX4_neighbours 5 1 (some .int) := ⟨q_407, q_94, ⟨by decide +kernel, by decide +kernel⟩, by decide +kernel⟩
theorem yy_X4_hidden : sl_Y yX4_hidden cX4_hidden 4 2 (some .int) := ⟨q_412, q_94, ⟨by decide +kernel, by decide +kernel⟩, by decide +kernel⟩
theorem yy_X4_tax : sl_Y yX4_tax cX4_tax 2 1 (some .int) := ⟨q_427, q_94, ⟨by decide +kernel, by decide +kernel⟩, by decide +kernel⟩
theorem yy_X4_all : sl_Y yX4_all cX4_all 1 0 (some .int) := ⟨q_443, q_94, ⟨by decide +kernel, by decide +kernel⟩, by decide +kernel⟩
theorem yy_X4_thriftyFloor : sl_Y yX4_thriftyFloor cX4_thriftyFloor 6 1 (some .int) := ⟨q_456, q_94, ⟨by decide +kernel, by decide +kernel⟩, by decide +kernel⟩
theorem yy_X4_cheapest : sl_Y yX4_cheapest cX4_cheapest 2 1 (some .int) := ⟨q_452, q_94, ⟨by decide +kernel, by decide +kernel⟩, by decide +kernel⟩
theorem yy_J6_bitCount_0f7a4 : sl_Y yJ6_bitCount_0f7a4 cJ6_bitCount_0f7a4 1 1 (some .int) := ⟨q_470, q_102, ⟨by decide +kernel, by decide +kernel⟩, by decide +kernel⟩
theorem yy_X4_widest : sl_Y yX4_widest cX4_widest 6 1 (some .int) := ⟨q_467, q_94, ⟨by decide +kernel, by decide +kernel⟩, by decide +kernel⟩
theorem yy_X4_wall : sl_Y yX4_wall cX4_wall 7 2 (some .int) := ⟨q_477, q_94, ⟨by decide +kernel, by decide +kernel⟩, by decide +kernel⟩
theorem yy_X4_isTaxAsked : sl_Y yX4_isTaxAsked cX4_isTaxAsked 1 1 (some .boolean) := ⟨q_484, q_94, ⟨by decide +kernel, by decide +kernel⟩, by decide +kernel⟩
theorem yy_X4_rateFor : sl_Y yX4_rateFor cX4_rateFor 5 1 (some .int) := ⟨q_481, q_94, ⟨by decide +kernel, by decide +kernel⟩, by decide +kernel⟩
theorem yy_X4_isSpan : sl_Y yX4_isSpan cX4_isSpan 1 1 (some .boolean) := ⟨q_494, q_94, ⟨by decide +kernel, by decide +kernel⟩, by decide +kernel⟩
theorem yy_X4_isTooLate : sl_Y yX4_isTooLate cX4_isTooLate 2 1 (some .boolean) := ⟨q_498, q_94, ⟨by decide +kernel, by decide +kernel⟩, by decide +kernel⟩
theorem yy_X4_tryThing : sl_Y yX4_tryThing cX4_tryThing 4 3 none := ⟨q_502, q_94, ⟨by decide +kernel, by decide +kernel⟩, by decide +kernel⟩
theorem yy_X4_shade : sl_Y yX4_shade cX4_shade 8 3 (some .int) := ⟨q_491, q_94, ⟨by decide +kernel, by decide +kernel⟩, by decide +kernel⟩
theorem yy_X4_tryYears : sl_Y yX4_tryYears cX4_tryYears 2 1 none := ⟨q_515, q_94, ⟨by decide +kernel, by decide +kernel⟩, by decide +kernel⟩
theorem yy_X4_gains : sl_Y yX4_gains cX4_gains 6 3 (some .int) := ⟨q_511, q_94, ⟨by decide +kernel, by decide +kernel⟩, by decide +kernel⟩
theorem yy_X4_plant : sl_Y yX4_plant cX4_plant 6 1 (some .int) := ⟨q_519, q_94, ⟨by decide +kernel, by decide +kernel⟩, by decide +kernel⟩
theorem yy_X4_two : sl_Y yX4_two cX4_two 7 1 (some .int) := ⟨q_523, q_94, ⟨by decide +kernel, by decide +kernel⟩, by decide +kernel⟩
theorem yy_X4_restless : sl_Y yX4_restless cX4_restless 4 0 (some .int) := ⟨q_531, q_94, ⟨by decide +kernel, by decide +kernel⟩, by decide +kernel⟩
theorem yy_X4_sightsOf : sl_Y yX4_sightsOf cX4_sightsOf 4 1 (some .int) := ⟨q_539, q_94, ⟨by decide +kernel, by decide +kernel⟩, by decide +kernel⟩
theorem yy_X4_walk : sl_Y yX4_walk cX4_walk 6 0 (some .int) := ⟨q_535, q_94, ⟨by decide +kernel, by decide +kernel⟩, by decide +kernel⟩
theorem yy_X4_blind : sl_Y yX4_blind cX4_blind 1 0 (some .int) := ⟨q_543, q_94, ⟨by decide +kernel, by decide +kernel⟩, by decide +kernel⟩
theorem yy_X4_heights : sl_Y yX4_heights cX4_heights 6 3 (some .int) := ⟨q_552, q_94, ⟨by decide +kernel, by decide +kernel⟩, by decide +kernel⟩
theorem yy_X4_height : sl_Y yX4_height cX4_height 7 4 (some .int) := ⟨q_556, q_94, ⟨by decide +kernel, by decide +kernel⟩, by decide +kernel⟩
theorem yy_X4_which : sl_Y yX4_which cX4_which 4 2 (some .int) := ⟨q_560, q_94, ⟨by decide +kernel, by decide +kernel⟩, by decide +kernel⟩
theorem yy_X4_years : sl_Y yX4_years cX4_years 2 1 (some .int) := ⟨q_564, q_94, ⟨by decide +kernel, by decide +kernel⟩, by decide +kernel⟩
theorem yy_X4_ahead : sl_Y yX4_ahead cX4_ahead 3 2 (some .int) := ⟨q_568, q_94, ⟨by decide +kernel, by decide +kernel⟩, by decide +kernel⟩
theorem yy_X4_lost : sl_Y yX4_lost cX4_lost 4 2 (some .int) := ⟨q_572, q_94, ⟨by decide +kernel, by decide +kernel⟩, by decide +kernel⟩
theorem yy_X4_when : sl_Y yX4_when cX4_when 6 1 (some .int) := ⟨q_576, q_94, ⟨by decide +kernel, by decide +kernel⟩, by decide +kernel⟩
theorem yy_X4_quake : sl_Y yX4_quake cX4_quake 4 1 (some .int) := ⟨q_580, q_94, ⟨by decide +kernel, by decide +kernel⟩, by decide +kernel⟩
theorem yy_X4_seed : sl_Y yX4_seed cX4_seed 3 1 (some .int) := ⟨q_589, q_94, ⟨by decide +kernel, by decide +kernel⟩, by decide +kernel⟩
theorem yy_X4_feed : sl_Y yX4_feed cX4_feed 4 2 (some .int) := ⟨q_593, q_94, ⟨by decide +kernel, by decide +kernel⟩, by decide +kernel⟩
theorem yy_X4_wipe : sl_Y yX4_wipe cX4_wipe 2 0 (some .int) := ⟨q_605, q_94, ⟨by decide +kernel, by decide +kernel⟩, by decide +kernel⟩
theorem yy_X4_text : sl_Y yX4_text cX4_text 2 0 (some .int) := ⟨q_609, q_94, ⟨by decide +kernel, by decide +kernel⟩, by decide +kernel⟩
theorem yy_X4_isSpot : sl_Y yX4_isSpot cX4_isSpot 1 1 (some .boolean) := ⟨q_748, q_94, ⟨by decide +kernel, by decide +kernel⟩, by decide +kernel⟩
theorem yy_X4_hold : sl_Y yX4_hold cX4_hold 3 2 (some .int) := ⟨q_745, q_94, ⟨by decide +kernel, by decide +kernel⟩, by decide +kernel⟩
theorem yy_X4_as : sl_Y yX4_as cX4_as 4 2 (some .int) := ⟨q_752, q_94, ⟨by decide +kernel, by decide +kernel⟩, by decide +kernel⟩
theorem yy_X4_sheet : sl_Y yX4_sheet cX4_sheet 4 3 (some .int) := ⟨q_761, q_94, ⟨by decide +kernel, by decide +kernel⟩, by decide +kernel⟩
theorem yy_X4_write : sl_Y yX4_write cX4_write 4 3 (some .int) := ⟨q_772, q_94, ⟨by decide +kernel, by decide +kernel⟩, by decide +kernel⟩
theorem yy_X4_copy : sl_Y yX4_copy cX4_copy 6 5 (some .int) := ⟨q_791, q_94, ⟨by decide +kernel, by decide +kernel⟩, by decide +kernel⟩
theorem yy_X4_load : sl_Y yX4_load cX4_load 4 2 (some .int) := ⟨q_800, q_94, ⟨by decide +kernel, by decide +kernel⟩, by decide +kernel⟩
theorem yy_X4_judge : sl_Y yX4_judge cX4_judge 5 2 (some .int) := ⟨q_808, q_94, ⟨by decide +kernel, by decide +kernel⟩, by decide +kernel⟩
theorem yy_X4_image : sl_Y yX4_image cX4_image 1 0 (some .int) := ⟨q_812, q_94, ⟨by decide +kernel, by decide +kernel⟩, by decide +kernel⟩
theorem yy_X4_undo : sl_Y yX4_undo cX4_undo 1 0 (some .int) := ⟨q_816, q_94, ⟨by decide +kernel, by decide +kernel⟩, by decide +kernel⟩
theorem yy_X4_tear : sl_Y yX4_tear cX4_tear 2 0 (some .int) := ⟨q_820, q_94, ⟨by decide +kernel, by decide +kernel⟩, by decide +kernel⟩
theorem yy_X4_count : sl_Y yX4_count cX4_count 2 1 (some .int) := ⟨q_824, q_94, ⟨by decide +kernel, by decide +kernel⟩, by decide +kernel⟩
theorem yy_X4_status : sl_Y yX4_status cX4_status 4 1 (some .int) := ⟨q_832, q_94, ⟨by decide +kernel, by decide +kernel⟩, by decide +kernel⟩
theorem yy_X5_in : sl_Y yX5_in cX5_in 6 3 (some .boolean) := ⟨q_910, q_99, ⟨by decide +kernel, by decide +kernel⟩, by decide +kernel⟩
theorem yy_X5_finds : sl_Y yX5_finds cX5_finds 2 1 (some .int) := ⟨q_916, q_99, ⟨by decide +kernel, by decide +kernel⟩, by decide +kernel⟩
theorem yy_X5_isCell : sl_Y yX5_isCell cX5_isCell 1 1 (some .boolean) := ⟨q_906, q_99, ⟨by decide +kernel, by decide +kernel⟩, by decide +kernel⟩
theorem yy_X5_isKind : sl_Y yX5_isKind cX5_isKind 1 1 (some .boolean) := ⟨q_923, q_99, ⟨by decide +kernel, by decide +kernel⟩, by decide +kernel⟩
theorem yy_X5_isFloor : sl_Y yX5_isFloor cX5_isFloor 1 1 (some .boolean) := ⟨q_960, q_99, ⟨by decide +kernel, by decide +kernel⟩, by decide +kernel⟩
theorem yy_X5_isAhead : sl_Y yX5_isAhead cX5_isAhead 1 1 (some .boolean) := ⟨q_1109, q_99, ⟨by decide +kernel, by decide +kernel⟩, by decide +kernel⟩
theorem yy_X5_isTax : sl_Y yX5_isTax cX5_isTax 1 1 (some .boolean) := ⟨q_1101, q_99, ⟨by decide +kernel, by decide +kernel⟩, by decide +kernel⟩
theorem yy_X5_isHouse : sl_Y yX5_isHouse cX5_isHouse 2 1 (some .boolean) := ⟨q_974, q_99, ⟨by decide +kernel, by decide +kernel⟩, by decide +kernel⟩
theorem yy_X5_isStretch : sl_Y yX5_isStretch cX5_isStretch 2 2 (some .boolean) := ⟨q_1006, q_99, ⟨by decide +kernel, by decide +kernel⟩, by decide +kernel⟩
theorem yy_X5_has : sl_Y yX5_has cX5_has 2 2 (some .boolean) := ⟨q_1033, q_99, ⟨by decide +kernel, by decide +kernel⟩, by decide +kernel⟩
theorem yy_X5_ones : sl_Y yX5_ones cX5_ones 3 1 (some .int) := ⟨q_1090, q_99, ⟨by decide +kernel, by decide +kernel⟩, by decide +kernel⟩
theorem yy_X5_size : sl_Y yX5_size cX5_size 1 1 (some .int) := ⟨q_1030, q_99, ⟨by decide +kernel, by decide +kernel⟩, by decide +kernel⟩
theorem yy_X5_next : sl_Y yX5_next cX5_next 1 0 (some .int) := ⟨q_1200, q_99, ⟨by decide +kernel, by decide +kernel⟩, by decide +kernel⟩
theorem yy_X5_puts : sl_Y yX5_puts cX5_puts 2 0 none := ⟨q_1118, q_99, ⟨by decide +kernel, by decide +kernel⟩, by decide +kernel⟩
theorem yy_X5_putsBack : sl_Y yX5_putsBack cX5_putsBack 2 0 none := ⟨q_1130, q_99, ⟨by decide +kernel, by decide +kernel⟩, by decide +kernel⟩
theorem yy_X5_kindOf : sl_Y yX5_kindOf cX5_kindOf 2 1 (some .int) := ⟨q_928, q_99, ⟨by decide +kernel, by decide +kernel⟩, by decide +kernel⟩
theorem yy_X5_heightOf : sl_Y yX5_heightOf cX5_heightOf 2 1 (some .int) := ⟨q_949, q_99, ⟨by decide +kernel, by decide +kernel⟩, by decide +kernel⟩
theorem yy_X5_ageOf : sl_Y yX5_ageOf cX5_ageOf 2 1 (some .int) := ⟨q_945, q_99, ⟨by decide +kernel, by decide +kernel⟩, by decide +kernel⟩
theorem yy_X5_top : sl_Y yX5_top cX5_top 3 1 (some .int) := ⟨q_941, q_99, ⟨by decide +kernel, by decide +kernel⟩, by decide +kernel⟩
theorem yy_X5_worth : sl_Y yX5_worth cX5_worth 2 1 (some .int) := ⟨q_953, q_99, ⟨by decide +kernel, by decide +kernel⟩, by decide +kernel⟩
theorem yy_X5_cell : sl_Y yX5_cell cX5_cell 5 3 (some .int) := ⟨q_903, q_99, ⟨by decide +kernel, by decide +kernel⟩, by decide +kernel⟩
theorem yy_X5_sets : sl_Y yX5_sets cX5_sets 3 2 none := ⟨q_932, q_99, ⟨by decide +kernel, by decide +kernel⟩, by decide +kernel⟩
theorem yy_X5_set : sl_Y yX5_set cX5_set 4 2 (some .int) := ⟨q_920, q_99, ⟨by decide +kernel, by decide +kernel⟩, by decide +kernel⟩
theorem yy_X5_cellOf : sl_Y yX5_cellOf cX5_cellOf 3 2 (some .int) := ⟨q_936, q_99, ⟨by decide +kernel, by decide +kernel⟩, by decide +kernel⟩
theorem yy_X5_cellAt : sl_Y yX5_cellAt cX5_cellAt 2 1 (some .int) := ⟨q_983, q_99, ⟨by decide +kernel, by decide +kernel⟩, by decide +kernel⟩
theorem yy_X5_openOf : sl_Y yX5_openOf cX5_openOf 2 1 (some .int) := ⟨q_987, q_99, ⟨by decide +kernel, by decide +kernel⟩, by decide +kernel⟩
theorem yy_X5_eye : sl_Y yX5_eye cX5_eye 2 1 (some .int) := ⟨q_979, q_99, ⟨by decide +kernel, by decide +kernel⟩, by decide +kernel⟩
theorem yy_X5_newHouse : sl_Y yX5_newHouse cX5_newHouse 5 3 (some .int) := ⟨q_966, q_99, ⟨by decide +kernel, by decide +kernel⟩, by decide +kernel⟩
theorem yy_X5_house : sl_Y yX5_house cX5_house 3 2 (some .int) := ⟨q_957, q_99, ⟨by decide +kernel, by decide +kernel⟩, by decide +kernel⟩
theorem yy_X5_houseOf : sl_Y yX5_houseOf cX5_houseOf 3 2 (some .int) := ⟨q_970, q_99, ⟨by decide +kernel, by decide +kernel⟩, by decide +kernel⟩
theorem yy_X5_floor : sl_Y yX5_floor cX5_floor 4 2 (some .int) := ⟨q_991, q_99, ⟨by decide +kernel, by decide +kernel⟩, by decide +kernel⟩
theorem yy_X5_windows : sl_Y yX5_windows cX5_windows 4 2 (some .int) := ⟨q_995, q_99, ⟨by decide +kernel, by decide +kernel⟩, by decide +kernel⟩
theorem yy_X5_law : sl_Y yX5_law cX5_law 4 2 (some .int) := ⟨q_999, q_99, ⟨by decide +kernel, by decide +kernel⟩, by decide +kernel⟩
theorem yy_X5_lowers : sl_Y yX5_lowers cX5_lowers 3 2 none := ⟨q_1010, q_99, ⟨by decide +kernel, by decide +kernel⟩, by decide +kernel⟩
theorem yy_X5_dig : sl_Y yX5_dig cX5_dig 6 3 (some .int) := ⟨q_1003, q_99, ⟨by decide +kernel, by decide +kernel⟩, by decide +kernel⟩
theorem yy_X5_drain : sl_Y yX5_drain cX5_drain 4 1 (some .int) := ⟨q_1014, q_99, ⟨by decide +kernel, by decide +kernel⟩, by decide +kernel⟩
theorem yy_X5_isHiding : sl_Y yX5_isHiding cX5_isHiding 7 3 (some .boolean) := ⟨q_1041, q_99, ⟨by decide +kernel, by decide +kernel⟩, by decide +kernel⟩
theorem yy_X5_isTowards : sl_Y yX5_isTowards cX5_isTowards 4 2 (some .boolean) := ⟨q_1027, q_99, ⟨by decide +kernel, by decide +kernel⟩, by decide +kernel⟩
theorem yy_X5_hider : sl_Y yX5_hider cX5_hider 5 2 (some .int) := ⟨q_1037, q_99, ⟨by decide +kernel, by decide +kernel⟩, by decide +kernel⟩
theorem yy_X5_sightOf : sl_Y yX5_sightOf cX5_sightOf 4 1 (some .int) := ⟨q_1023, q_99, ⟨by decide +kernel, by decide +kernel⟩, by decide +kernel⟩
theorem yy_X5_sight : sl_Y yX5_sight cX5_sight 2 1 (some .int) := ⟨q_1019, q_99, ⟨by decide +kernel, by decide +kernel⟩, by decide +kernel⟩
theorem yy_X5_sees : sl_Y yX5_sees cX5_sees 3 2 (some .int) := ⟨q_1045, q_99, ⟨by decide +kernel, by decide +kernel⟩, by decide +kernel⟩
theorem yy_X5_seenBy : sl_Y yX5_seenBy cX5_seenBy 4 1 (some .int) := ⟨q_1049, q_99, ⟨by decide +kernel, by decide +kernel⟩, by decide +kernel⟩
theorem yy_X5_neighbours : sl_Y yX5_neighbours cX5_neighbours 5 1 (some .int) := ⟨q_1053, q_99, ⟨by decide +kernel, by decide +kernel⟩, by decide +kernel⟩
theorem yy_X5_hidden : sl_Y yX5_hidden cX5_hidden 4 2 (some .int) := ⟨q_1057, q_99, ⟨by decide +kernel, by decide +kernel⟩, by decide +kernel⟩
theorem yy_X5_taxOf : sl_Y yX5_taxOf cX5_taxOf 5 1 (some .int) := ⟨q_1067, q_99, ⟨by decide +kernel, by decide +kernel⟩, by decide +kernel⟩
theorem yy_X5_allTax : sl_Y yX5_allTax cX5_allTax 3 0 (some .int) := ⟨q_1075, q_99, ⟨by decide +kernel, by decide +kernel⟩, by decide +kernel⟩
theorem yy_X5_tax : sl_Y yX5_tax cX5_tax 2 1 (some .int) := ⟨q_1063, q_99, ⟨by decide +kernel, by decide +kernel⟩, by decide +kernel⟩
theorem yy_X5_all : sl_Y yX5_all cX5_all 1 0 (some .int) := ⟨q_1071, q_99, ⟨by decide +kernel, by decide +kernel⟩, by decide +kernel⟩
theorem yy_X5_leastFloor : sl_Y yX5_leastFloor cX5_leastFloor 7 1 (some .int) := ⟨q_1083, q_99, ⟨by decide +kernel, by decide +kernel⟩, by decide +kernel⟩
theorem yy_X5_cheapest : sl_Y yX5_cheapest cX5_cheapest 2 1 (some .int) := ⟨q_1079, q_99, ⟨by decide +kernel, by decide +kernel⟩, by decide +kernel⟩
theorem yy_X5_widest : sl_Y yX5_widest cX5_widest 7 1 (some .int) := ⟨q_1087, q_99, ⟨by decide +kernel, by decide +kernel⟩, by decide +kernel⟩
theorem yy_X5_wall : sl_Y yX5_wall cX5_wall 8 2 (some .int) := ⟨q_1094, q_99, ⟨by decide +kernel, by decide +kernel⟩, by decide +kernel⟩
theorem yy_X5_rateFor : sl_Y yX5_rateFor cX5_rateFor 5 1 (some .int) := ⟨q_1098, q_99, ⟨by decide +kernel, by decide +kernel⟩, by decide +kernel⟩
theorem yy_X5_year : sl_Y yX5_year cX5_year 2 0 none := ⟨q_1126, q_99, ⟨by decide +kernel, by decide +kernel⟩, by decide +kernel⟩
theorem yy_X5_yearsGo : sl_Y yX5_yearsGo cX5_yearsGo 3 1 none := ⟨q_1122, q_99, ⟨by decide +kernel, by decide +kernel⟩, by decide +kernel⟩
theorem yy_X5_isTooFar : sl_Y yX5_isTooFar cX5_isTooFar 2 1 (some .boolean) := ⟨q_1114, q_99, ⟨by decide +kernel, by decide +kernel⟩, by decide +kernel⟩
theorem yy_X5_shade : sl_Y yX5_shade cX5_shade 8 3 (some .int) := ⟨q_1106, q_99, ⟨by decide +kernel, by decide +kernel⟩, by decide +kernel⟩
theorem yy_X5_gains : sl_Y yX5_gains cX5_gains 6 3 (some .int) := ⟨q_1134, q_99, ⟨by decide +kernel, by decide +kernel⟩, by decide +kernel⟩
theorem yy_X5_plant : sl_Y yX5_plant cX5_plant 6 1 (some .int) := ⟨q_1138, q_99, ⟨by decide +kernel, by decide +kernel⟩, by decide +kernel⟩
theorem yy_X5_two : sl_Y yX5_two cX5_two 7 1 (some .int) := ⟨q_1142, q_99, ⟨by decide +kernel, by decide +kernel⟩, by decide +kernel⟩
theorem yy_X5_restless : sl_Y yX5_restless cX5_restless 6 0 (some .int) := ⟨q_1146, q_99, ⟨by decide +kernel, by decide +kernel⟩, by decide +kernel⟩
theorem yy_X5_findSights : sl_Y yX5_findSights cX5_findSights 3 0 (some .int) := ⟨q_1154, q_99, ⟨by decide +kernel, by decide +kernel⟩, by decide +kernel⟩
theorem yy_X5_walk : sl_Y yX5_walk cX5_walk 6 0 (some .int) := ⟨q_1150, q_99, ⟨by decide +kernel, by decide +kernel⟩, by decide +kernel⟩
theorem yy_X5_blind : sl_Y yX5_blind cX5_blind 1 0 (some .int) := ⟨q_1158, q_99, ⟨by decide +kernel, by decide +kernel⟩, by decide +kernel⟩
theorem yy_X5_findHeights : sl_Y yX5_findHeights cX5_findHeights 6 3 none := ⟨q_1167, q_99, ⟨by decide +kernel, by decide +kernel⟩, by decide +kernel⟩
theorem yy_X5_heights : sl_Y yX5_heights cX5_heights 4 3 (some .int) := ⟨q_1163, q_99, ⟨by decide +kernel, by decide +kernel⟩, by decide +kernel⟩
theorem yy_X5_height : sl_Y yX5_height cX5_height 5 4 (some .int) := ⟨q_1171, q_99, ⟨by decide +kernel, by decide +kernel⟩, by decide +kernel⟩
theorem yy_X5_which : sl_Y yX5_which cX5_which 6 2 (some .int) := ⟨q_1175, q_99, ⟨by decide +kernel, by decide +kernel⟩, by decide +kernel⟩
theorem yy_X5_years : sl_Y yX5_years cX5_years 2 1 (some .int) := ⟨q_1179, q_99, ⟨by decide +kernel, by decide +kernel⟩, by decide +kernel⟩
theorem yy_X5_ahead : sl_Y yX5_ahead cX5_ahead 4 2 (some .int) := ⟨q_1183, q_99, ⟨by decide +kernel, by decide +kernel⟩, by decide +kernel⟩
theorem yy_X5_lost : sl_Y yX5_lost cX5_lost 5 2 (some .int) := ⟨q_1187, q_99, ⟨by decide +kernel, by decide +kernel⟩, by decide +kernel⟩
theorem yy_X5_when : sl_Y yX5_when cX5_when 6 1 (some .int) := ⟨q_1191, q_99, ⟨by decide +kernel, by decide +kernel⟩, by decide +kernel⟩
theorem yy_X5_quake : sl_Y yX5_quake cX5_quake 4 1 (some .int) := ⟨q_1195, q_99, ⟨by decide +kernel, by decide +kernel⟩, by decide +kernel⟩
theorem yy_X5_seed : sl_Y yX5_seed cX5_seed 3 1 (some .int) := ⟨q_1205, q_99, ⟨by decide +kernel, by decide +kernel⟩, by decide +kernel⟩
theorem yy_X5_feed : sl_Y yX5_feed cX5_feed 4 2 (some .int) := ⟨q_1209, q_99, ⟨by decide +kernel, by decide +kernel⟩, by decide +kernel⟩
theorem yy_X5_wipe : sl_Y yX5_wipe cX5_wipe 2 0 (some .int) := ⟨q_1213, q_99, ⟨by decide +kernel, by decide +kernel⟩, by decide +kernel⟩
theorem yy_X5_byteAt : sl_Y yX5_byteAt cX5_byteAt 2 1 (some .int) := ⟨q_1225, q_99, ⟨by decide +kernel, by decide +kernel⟩, by decide +kernel⟩
theorem yy_X5_isLetter : sl_Y yX5_isLetter cX5_isLetter 1 1 (some .boolean) := ⟨q_1228, q_99, ⟨by decide +kernel, by decide +kernel⟩, by decide +kernel⟩
theorem yy_X5_isDigit : sl_Y yX5_isDigit cX5_isDigit 1 1 (some .boolean) := ⟨q_1233, q_99, ⟨by decide +kernel, by decide +kernel⟩, by decide +kernel⟩
theorem yy_X5_token : sl_Y yX5_token cX5_token 3 0 none := ⟨q_1221, q_99, ⟨by decide +kernel, by decide +kernel⟩, by decide +kernel⟩
theorem yy_X5_needs : sl_Y yX5_needs cX5_needs 2 1 none := ⟨q_1264, q_99, ⟨by decide +kernel, by decide +kernel⟩, by decide +kernel⟩
theorem yy_X5_word : sl_Y yX5_word cX5_word 4 0 (some .long) := ⟨q_1247, q_99, ⟨by decide +kernel, by decide +kernel⟩, by decide +kernel⟩
theorem yy_X5_number : sl_Y yX5_number cX5_number 6 2 none := ⟨q_1268, q_99, ⟨by decide +kernel, by decide +kernel⟩, by decide +kernel⟩
theorem yy_X5_kindHere : sl_Y yX5_kindHere cX5_kindHere 3 0 (some .int) := ⟨q_1243, q_99, ⟨by decide +kernel, by decide +kernel⟩, by decide +kernel⟩
theorem yy_X5_perhaps : sl_Y yX5_perhaps cX5_perhaps 5 4 (some .int) := ⟨q_1273, q_99, ⟨by decide +kernel, by decide +kernel⟩, by decide +kernel⟩
theorem yy_X5_cellItem : sl_Y yX5_cellItem cX5_cellItem 7 1 none := ⟨q_1260, q_99, ⟨by decide +kernel, by decide +kernel⟩, by decide +kernel⟩
theorem yy_X5_houseItem : sl_Y yX5_houseItem cX5_houseItem 5 0 none := ⟨q_1280, q_99, ⟨by decide +kernel, by decide +kernel⟩, by decide +kernel⟩
theorem yy_X5_item : sl_Y yX5_item cX5_item 2 0 none := ⟨q_1239, q_99, ⟨by decide +kernel, by decide +kernel⟩, by decide +kernel⟩
theorem yy_X5_text : sl_Y yX5_text cX5_text 2 0 (some .int) := ⟨q_1217, q_99, ⟨by decide +kernel, by decide +kernel⟩, by decide +kernel⟩
theorem yy_X5_hold : sl_Y yX5_hold cX5_hold 3 2 (some .int) := ⟨q_1290, q_99, ⟨by decide +kernel, by decide +kernel⟩, by decide +kernel⟩
theorem yy_X5_as : sl_Y yX5_as cX5_as 6 2 (some .int) := ⟨q_1296, q_99, ⟨by decide +kernel, by decide +kernel⟩, by decide +kernel⟩
theorem yy_X5_isOne : sl_Y yX5_isOne cX5_isOne 1 1 (some .boolean) := ⟨q_1305, q_99, ⟨by decide +kernel, by decide +kernel⟩, by decide +kernel⟩
theorem yy_X5_sheet : sl_Y yX5_sheet cX5_sheet 5 3 (some .int) := ⟨q_1302, q_99, ⟨by decide +kernel, by decide +kernel⟩, by decide +kernel⟩
theorem yy_X5_narrowed : sl_Y yX5_narrowed cX5_narrowed 2 2 (some .int) := ⟨q_1317, q_99, ⟨by decide +kernel, by decide +kernel⟩, by decide +kernel⟩
theorem yy_X5_wrong : sl_Y yX5_wrong cX5_wrong 2 1 (some .int) := ⟨q_1314, q_99, ⟨by decide +kernel, by decide +kernel⟩, by decide +kernel⟩
theorem yy_X5_write : sl_Y yX5_write cX5_write 5 3 (some .int) := ⟨q_1310, q_99, ⟨by decide +kernel, by decide +kernel⟩, by decide +kernel⟩
theorem yy_X5_copy : sl_Y yX5_copy cX5_copy 7 5 (some .int) := ⟨q_1321, q_99, ⟨by decide +kernel, by decide +kernel⟩, by decide +kernel⟩
theorem yy_X5_load : sl_Y yX5_load cX5_load 5 2 (some .int) := ⟨q_1325, q_99, ⟨by decide +kernel, by decide +kernel⟩, by decide +kernel⟩
theorem yy_X5_judge : sl_Y yX5_judge cX5_judge 5 2 (some .int) := ⟨q_1329, q_99, ⟨by decide +kernel, by decide +kernel⟩, by decide +kernel⟩
theorem yy_X5_image : sl_Y yX5_image cX5_image 2 0 (some .int) := ⟨q_1333, q_99, ⟨by decide +kernel, by decide +kernel⟩, by decide +kernel⟩
theorem yy_X5_undo : sl_Y yX5_undo cX5_undo 2 0 (some .int) := ⟨q_1337, q_99, ⟨by decide +kernel, by decide +kernel⟩, by decide +kernel⟩
theorem yy_X5_tear : sl_Y yX5_tear cX5_tear 2 0 (some .int) := ⟨q_1341, q_99, ⟨by decide +kernel, by decide +kernel⟩, by decide +kernel⟩
theorem yy_X5_count : sl_Y yX5_count cX5_count 4 1 (some .int) := ⟨q_1345, q_99, ⟨by decide +kernel, by decide +kernel⟩, by decide +kernel⟩
theorem yy_X5_status : sl_Y yX5_status cX5_status 4 1 (some .int) := ⟨q_1349, q_99, ⟨by decide +kernel, by decide +kernel⟩, by decide +kernel⟩
end
section
theorem dJ6_bitCount_0f7a4_0 : decode cJ6_bitCount_0f7a4 0 = .ok (.iload_n 0, 1) := by decide +kernel
theorem dJ6_bitCount_0f7a4_1 : decode cJ6_bitCount_0f7a4 1 = .ok (.iload_n 0, 1) := by decide +kernel
theorem dJ6_bitCount_0f7a4_2 : decode cJ6_bitCount_0f7a4 2 = .ok (.iconst 1, 1) := by decide +kernel
theorem dJ6_bitCount_0f7a4_3 : decode cJ6_bitCount_0f7a4 3 = .ok (.iushr, 1) := by decide +kernel
theorem dJ6_bitCount_0f7a4_4 : decode cJ6_bitCount_0f7a4 4 = .ok (.ldc_w 265, 3) := by decide +kernel
theorem dJ6_bitCount_0f7a4_7 : decode cJ6_bitCount_0f7a4 7 = .ok (.iand, 1) := by decide +kernel
theorem dJ6_bitCount_0f7a4_8 : decode cJ6_bitCount_0f7a4 8 = .ok (.isub, 1) := by decide +kernel
theorem dJ6_bitCount_0f7a4_9 : decode cJ6_bitCount_0f7a4 9 = .ok (.istore_n 0, 1) := by decide +kernel
theorem dJ6_bitCount_0f7a4_10 : decode cJ6_bitCount_0f7a4 10 = .ok (.iload_n 0, 1) := by decide +kernel
theorem dJ6_bitCount_0f7a4_11 : decode cJ6_bitCount_0f7a4 11 = .ok (.ldc_w 266, 3) := by decide +kernel
theorem dJ6_bitCount_0f7a4_14 : decode cJ6_bitCount_0f7a4 14 = .ok (.iand, 1) := by decide +kernel
theorem dJ6_bitCount_0f7a4_15 : decode cJ6_bitCount_0f7a4 15 = .ok (.iload_n 0, 1) := by decide +kernel
theorem dJ6_bitCount_0f7a4_16 : decode cJ6_bitCount_0f7a4 16 = .ok (.iconst 2, 1) := by decide +kernel
theorem dJ6_bitCount_0f7a4_17 : decode cJ6_bitCount_0f7a4 17 = .ok (.iushr, 1) := by decide +kernel
theorem dJ6_bitCount_0f7a4_18 : decode cJ6_bitCount_0f7a4 18 = .ok (.ldc_w 266, 3) := by decide +kernel
theorem dJ6_bitCount_0f7a4_21 : decode cJ6_bitCount_0f7a4 21 = .ok (.iand, 1) := by decide +kernel
theorem dJ6_bitCount_0f7a4_22 : decode cJ6_bitCount_0f7a4 22 = .ok (.iadd, 1) := by decide +kernel
theorem dJ6_bitCount_0f7a4_23 : decode cJ6_bitCount_0f7a4 23 = .ok (.istore_n 0, 1) := by decide +kernel
theorem dJ6_bitCount_0f7a4_24 : decode cJ6_bitCount_0f7a4 24 = .ok (.iload_n 0, 1) := by decide +kernel
theorem dJ6_bitCount_0f7a4_25 : decode cJ6_bitCount_0f7a4 25 = .ok (.iload_n 0, 1) := by decide +kernel
theorem dJ6_bitCount_0f7a4_26 : decode cJ6_bitCount_0f7a4 26 = .ok (.iconst 4, 1) := by decide +kernel
theorem dJ6_bitCount_0f7a4_27 : decode cJ6_bitCount_0f7a4 27 = .ok (.iushr, 1) := by decide +kernel
theorem dJ6_bitCount_0f7a4_28 : decode cJ6_bitCount_0f7a4 28 = .ok (.iadd, 1) := by decide +kernel
theorem dJ6_bitCount_0f7a4_29 : decode cJ6_bitCount_0f7a4 29 = .ok (.ldc_w 267, 3) := by decide +kernel
theorem dJ6_bitCount_0f7a4_32 : decode cJ6_bitCount_0f7a4 32 = .ok (.iand, 1) := by decide +kernel
theorem dJ6_bitCount_0f7a4_33 : decode cJ6_bitCount_0f7a4 33 = .ok (.istore_n 0, 1) := by decide +kernel
theorem dJ6_bitCount_0f7a4_34 : decode cJ6_bitCount_0f7a4 34 = .ok (.iload_n 0, 1) := by decide +kernel
theorem dJ6_bitCount_0f7a4_35 : decode cJ6_bitCount_0f7a4 35 = .ok (.iload_n 0, 1) := by decide +kernel
theorem dJ6_bitCount_0f7a4_36 : decode cJ6_bitCount_0f7a4 36 = .ok (.bipush 8, 2) := by decide +kernel
theorem dJ6_bitCount_0f7a4_38 : decode cJ6_bitCount_0f7a4 38 = .ok (.iushr, 1) := by decide +kernel
theorem dJ6_bitCount_0f7a4_39 : decode cJ6_bitCount_0f7a4 39 = .ok (.iadd, 1) := by decide +kernel
theorem dJ6_bitCount_0f7a4_40 : decode cJ6_bitCount_0f7a4 40 = .ok (.istore_n 0, 1) := by decide +kernel
theorem dJ6_bitCount_0f7a4_41 : decode cJ6_bitCount_0f7a4 41 = .ok (.iload_n 0, 1) := by decide +kernel
theorem dJ6_bitCount_0f7a4_42 : decode cJ6_bitCount_0f7a4 42 = .ok (.iload_n 0, 1) := by decide +kernel
theorem dJ6_bitCount_0f7a4_43 : decode cJ6_bitCount_0f7a4 43 = .ok (.bipush 16, 2) := by decide +kernel
theorem dJ6_bitCount_0f7a4_45 : decode cJ6_bitCount_0f7a4 45 = .ok (.iushr, 1) := by decide +kernel
theorem dJ6_bitCount_0f7a4_46 : decode cJ6_bitCount_0f7a4 46 = .ok (.iadd, 1) := by decide +kernel
theorem dJ6_bitCount_0f7a4_47 : decode cJ6_bitCount_0f7a4 47 = .ok (.istore_n 0, 1) := by decide +kernel
theorem dJ6_bitCount_0f7a4_48 : decode cJ6_bitCount_0f7a4 48 = .ok (.iload_n 0, 1) := by decide +kernel
theorem dJ6_bitCount_0f7a4_49 : decode cJ6_bitCount_0f7a4 49 = .ok (.bipush 63, 2) := by decide +kernel
theorem dJ6_bitCount_0f7a4_51 : decode cJ6_bitCount_0f7a4 51 = .ok (.iand, 1) := by decide +kernel
theorem dJ6_bitCount_0f7a4_52 : decode cJ6_bitCount_0f7a4 52 = .ok (.ireturn, 1) := by decide +kernel
theorem dX0_ageTo_0 : decode cX0_ageTo 0 = .ok (.aload_n 0, 1) := by decide +kernel
theorem dX0_ageTo_1 : decode cX0_ageTo 1 = .ok (.getfield 16, 3) := by decide +kernel
theorem dX0_ageTo_4 : decode cX0_ageTo 4 = .ok (.iload_n 1, 1) := by decide +kernel
theorem dX0_ageTo_5 : decode cX0_ageTo 5 = .ok (.iload_n 2, 1) := by decide +kernel
theorem dX0_ageTo_6 : decode cX0_ageTo 6 = .ok (.iastore, 1) := by decide +kernel
theorem dX0_ageTo_7 : decode cX0_ageTo 7 = .ok (.aload_n 0, 1) := by decide +kernel
theorem dX0_ageTo_8 : decode cX0_ageTo 8 = .ok (.iload_n 1, 1) := by decide +kernel
theorem dX0_ageTo_9 : decode cX0_ageTo 9 = .ok (.invokevirtual 56, 3) := by decide +kernel
theorem dX0_ageTo_12 : decode cX0_ageTo 12 = .ok (.return_, 1) := by decide +kernel
theorem dX0_allSight_0 : decode cX0_allSight 0 = .ok (.iconst 0, 1) := by decide +kernel
theorem dX0_allSight_1 : decode cX0_allSight 1 = .ok (.istore_n 1, 1) := by decide +kernel
theorem dX0_allSight_2 : decode cX0_allSight 2 = .ok (.iconst 0, 1) := by decide +kernel
theorem dX0_allSight_3 : decode cX0_allSight 3 = .ok (.istore_n 2, 1) := by decide +kernel
theorem dX0_allSight_4 : decode cX0_allSight 4 = .ok (.iload_n 2, 1) := by decide +kernel
theorem dX0_allSight_5 : decode cX0_allSight 5 = .ok (.aload_n 0, 1) := by decide +kernel
theorem dX0_allSight_6 : decode cX0_allSight 6 = .ok (.getfield 34, 3) := by decide +kernel
theorem dX0_allSight_9 : decode cX0_allSight 9 = .ok (.if_icmp .ge 17, 3) := by decide +kernel
theorem dX0_allSight_12 : decode cX0_allSight 12 = .ok (.iload_n 1, 1) := by decide +kernel
theorem dX0_allSight_13 : decode cX0_allSight 13 = .ok (.aload_n 0, 1) := by decide +kernel
theorem dX0_allSight_14 : decode cX0_allSight 14 = .ok (.iload_n 2, 1) := by decide +kernel
theorem dX0_allSight_15 : decode cX0_allSight 15 = .ok (.invokevirtual 93, 3) := by decide +kernel
theorem dX0_allSight_18 : decode cX0_allSight 18 = .ok (.ior, 1) := by decide +kernel
theorem dX0_allSight_19 : decode cX0_allSight 19 = .ok (.istore_n 1, 1) := by decide +kernel
theorem dX0_allSight_20 : decode cX0_allSight 20 = .ok (.iinc 2 1, 3) := by decide +kernel
theorem dX0_allSight_23 : decode cX0_allSight 23 = .ok (.goto (-19), 3) := by decide +kernel
theorem dX0_allSight_26 : decode cX0_allSight 26 = .ok (.iload_n 1, 1) := by decide +kernel
theorem dX0_allSight_27 : decode cX0_allSight 27 = .ok (.ireturn, 1) := by decide +kernel
theorem dX0_allTax_0 : decode cX0_allTax 0 = .ok (.iconst 0, 1) := by decide +kernel
theorem dX0_allTax_1 : decode cX0_allTax 1 = .ok (.istore_n 1, 1) := by decide +kernel
theorem dX0_allTax_2 : decode cX0_allTax 2 = .ok (.iconst 0, 1) := by decide +kernel
theorem dX0_allTax_3 : decode cX0_allTax 3 = .ok (.istore_n 2, 1) := by decide +kernel
theorem dX0_allTax_4 : decode cX0_allTax 4 = .ok (.iload_n 2, 1) := by decide +kernel
theorem dX0_allTax_5 : decode cX0_allTax 5 = .ok (.aload_n 0, 1) := by decide +kernel
theorem dX0_allTax_6 : decode cX0_allTax 6 = .ok (.getfield 34, 3) := by decide +kernel
theorem dX0_allTax_9 : decode cX0_allTax 9 = .ok (.if_icmp .ge 17, 3) := by decide +kernel
theorem dX0_allTax_12 : decode cX0_allTax 12 = .ok (.iload_n 1, 1) := by decide +kernel
theorem dX0_allTax_13 : decode cX0_allTax 13 = .ok (.aload_n 0, 1) := by decide +kernel
theorem dX0_allTax_14 : decode cX0_allTax 14 = .ok (.iload_n 2, 1) := by decide +kernel
theorem dX0_allTax_15 : decode cX0_allTax 15 = .ok (.invokevirtual 112, 3) := by decide +kernel
theorem dX0_allTax_18 : decode cX0_allTax 18 = .ok (.iadd, 1) := by decide +kernel
theorem dX0_allTax_19 : decode cX0_allTax 19 = .ok (.istore_n 1, 1) := by decide +kernel
theorem dX0_allTax_20 : decode cX0_allTax 20 = .ok (.iinc 2 1, 3) := by decide +kernel
theorem dX0_allTax_23 : decode cX0_allTax 23 = .ok (.goto (-19), 3) := by decide +kernel
theorem dX0_allTax_26 : decode cX0_allTax 26 = .ok (.iload_n 1, 1) := by decide +kernel
theorem dX0_allTax_27 : decode cX0_allTax 27 = .ok (.ireturn, 1) := by decide +kernel
theorem dX0_build_0 : decode cX0_build 0 = .ok (.aload_n 0, 1) := by decide +kernel
theorem dX0_build_1 : decode cX0_build 1 = .ok (.getfield 22, 3) := by decide +kernel
theorem dX0_build_4 : decode cX0_build 4 = .ok (.aload_n 0, 1) := by decide +kernel
theorem dX0_build_5 : decode cX0_build 5 = .ok (.getfield 34, 3) := by decide +kernel
theorem dX0_build_8 : decode cX0_build 8 = .ok (.iload_n 1, 1) := by decide +kernel
theorem dX0_build_9 : decode cX0_build 9 = .ok (.iastore, 1) := by decide +kernel
theorem dX0_build_10 : decode cX0_build 10 = .ok (.aload_n 0, 1) := by decide +kernel
theorem dX0_build_11 : decode cX0_build 11 = .ok (.getfield 25, 3) := by decide +kernel
theorem dX0_build_14 : decode cX0_build 14 = .ok (.aload_n 0, 1) := by decide +kernel
theorem dX0_build_15 : decode cX0_build 15 = .ok (.getfield 34, 3) := by decide +kernel
theorem dX0_build_18 : decode cX0_build 18 = .ok (.iload_n 2, 1) := by decide +kernel
theorem dX0_build_19 : decode cX0_build 19 = .ok (.iastore, 1) := by decide +kernel
theorem dX0_build_20 : decode cX0_build 20 = .ok (.aload_n 0, 1) := by decide +kernel
theorem dX0_build_21 : decode cX0_build 21 = .ok (.getfield 28, 3) := by decide +kernel
theorem dX0_build_24 : decode cX0_build 24 = .ok (.aload_n 0, 1) := by decide +kernel
theorem dX0_build_25 : decode cX0_build 25 = .ok (.getfield 34, 3) := by decide +kernel
theorem dX0_build_28 : decode cX0_build 28 = .ok (.iload_n 3, 1) := by decide +kernel
theorem dX0_build_29 : decode cX0_build 29 = .ok (.iastore, 1) := by decide +kernel
theorem dX0_build_30 : decode cX0_build 30 = .ok (.aload_n 0, 1) := by decide +kernel
theorem dX0_build_31 : decode cX0_build 31 = .ok (.dup, 1) := by decide +kernel
theorem dX0_build_32 : decode cX0_build 32 = .ok (.getfield 34, 3) := by decide +kernel
theorem dX0_build_35 : decode cX0_build 35 = .ok (.iconst 1, 1) := by decide +kernel
theorem dX0_build_36 : decode cX0_build 36 = .ok (.iadd, 1) := by decide +kernel
theorem dX0_build_37 : decode cX0_build 37 = .ok (.putfield 34, 3) := by decide +kernel
theorem dX0_build_40 : decode cX0_build 40 = .ok (.return_, 1) := by decide +kernel
theorem dX0_draw_0 : decode cX0_draw 0 = .ok (.aload_n 0, 1) := by decide +kernel
theorem dX0_draw_1 : decode cX0_draw 1 = .ok (.aload_n 0, 1) := by decide +kernel
theorem dX0_draw_2 : decode cX0_draw 2 = .ok (.getfield 47, 3) := by decide +kernel
theorem dX0_draw_5 : decode cX0_draw 5 = .ok (.ldc 115, 2) := by decide +kernel
theorem dX0_draw_7 : decode cX0_draw 7 = .ok (.imul, 1) := by decide +kernel
theorem dX0_draw_8 : decode cX0_draw 8 = .ok (.sipush 12345, 3) := by decide +kernel
theorem dX0_draw_11 : decode cX0_draw 11 = .ok (.iadd, 1) := by decide +kernel
theorem dX0_draw_12 : decode cX0_draw 12 = .ok (.putfield 47, 3) := by decide +kernel
theorem dX0_draw_15 : decode cX0_draw 15 = .ok (.aload_n 0, 1) := by decide +kernel
theorem dX0_draw_16 : decode cX0_draw 16 = .ok (.getfield 47, 3) := by decide +kernel
theorem dX0_draw_19 : decode cX0_draw 19 = .ok (.bipush 8, 2) := by decide +kernel
theorem dX0_draw_21 : decode cX0_draw 21 = .ok (.iushr, 1) := by decide +kernel
theorem dX0_draw_22 : decode cX0_draw 22 = .ok (.ireturn, 1) := by decide +kernel
theorem dX0_eyeOf_0 : decode cX0_eyeOf 0 = .ok (.aload_n 0, 1) := by decide +kernel
theorem dX0_eyeOf_1 : decode cX0_eyeOf 1 = .ok (.getfield 19, 3) := by decide +kernel
theorem dX0_eyeOf_4 : decode cX0_eyeOf 4 = .ok (.aload_n 0, 1) := by decide +kernel
theorem dX0_eyeOf_5 : decode cX0_eyeOf 5 = .ok (.getfield 22, 3) := by decide +kernel
theorem dX0_eyeOf_8 : decode cX0_eyeOf 8 = .ok (.iload_n 1, 1) := by decide +kernel
theorem dX0_eyeOf_9 : decode cX0_eyeOf 9 = .ok (.iaload, 1) := by decide +kernel
theorem dX0_eyeOf_10 : decode cX0_eyeOf 10 = .ok (.iaload, 1) := by decide +kernel
theorem dX0_eyeOf_11 : decode cX0_eyeOf 11 = .ok (.aload_n 0, 1) := by decide +kernel
theorem dX0_eyeOf_12 : decode cX0_eyeOf 12 = .ok (.getfield 25, 3) := by decide +kernel
theorem dX0_eyeOf_15 : decode cX0_eyeOf 15 = .ok (.iload_n 1, 1) := by decide +kernel
theorem dX0_eyeOf_16 : decode cX0_eyeOf 16 = .ok (.iaload, 1) := by decide +kernel
theorem dX0_eyeOf_17 : decode cX0_eyeOf 17 = .ok (.iadd, 1) := by decide +kernel
theorem dX0_eyeOf_18 : decode cX0_eyeOf 18 = .ok (.ireturn, 1) := by decide +kernel
theorem dX0_grow_0 : decode cX0_grow 0 = .ok (.iconst 0, 1) := by decide +kernel
theorem dX0_grow_1 : decode cX0_grow 1 = .ok (.istore_n 2, 1) := by decide +kernel
theorem dX0_grow_2 : decode cX0_grow 2 = .ok (.iload_n 2, 1) := by decide +kernel
theorem dX0_grow_3 : decode cX0_grow 3 = .ok (.bipush 24, 2) := by decide +kernel
theorem dX0_grow_5 : decode cX0_grow 5 = .ok (.if_icmp .ge 27, 3) := by decide +kernel
theorem dX0_grow_8 : decode cX0_grow 8 = .ok (.aload_n 0, 1) := by decide +kernel
theorem dX0_grow_9 : decode cX0_grow 9 = .ok (.iload_n 2, 1) := by decide +kernel
theorem dX0_grow_10 : decode cX0_grow 10 = .ok (.bipush 99, 2) := by decide +kernel
theorem dX0_grow_12 : decode cX0_grow 12 = .ok (.aload_n 0, 1) := by decide +kernel
theorem dX0_grow_13 : decode cX0_grow 13 = .ok (.getfield 16, 3) := by decide +kernel
theorem dX0_grow_16 : decode cX0_grow 16 = .ok (.iload_n 2, 1) := by decide +kernel
theorem dX0_grow_17 : decode cX0_grow 17 = .ok (.iaload, 1) := by decide +kernel
theorem dX0_grow_18 : decode cX0_grow 18 = .ok (.iload_n 1, 1) := by decide +kernel
theorem dX0_grow_19 : decode cX0_grow 19 = .ok (.iadd, 1) := by decide +kernel
theorem dX0_grow_20 : decode cX0_grow 20 = .ok (.invokestatic 70, 3) := by decide +kernel
theorem dX0_grow_23 : decode cX0_grow 23 = .ok (.invokevirtual 73, 3) := by decide +kernel
theorem dX0_grow_26 : decode cX0_grow 26 = .ok (.iinc 2 1, 3) := by decide +kernel
theorem dX0_grow_29 : decode cX0_grow 29 = .ok (.goto (-27), 3) := by decide +kernel
theorem dX0_grow_32 : decode cX0_grow 32 = .ok (.aload_n 0, 1) := by decide +kernel
theorem dX0_grow_33 : decode cX0_grow 33 = .ok (.dup, 1) := by decide +kernel
theorem dX0_grow_34 : decode cX0_grow 34 = .ok (.getfield 44, 3) := by decide +kernel
theorem dX0_grow_37 : decode cX0_grow 37 = .ok (.iload_n 1, 1) := by decide +kernel
theorem dX0_grow_38 : decode cX0_grow 38 = .ok (.iadd, 1) := by decide +kernel
theorem dX0_grow_39 : decode cX0_grow 39 = .ok (.putfield 44, 3) := by decide +kernel
theorem dX0_grow_42 : decode cX0_grow 42 = .ok (.return_, 1) := by decide +kernel
theorem dX0_hasInSight_0 : decode cX0_hasInSight 0 = .ok (.iload_n 2, 1) := by decide +kernel
theorem dX0_hasInSight_1 : decode cX0_hasInSight 1 = .ok (.aload_n 0, 1) := by decide +kernel
theorem dX0_hasInSight_2 : decode cX0_hasInSight 2 = .ok (.iload_n 1, 1) := by decide +kernel
theorem dX0_hasInSight_3 : decode cX0_hasInSight 3 = .ok (.invokevirtual 93, 3) := by decide +kernel
theorem dX0_hasInSight_6 : decode cX0_hasInSight 6 = .ok (.invokestatic 96, 3) := by decide +kernel
theorem dX0_hasInSight_9 : decode cX0_hasInSight 9 = .ok (.ireturn, 1) := by decide +kernel
theorem dX0_hiderOf_0 : decode cX0_hiderOf 0 = .ok (.aload_n 0, 1) := by decide +kernel
theorem dX0_hiderOf_1 : decode cX0_hiderOf 1 = .ok (.getfield 22, 3) := by decide +kernel
theorem dX0_hiderOf_4 : decode cX0_hiderOf 4 = .ok (.iload_n 1, 1) := by decide +kernel
theorem dX0_hiderOf_5 : decode cX0_hiderOf 5 = .ok (.iaload, 1) := by decide +kernel
theorem dX0_hiderOf_6 : decode cX0_hiderOf 6 = .ok (.istore_n 3, 1) := by decide +kernel
theorem dX0_hiderOf_7 : decode cX0_hiderOf 7 = .ok (.aload_n 0, 1) := by decide +kernel
theorem dX0_hiderOf_8 : decode cX0_hiderOf 8 = .ok (.iload_n 1, 1) := by decide +kernel
theorem dX0_hiderOf_9 : decode cX0_hiderOf 9 = .ok (.invokevirtual 89, 3) := by decide +kernel
theorem dX0_hiderOf_12 : decode cX0_hiderOf 12 = .ok (.istore 4, 2) := by decide +kernel
theorem dX0_hiderOf_14 : decode cX0_hiderOf 14 = .ok (.iload_n 2, 1) := by decide +kernel
theorem dX0_hiderOf_15 : decode cX0_hiderOf 15 = .ok (.iload_n 3, 1) := by decide +kernel
theorem dX0_hiderOf_16 : decode cX0_hiderOf 16 = .ok (.if_icmp .ge 7, 3) := by decide +kernel
theorem dX0_hiderOf_19 : decode cX0_hiderOf 19 = .ok (.iconst (-1), 1) := by decide +kernel
theorem dX0_hiderOf_20 : decode cX0_hiderOf 20 = .ok (.goto 4, 3) := by decide +kernel
theorem dX0_hiderOf_23 : decode cX0_hiderOf 23 = .ok (.iconst 1, 1) := by decide +kernel
theorem dX0_hiderOf_24 : decode cX0_hiderOf 24 = .ok (.istore 5, 2) := by decide +kernel
theorem dX0_hiderOf_26 : decode cX0_hiderOf 26 = .ok (.iload_n 2, 1) := by decide +kernel
theorem dX0_hiderOf_27 : decode cX0_hiderOf 27 = .ok (.iload_n 3, 1) := by decide +kernel
theorem dX0_hiderOf_28 : decode cX0_hiderOf 28 = .ok (.isub, 1) := by decide +kernel
theorem dX0_hiderOf_29 : decode cX0_hiderOf 29 = .ok (.invokestatic 100, 3) := by decide +kernel
theorem dX0_hiderOf_32 : decode cX0_hiderOf 32 = .ok (.istore 6, 2) := by decide +kernel
theorem dX0_hiderOf_34 : decode cX0_hiderOf 34 = .ok (.aload_n 0, 1) := by decide +kernel
theorem dX0_hiderOf_35 : decode cX0_hiderOf 35 = .ok (.getfield 19, 3) := by decide +kernel
theorem dX0_hiderOf_38 : decode cX0_hiderOf 38 = .ok (.iload_n 2, 1) := by decide +kernel
theorem dX0_hiderOf_39 : decode cX0_hiderOf 39 = .ok (.iaload, 1) := by decide +kernel
theorem dX0_hiderOf_40 : decode cX0_hiderOf 40 = .ok (.iload 4, 2) := by decide +kernel
theorem dX0_hiderOf_42 : decode cX0_hiderOf 42 = .ok (.isub, 1) := by decide +kernel
theorem dX0_hiderOf_43 : decode cX0_hiderOf 43 = .ok (.istore 7, 2) := by decide +kernel
theorem dX0_hiderOf_45 : decode cX0_hiderOf 45 = .ok (.iconst 1, 1) := by decide +kernel
theorem dX0_hiderOf_46 : decode cX0_hiderOf 46 = .ok (.istore 8, 2) := by decide +kernel
theorem dX0_hiderOf_48 : decode cX0_hiderOf 48 = .ok (.iload 8, 2) := by decide +kernel
theorem dX0_hiderOf_50 : decode cX0_hiderOf 50 = .ok (.iload 6, 2) := by decide +kernel
theorem dX0_hiderOf_52 : decode cX0_hiderOf 52 = .ok (.if_icmp .ge 42, 3) := by decide +kernel
theorem dX0_hiderOf_55 : decode cX0_hiderOf 55 = .ok (.iload_n 3, 1) := by decide +kernel
theorem dX0_hiderOf_56 : decode cX0_hiderOf 56 = .ok (.iload 5, 2) := by decide +kernel
theorem dX0_hiderOf_58 : decode cX0_hiderOf 58 = .ok (.iload 8, 2) := by decide +kernel
theorem dX0_hiderOf_60 : decode cX0_hiderOf 60 = .ok (.imul, 1) := by decide +kernel
theorem dX0_hiderOf_61 : decode cX0_hiderOf 61 = .ok (.iadd, 1) := by decide +kernel
theorem dX0_hiderOf_62 : decode cX0_hiderOf 62 = .ok (.istore 9, 2) := by decide +kernel
theorem dX0_hiderOf_64 : decode cX0_hiderOf 64 = .ok (.aload_n 0, 1) := by decide +kernel
theorem dX0_hiderOf_65 : decode cX0_hiderOf 65 = .ok (.getfield 19, 3) := by decide +kernel
theorem dX0_hiderOf_68 : decode cX0_hiderOf 68 = .ok (.iload 9, 2) := by decide +kernel
theorem dX0_hiderOf_70 : decode cX0_hiderOf 70 = .ok (.iaload, 1) := by decide +kernel
theorem dX0_hiderOf_71 : decode cX0_hiderOf 71 = .ok (.iload 4, 2) := by decide +kernel
theorem dX0_hiderOf_73 : decode cX0_hiderOf 73 = .ok (.isub, 1) := by decide +kernel
theorem dX0_hiderOf_74 : decode cX0_hiderOf 74 = .ok (.iload 6, 2) := by decide +kernel
theorem dX0_hiderOf_76 : decode cX0_hiderOf 76 = .ok (.imul, 1) := by decide +kernel
theorem dX0_hiderOf_77 : decode cX0_hiderOf 77 = .ok (.iload 7, 2) := by decide +kernel
theorem dX0_hiderOf_79 : decode cX0_hiderOf 79 = .ok (.iload 8, 2) := by decide +kernel
theorem dX0_hiderOf_81 : decode cX0_hiderOf 81 = .ok (.imul, 1) := by decide +kernel
theorem dX0_hiderOf_82 : decode cX0_hiderOf 82 = .ok (.if_icmp .lt 6, 3) := by decide +kernel
theorem dX0_hiderOf_85 : decode cX0_hiderOf 85 = .ok (.iload 9, 2) := by decide +kernel
theorem dX0_hiderOf_87 : decode cX0_hiderOf 87 = .ok (.ireturn, 1) := by decide +kernel
theorem dX0_hiderOf_88 : decode cX0_hiderOf 88 = .ok (.iinc 8 1, 3) := by decide +kernel
theorem dX0_hiderOf_91 : decode cX0_hiderOf 91 = .ok (.goto (-43), 3) := by decide +kernel
theorem dX0_hiderOf_94 : decode cX0_hiderOf 94 = .ok (.iconst (-1), 1) := by decide +kernel
theorem dX0_hiderOf_95 : decode cX0_hiderOf 95 = .ok (.ireturn, 1) := by decide +kernel
theorem dX0_isBuiltUp_0 : decode cX0_isBuiltUp 0 = .ok (.aload_n 0, 1) := by decide +kernel
theorem dX0_isBuiltUp_1 : decode cX0_isBuiltUp 1 = .ok (.getfield 34, 3) := by decide +kernel
theorem dX0_isBuiltUp_4 : decode cX0_isBuiltUp 4 = .ok (.bipush 8, 2) := by decide +kernel
theorem dX0_isBuiltUp_6 : decode cX0_isBuiltUp 6 = .ok (.if_icmp .lt 7, 3) := by decide +kernel
theorem dX0_isBuiltUp_9 : decode cX0_isBuiltUp 9 = .ok (.iconst 1, 1) := by decide +kernel
theorem dX0_isBuiltUp_10 : decode cX0_isBuiltUp 10 = .ok (.goto 4, 3) := by decide +kernel
theorem dX0_isBuiltUp_13 : decode cX0_isBuiltUp 13 = .ok (.iconst 0, 1) := by decide +kernel
theorem dX0_isBuiltUp_14 : decode cX0_isBuiltUp 14 = .ok (.ireturn, 1) := by decide +kernel
theorem dX0_isIn_0 : decode cX0_isIn 0 = .ok (.iload_n 1, 1) := by decide +kernel
theorem dX0_isIn_1 : decode cX0_isIn 1 = .ok (.iload_n 0, 1) := by decide +kernel
theorem dX0_isIn_2 : decode cX0_isIn 2 = .ok (.ishr, 1) := by decide +kernel
theorem dX0_isIn_3 : decode cX0_isIn 3 = .ok (.iconst 1, 1) := by decide +kernel
theorem dX0_isIn_4 : decode cX0_isIn 4 = .ok (.iand, 1) := by decide +kernel
theorem dX0_isIn_5 : decode cX0_isIn 5 = .ok (.iconst 1, 1) := by decide +kernel
theorem dX0_isIn_6 : decode cX0_isIn 6 = .ok (.if_icmp .ne 7, 3) := by decide +kernel
theorem dX0_isIn_9 : decode cX0_isIn 9 = .ok (.iconst 1, 1) := by decide +kernel
theorem dX0_isIn_10 : decode cX0_isIn 10 = .ok (.goto 4, 3) := by decide +kernel
theorem dX0_isIn_13 : decode cX0_isIn 13 = .ok (.iconst 0, 1) := by decide +kernel
theorem dX0_isIn_14 : decode cX0_isIn 14 = .ok (.ireturn, 1) := by decide +kernel
theorem dX0_isOfKind_0 : decode cX0_isOfKind 0 = .ok (.iload_n 0, 1) := by decide +kernel
theorem dX0_isOfKind_1 : decode cX0_isOfKind 1 = .ok (.istore_n 2, 1) := by decide +kernel
theorem dX0_isOfKind_2 : decode cX0_isOfKind 2 = .ok (.iconst 0, 1) := by decide +kernel
theorem dX0_isOfKind_3 : decode cX0_isOfKind 3 = .ok (.istore_n 3, 1) := by decide +kernel
theorem dX0_isOfKind_4 : decode cX0_isOfKind 4 = .ok (.iload_n 3, 1) := by decide +kernel
theorem dX0_isOfKind_5 : decode cX0_isOfKind 5 = .ok (.getstatic 83, 3) := by decide +kernel
theorem dX0_isOfKind_8 : decode cX0_isOfKind 8 = .ok (.arraylength, 1) := by decide +kernel
theorem dX0_isOfKind_9 : decode cX0_isOfKind 9 = .ok (.if_icmp .ge 27, 3) := by decide +kernel
theorem dX0_isOfKind_12 : decode cX0_isOfKind 12 = .ok (.iload_n 2, 1) := by decide +kernel
theorem dX0_isOfKind_13 : decode cX0_isOfKind 13 = .ok (.iconst (-1), 1) := by decide +kernel
theorem dX0_isOfKind_14 : decode cX0_isOfKind 14 = .ok (.if_icmp .eq 22, 3) := by decide +kernel
theorem dX0_isOfKind_17 : decode cX0_isOfKind 17 = .ok (.iload_n 2, 1) := by decide +kernel
theorem dX0_isOfKind_18 : decode cX0_isOfKind 18 = .ok (.iload_n 1, 1) := by decide +kernel
theorem dX0_isOfKind_19 : decode cX0_isOfKind 19 = .ok (.if_icmp .ne 5, 3) := by decide +kernel
theorem dX0_isOfKind_22 : decode cX0_isOfKind 22 = .ok (.iconst 1, 1) := by decide +kernel
theorem dX0_isOfKind_23 : decode cX0_isOfKind 23 = .ok (.ireturn, 1) := by decide +kernel
theorem dX0_isOfKind_24 : decode cX0_isOfKind 24 = .ok (.getstatic 83, 3) := by decide +kernel
theorem dX0_isOfKind_27 : decode cX0_isOfKind 27 = .ok (.iload_n 2, 1) := by decide +kernel
theorem dX0_isOfKind_28 : decode cX0_isOfKind 28 = .ok (.iaload, 1) := by decide +kernel
theorem dX0_isOfKind_29 : decode cX0_isOfKind 29 = .ok (.istore_n 2, 1) := by decide +kernel
theorem dX0_isOfKind_30 : decode cX0_isOfKind 30 = .ok (.iinc 3 1, 3) := by decide +kernel
theorem dX0_isOfKind_33 : decode cX0_isOfKind 33 = .ok (.goto (-29), 3) := by decide +kernel
theorem dX0_isOfKind_36 : decode cX0_isOfKind 36 = .ok (.iconst 0, 1) := by decide +kernel
theorem dX0_isOfKind_37 : decode cX0_isOfKind 37 = .ok (.ireturn, 1) := by decide +kernel
theorem dX0_lookOut_0 : decode cX0_lookOut 0 = .ok (.aload_n 0, 1) := by decide +kernel
theorem dX0_lookOut_1 : decode cX0_lookOut 1 = .ok (.getfield 22, 3) := by decide +kernel
theorem dX0_lookOut_4 : decode cX0_lookOut 4 = .ok (.iload_n 1, 1) := by decide +kernel
theorem dX0_lookOut_5 : decode cX0_lookOut 5 = .ok (.iaload, 1) := by decide +kernel
theorem dX0_lookOut_6 : decode cX0_lookOut 6 = .ok (.istore_n 3, 1) := by decide +kernel
theorem dX0_lookOut_7 : decode cX0_lookOut 7 = .ok (.aload_n 0, 1) := by decide +kernel
theorem dX0_lookOut_8 : decode cX0_lookOut 8 = .ok (.iload_n 1, 1) := by decide +kernel
theorem dX0_lookOut_9 : decode cX0_lookOut 9 = .ok (.invokevirtual 89, 3) := by decide +kernel
theorem dX0_lookOut_12 : decode cX0_lookOut 12 = .ok (.istore 4, 2) := by decide +kernel
theorem dX0_lookOut_14 : decode cX0_lookOut 14 = .ok (.aload_n 0, 1) := by decide +kernel
theorem dX0_lookOut_15 : decode cX0_lookOut 15 = .ok (.getfield 38, 3) := by decide +kernel
theorem dX0_lookOut_18 : decode cX0_lookOut 18 = .ok (.iload_n 2, 1) := by decide +kernel
theorem dX0_lookOut_19 : decode cX0_lookOut 19 = .ok (.ifCond .ge 7, 3) := by decide +kernel
theorem dX0_lookOut_22 : decode cX0_lookOut 22 = .ok (.iload_n 3, 1) := by decide +kernel
theorem dX0_lookOut_23 : decode cX0_lookOut 23 = .ok (.goto 7, 3) := by decide +kernel
theorem dX0_lookOut_26 : decode cX0_lookOut 26 = .ok (.bipush 23, 2) := by decide +kernel
theorem dX0_lookOut_28 : decode cX0_lookOut 28 = .ok (.iload_n 3, 1) := by decide +kernel
theorem dX0_lookOut_29 : decode cX0_lookOut 29 = .ok (.isub, 1) := by decide +kernel
theorem dX0_lookOut_30 : decode cX0_lookOut 30 = .ok (.invokestatic 70, 3) := by decide +kernel
theorem dX0_lookOut_33 : decode cX0_lookOut 33 = .ok (.istore 5, 2) := by decide +kernel
theorem dX0_lookOut_35 : decode cX0_lookOut 35 = .ok (.iconst (-1), 1) := by decide +kernel
theorem dX0_lookOut_36 : decode cX0_lookOut 36 = .ok (.istore 6, 2) := by decide +kernel
theorem dX0_lookOut_38 : decode cX0_lookOut 38 = .ok (.iconst 0, 1) := by decide +kernel
theorem dX0_lookOut_39 : decode cX0_lookOut 39 = .ok (.istore 7, 2) := by decide +kernel
theorem dX0_lookOut_41 : decode cX0_lookOut 41 = .ok (.iconst 0, 1) := by decide +kernel
theorem dX0_lookOut_42 : decode cX0_lookOut 42 = .ok (.istore 8, 2) := by decide +kernel
theorem dX0_lookOut_44 : decode cX0_lookOut 44 = .ok (.iconst 1, 1) := by decide +kernel
theorem dX0_lookOut_45 : decode cX0_lookOut 45 = .ok (.istore 9, 2) := by decide +kernel
theorem dX0_lookOut_47 : decode cX0_lookOut 47 = .ok (.iload 9, 2) := by decide +kernel
theorem dX0_lookOut_49 : decode cX0_lookOut 49 = .ok (.iload 5, 2) := by decide +kernel
theorem dX0_lookOut_51 : decode cX0_lookOut 51 = .ok (.if_icmp .gt 59, 3) := by decide +kernel
theorem dX0_lookOut_54 : decode cX0_lookOut 54 = .ok (.iload_n 3, 1) := by decide +kernel
theorem dX0_lookOut_55 : decode cX0_lookOut 55 = .ok (.iload_n 2, 1) := by decide +kernel
theorem dX0_lookOut_56 : decode cX0_lookOut 56 = .ok (.iload 9, 2) := by decide +kernel
theorem dX0_lookOut_58 : decode cX0_lookOut 58 = .ok (.imul, 1) := by decide +kernel
theorem dX0_lookOut_59 : decode cX0_lookOut 59 = .ok (.iadd, 1) := by decide +kernel
theorem dX0_lookOut_60 : decode cX0_lookOut 60 = .ok (.istore 10, 2) := by decide +kernel
theorem dX0_lookOut_62 : decode cX0_lookOut 62 = .ok (.aload_n 0, 1) := by decide +kernel
theorem dX0_lookOut_63 : decode cX0_lookOut 63 = .ok (.getfield 19, 3) := by decide +kernel
theorem dX0_lookOut_66 : decode cX0_lookOut 66 = .ok (.iload 10, 2) := by decide +kernel
theorem dX0_lookOut_68 : decode cX0_lookOut 68 = .ok (.iaload, 1) := by decide +kernel
theorem dX0_lookOut_69 : decode cX0_lookOut 69 = .ok (.iload 4, 2) := by decide +kernel
theorem dX0_lookOut_71 : decode cX0_lookOut 71 = .ok (.isub, 1) := by decide +kernel
theorem dX0_lookOut_72 : decode cX0_lookOut 72 = .ok (.istore 11, 2) := by decide +kernel
theorem dX0_lookOut_74 : decode cX0_lookOut 74 = .ok (.iload 6, 2) := by decide +kernel
theorem dX0_lookOut_76 : decode cX0_lookOut 76 = .ok (.iload 9, 2) := by decide +kernel
theorem dX0_lookOut_78 : decode cX0_lookOut 78 = .ok (.imul, 1) := by decide +kernel
theorem dX0_lookOut_79 : decode cX0_lookOut 79 = .ok (.iload 11, 2) := by decide +kernel
theorem dX0_lookOut_81 : decode cX0_lookOut 81 = .ok (.iload 7, 2) := by decide +kernel
theorem dX0_lookOut_83 : decode cX0_lookOut 83 = .ok (.imul, 1) := by decide +kernel
theorem dX0_lookOut_84 : decode cX0_lookOut 84 = .ok (.if_icmp .ge 20, 3) := by decide +kernel
theorem dX0_lookOut_87 : decode cX0_lookOut 87 = .ok (.iload 11, 2) := by decide +kernel
theorem dX0_lookOut_89 : decode cX0_lookOut 89 = .ok (.istore 6, 2) := by decide +kernel
theorem dX0_lookOut_91 : decode cX0_lookOut 91 = .ok (.iload 9, 2) := by decide +kernel
theorem dX0_lookOut_93 : decode cX0_lookOut 93 = .ok (.istore 7, 2) := by decide +kernel
theorem dX0_lookOut_95 : decode cX0_lookOut 95 = .ok (.iload 8, 2) := by decide +kernel
theorem dX0_lookOut_97 : decode cX0_lookOut 97 = .ok (.iconst 1, 1) := by decide +kernel
theorem dX0_lookOut_98 : decode cX0_lookOut 98 = .ok (.iload 10, 2) := by decide +kernel
theorem dX0_lookOut_100 : decode cX0_lookOut 100 = .ok (.ishl, 1) := by decide +kernel
theorem dX0_lookOut_101 : decode cX0_lookOut 101 = .ok (.ior, 1) := by decide +kernel
theorem dX0_lookOut_102 : decode cX0_lookOut 102 = .ok (.istore 8, 2) := by decide +kernel
theorem dX0_lookOut_104 : decode cX0_lookOut 104 = .ok (.iinc 9 1, 3) := by decide +kernel
theorem dX0_lookOut_107 : decode cX0_lookOut 107 = .ok (.goto (-60), 3) := by decide +kernel
theorem dX0_lookOut_110 : decode cX0_lookOut 110 = .ok (.iload 8, 2) := by decide +kernel
theorem dX0_lookOut_112 : decode cX0_lookOut 112 = .ok (.ireturn, 1) := by decide +kernel
theorem dX0_looksTowards_0 : decode cX0_looksTowards 0 = .ok (.aload_n 0, 1) := by decide +kernel
theorem dX0_looksTowards_1 : decode cX0_looksTowards 1 = .ok (.getfield 22, 3) := by decide +kernel
theorem dX0_looksTowards_4 : decode cX0_looksTowards 4 = .ok (.iload_n 1, 1) := by decide +kernel
theorem dX0_looksTowards_5 : decode cX0_looksTowards 5 = .ok (.iaload, 1) := by decide +kernel
theorem dX0_looksTowards_6 : decode cX0_looksTowards 6 = .ok (.istore_n 3, 1) := by decide +kernel
theorem dX0_looksTowards_7 : decode cX0_looksTowards 7 = .ok (.iload_n 2, 1) := by decide +kernel
theorem dX0_looksTowards_8 : decode cX0_looksTowards 8 = .ok (.iload_n 3, 1) := by decide +kernel
theorem dX0_looksTowards_9 : decode cX0_looksTowards 9 = .ok (.if_icmp .ge 7, 3) := by decide +kernel
theorem dX0_looksTowards_12 : decode cX0_looksTowards 12 = .ok (.iconst 1, 1) := by decide +kernel
theorem dX0_looksTowards_13 : decode cX0_looksTowards 13 = .ok (.goto 4, 3) := by decide +kernel
theorem dX0_looksTowards_16 : decode cX0_looksTowards 16 = .ok (.iconst 2, 1) := by decide +kernel
theorem dX0_looksTowards_17 : decode cX0_looksTowards 17 = .ok (.istore 4, 2) := by decide +kernel
theorem dX0_looksTowards_19 : decode cX0_looksTowards 19 = .ok (.iload_n 2, 1) := by decide +kernel
theorem dX0_looksTowards_20 : decode cX0_looksTowards 20 = .ok (.iload_n 3, 1) := by decide +kernel
theorem dX0_looksTowards_21 : decode cX0_looksTowards 21 = .ok (.if_icmp .eq 32, 3) := by decide +kernel
theorem dX0_looksTowards_24 : decode cX0_looksTowards 24 = .ok (.aload_n 0, 1) := by decide +kernel
theorem dX0_looksTowards_25 : decode cX0_looksTowards 25 = .ok (.getfield 28, 3) := by decide +kernel
theorem dX0_looksTowards_28 : decode cX0_looksTowards 28 = .ok (.iload_n 1, 1) := by decide +kernel
theorem dX0_looksTowards_29 : decode cX0_looksTowards 29 = .ok (.iaload, 1) := by decide +kernel
theorem dX0_looksTowards_30 : decode cX0_looksTowards 30 = .ok (.iload 4, 2) := by decide +kernel
theorem dX0_looksTowards_32 : decode cX0_looksTowards 32 = .ok (.iand, 1) := by decide +kernel
theorem dX0_looksTowards_33 : decode cX0_looksTowards 33 = .ok (.ifCond .eq 20, 3) := by decide +kernel
theorem dX0_looksTowards_36 : decode cX0_looksTowards 36 = .ok (.iload_n 2, 1) := by decide +kernel
theorem dX0_looksTowards_37 : decode cX0_looksTowards 37 = .ok (.iload_n 3, 1) := by decide +kernel
theorem dX0_looksTowards_38 : decode cX0_looksTowards 38 = .ok (.isub, 1) := by decide +kernel
theorem dX0_looksTowards_39 : decode cX0_looksTowards 39 = .ok (.invokestatic 100, 3) := by decide +kernel
theorem dX0_looksTowards_42 : decode cX0_looksTowards 42 = .ok (.aload_n 0, 1) := by decide +kernel
theorem dX0_looksTowards_43 : decode cX0_looksTowards 43 = .ok (.getfield 38, 3) := by decide +kernel
theorem dX0_looksTowards_46 : decode cX0_looksTowards 46 = .ok (.if_icmp .gt 7, 3) := by decide +kernel
theorem dX0_looksTowards_49 : decode cX0_looksTowards 49 = .ok (.iconst 1, 1) := by decide +kernel
theorem dX0_looksTowards_50 : decode cX0_looksTowards 50 = .ok (.goto 4, 3) := by decide +kernel
theorem dX0_looksTowards_53 : decode cX0_looksTowards 53 = .ok (.iconst 0, 1) := by decide +kernel
theorem dX0_looksTowards_54 : decode cX0_looksTowards 54 = .ok (.ireturn, 1) := by decide +kernel
theorem dX0_lower_0 : decode cX0_lower 0 = .ok (.aload_n 0, 1) := by decide +kernel
theorem dX0_lower_1 : decode cX0_lower 1 = .ok (.iload_n 1, 1) := by decide +kernel
theorem dX0_lower_2 : decode cX0_lower 2 = .ok (.iconst 0, 1) := by decide +kernel
theorem dX0_lower_3 : decode cX0_lower 3 = .ok (.aload_n 0, 1) := by decide +kernel
theorem dX0_lower_4 : decode cX0_lower 4 = .ok (.getfield 13, 3) := by decide +kernel
theorem dX0_lower_7 : decode cX0_lower 7 = .ok (.iload_n 1, 1) := by decide +kernel
theorem dX0_lower_8 : decode cX0_lower 8 = .ok (.iaload, 1) := by decide +kernel
theorem dX0_lower_9 : decode cX0_lower 9 = .ok (.iload_n 2, 1) := by decide +kernel
theorem dX0_lower_10 : decode cX0_lower 10 = .ok (.isub, 1) := by decide +kernel
theorem dX0_lower_11 : decode cX0_lower 11 = .ok (.invokestatic 60, 3) := by decide +kernel
theorem dX0_lower_14 : decode cX0_lower 14 = .ok (.invokevirtual 66, 3) := by decide +kernel
theorem dX0_lower_17 : decode cX0_lower 17 = .ok (.return_, 1) := by decide +kernel
theorem dX0_place_0 : decode cX0_place 0 = .ok (.aload_n 0, 1) := by decide +kernel
theorem dX0_place_1 : decode cX0_place 1 = .ok (.getfield 9, 3) := by decide +kernel
theorem dX0_place_4 : decode cX0_place 4 = .ok (.iload_n 1, 1) := by decide +kernel
theorem dX0_place_5 : decode cX0_place 5 = .ok (.iload_n 2, 1) := by decide +kernel
theorem dX0_place_6 : decode cX0_place 6 = .ok (.iastore, 1) := by decide +kernel
theorem dX0_place_7 : decode cX0_place 7 = .ok (.aload_n 0, 1) := by decide +kernel
theorem dX0_place_8 : decode cX0_place 8 = .ok (.getfield 16, 3) := by decide +kernel
theorem dX0_place_11 : decode cX0_place 11 = .ok (.iload_n 1, 1) := by decide +kernel
theorem dX0_place_12 : decode cX0_place 12 = .ok (.iconst 0, 1) := by decide +kernel
theorem dX0_place_13 : decode cX0_place 13 = .ok (.iastore, 1) := by decide +kernel
theorem dX0_place_14 : decode cX0_place 14 = .ok (.aload_n 0, 1) := by decide +kernel
theorem dX0_place_15 : decode cX0_place 15 = .ok (.iload_n 1, 1) := by decide +kernel
theorem dX0_place_16 : decode cX0_place 16 = .ok (.invokevirtual 56, 3) := by decide +kernel
theorem dX0_place_19 : decode cX0_place 19 = .ok (.return_, 1) := by decide +kernel
theorem dX0_raiseTo_0 : decode cX0_raiseTo 0 = .ok (.aload_n 0, 1) := by decide +kernel
theorem dX0_raiseTo_1 : decode cX0_raiseTo 1 = .ok (.getfield 13, 3) := by decide +kernel
theorem dX0_raiseTo_4 : decode cX0_raiseTo 4 = .ok (.iload_n 1, 1) := by decide +kernel
theorem dX0_raiseTo_5 : decode cX0_raiseTo 5 = .ok (.iload_n 2, 1) := by decide +kernel
theorem dX0_raiseTo_6 : decode cX0_raiseTo 6 = .ok (.iastore, 1) := by decide +kernel
theorem dX0_raiseTo_7 : decode cX0_raiseTo 7 = .ok (.aload_n 0, 1) := by decide +kernel
theorem dX0_raiseTo_8 : decode cX0_raiseTo 8 = .ok (.iload_n 1, 1) := by decide +kernel
theorem dX0_raiseTo_9 : decode cX0_raiseTo 9 = .ok (.invokevirtual 56, 3) := by decide +kernel
theorem dX0_raiseTo_12 : decode cX0_raiseTo 12 = .ok (.return_, 1) := by decide +kernel
theorem dX0_renewTop_0 : decode cX0_renewTop 0 = .ok (.aload_n 0, 1) := by decide +kernel
theorem dX0_renewTop_1 : decode cX0_renewTop 1 = .ok (.getfield 19, 3) := by decide +kernel
theorem dX0_renewTop_4 : decode cX0_renewTop 4 = .ok (.iload_n 1, 1) := by decide +kernel
theorem dX0_renewTop_5 : decode cX0_renewTop 5 = .ok (.aload_n 0, 1) := by decide +kernel
theorem dX0_renewTop_6 : decode cX0_renewTop 6 = .ok (.getfield 9, 3) := by decide +kernel
theorem dX0_renewTop_9 : decode cX0_renewTop 9 = .ok (.iload_n 1, 1) := by decide +kernel
theorem dX0_renewTop_10 : decode cX0_renewTop 10 = .ok (.iaload, 1) := by decide +kernel
theorem dX0_renewTop_11 : decode cX0_renewTop 11 = .ok (.aload_n 0, 1) := by decide +kernel
theorem dX0_renewTop_12 : decode cX0_renewTop 12 = .ok (.getfield 13, 3) := by decide +kernel
theorem dX0_renewTop_15 : decode cX0_renewTop 15 = .ok (.iload_n 1, 1) := by decide +kernel
theorem dX0_renewTop_16 : decode cX0_renewTop 16 = .ok (.iaload, 1) := by decide +kernel
theorem dX0_renewTop_17 : decode cX0_renewTop 17 = .ok (.aload_n 0, 1) := by decide +kernel
theorem dX0_renewTop_18 : decode cX0_renewTop 18 = .ok (.getfield 16, 3) := by decide +kernel
theorem dX0_renewTop_21 : decode cX0_renewTop 21 = .ok (.iload_n 1, 1) := by decide +kernel
theorem dX0_renewTop_22 : decode cX0_renewTop 22 = .ok (.iaload, 1) := by decide +kernel
theorem dX0_renewTop_23 : decode cX0_renewTop 23 = .ok (.invokestatic 76, 3) := by decide +kernel
theorem dX0_renewTop_26 : decode cX0_renewTop 26 = .ok (.iastore, 1) := by decide +kernel
theorem dX0_renewTop_27 : decode cX0_renewTop 27 = .ok (.return_, 1) := by decide +kernel
theorem dX0_sightOf_0 : decode cX0_sightOf 0 = .ok (.iconst 1, 1) := by decide +kernel
theorem dX0_sightOf_1 : decode cX0_sightOf 1 = .ok (.aload_n 0, 1) := by decide +kernel
theorem dX0_sightOf_2 : decode cX0_sightOf 2 = .ok (.getfield 22, 3) := by decide +kernel
theorem dX0_sightOf_5 : decode cX0_sightOf 5 = .ok (.iload_n 1, 1) := by decide +kernel
theorem dX0_sightOf_6 : decode cX0_sightOf 6 = .ok (.iaload, 1) := by decide +kernel
theorem dX0_sightOf_7 : decode cX0_sightOf 7 = .ok (.ishl, 1) := by decide +kernel
theorem dX0_sightOf_8 : decode cX0_sightOf 8 = .ok (.istore_n 2, 1) := by decide +kernel
theorem dX0_sightOf_9 : decode cX0_sightOf 9 = .ok (.aload_n 0, 1) := by decide +kernel
theorem dX0_sightOf_10 : decode cX0_sightOf 10 = .ok (.getfield 28, 3) := by decide +kernel
theorem dX0_sightOf_13 : decode cX0_sightOf 13 = .ok (.iload_n 1, 1) := by decide +kernel
theorem dX0_sightOf_14 : decode cX0_sightOf 14 = .ok (.iaload, 1) := by decide +kernel
theorem dX0_sightOf_15 : decode cX0_sightOf 15 = .ok (.iconst 1, 1) := by decide +kernel
theorem dX0_sightOf_16 : decode cX0_sightOf 16 = .ok (.iand, 1) := by decide +kernel
theorem dX0_sightOf_17 : decode cX0_sightOf 17 = .ok (.ifCond .eq 12, 3) := by decide +kernel
theorem dX0_sightOf_20 : decode cX0_sightOf 20 = .ok (.iload_n 2, 1) := by decide +kernel
theorem dX0_sightOf_21 : decode cX0_sightOf 21 = .ok (.aload_n 0, 1) := by decide +kernel
theorem dX0_sightOf_22 : decode cX0_sightOf 22 = .ok (.iload_n 1, 1) := by decide +kernel
theorem dX0_sightOf_23 : decode cX0_sightOf 23 = .ok (.iconst (-1), 1) := by decide +kernel
theorem dX0_sightOf_24 : decode cX0_sightOf 24 = .ok (.invokevirtual 86, 3) := by decide +kernel
theorem dX0_sightOf_27 : decode cX0_sightOf 27 = .ok (.ior, 1) := by decide +kernel
theorem dX0_sightOf_28 : decode cX0_sightOf 28 = .ok (.istore_n 2, 1) := by decide +kernel
theorem dX0_sightOf_29 : decode cX0_sightOf 29 = .ok (.aload_n 0, 1) := by decide +kernel
theorem dX0_sightOf_30 : decode cX0_sightOf 30 = .ok (.getfield 28, 3) := by decide +kernel
theorem dX0_sightOf_33 : decode cX0_sightOf 33 = .ok (.iload_n 1, 1) := by decide +kernel
theorem dX0_sightOf_34 : decode cX0_sightOf 34 = .ok (.iaload, 1) := by decide +kernel
theorem dX0_sightOf_35 : decode cX0_sightOf 35 = .ok (.iconst 2, 1) := by decide +kernel
theorem dX0_sightOf_36 : decode cX0_sightOf 36 = .ok (.iand, 1) := by decide +kernel
theorem dX0_sightOf_37 : decode cX0_sightOf 37 = .ok (.ifCond .eq 12, 3) := by decide +kernel
theorem dX0_sightOf_40 : decode cX0_sightOf 40 = .ok (.iload_n 2, 1) := by decide +kernel
theorem dX0_sightOf_41 : decode cX0_sightOf 41 = .ok (.aload_n 0, 1) := by decide +kernel
theorem dX0_sightOf_42 : decode cX0_sightOf 42 = .ok (.iload_n 1, 1) := by decide +kernel
theorem dX0_sightOf_43 : decode cX0_sightOf 43 = .ok (.iconst 1, 1) := by decide +kernel
theorem dX0_sightOf_44 : decode cX0_sightOf 44 = .ok (.invokevirtual 86, 3) := by decide +kernel
theorem dX0_sightOf_47 : decode cX0_sightOf 47 = .ok (.ior, 1) := by decide +kernel
theorem dX0_sightOf_48 : decode cX0_sightOf 48 = .ok (.istore_n 2, 1) := by decide +kernel
theorem dX0_sightOf_49 : decode cX0_sightOf 49 = .ok (.iload_n 2, 1) := by decide +kernel
theorem dX0_sightOf_50 : decode cX0_sightOf 50 = .ok (.ireturn, 1) := by decide +kernel
theorem dX0_spotsInUse_0 : decode cX0_spotsInUse 0 = .ok (.iconst 0, 1) := by decide +kernel
theorem dX0_spotsInUse_1 : decode cX0_spotsInUse 1 = .ok (.istore_n 1, 1) := by decide +kernel
theorem dX0_spotsInUse_2 : decode cX0_spotsInUse 2 = .ok (.iconst 0, 1) := by decide +kernel
theorem dX0_spotsInUse_3 : decode cX0_spotsInUse 3 = .ok (.istore_n 2, 1) := by decide +kernel
theorem dX0_spotsInUse_4 : decode cX0_spotsInUse 4 = .ok (.iload_n 2, 1) := by decide +kernel
theorem dX0_spotsInUse_5 : decode cX0_spotsInUse 5 = .ok (.bipush 10, 2) := by decide +kernel
theorem dX0_spotsInUse_7 : decode cX0_spotsInUse 7 = .ok (.if_icmp .ge 22, 3) := by decide +kernel
theorem dX0_spotsInUse_10 : decode cX0_spotsInUse 10 = .ok (.aload_n 0, 1) := by decide +kernel
theorem dX0_spotsInUse_11 : decode cX0_spotsInUse 11 = .ok (.getfield 31, 3) := by decide +kernel
theorem dX0_spotsInUse_14 : decode cX0_spotsInUse 14 = .ok (.iload_n 2, 1) := by decide +kernel
theorem dX0_spotsInUse_15 : decode cX0_spotsInUse 15 = .ok (.iaload, 1) := by decide +kernel
theorem dX0_spotsInUse_16 : decode cX0_spotsInUse 16 = .ok (.iconst (-1), 1) := by decide +kernel
theorem dX0_spotsInUse_17 : decode cX0_spotsInUse 17 = .ok (.if_icmp .eq 6, 3) := by decide +kernel
theorem dX0_spotsInUse_20 : decode cX0_spotsInUse 20 = .ok (.iinc 1 1, 3) := by decide +kernel
theorem dX0_spotsInUse_23 : decode cX0_spotsInUse 23 = .ok (.iinc 2 1, 3) := by decide +kernel
theorem dX0_spotsInUse_26 : decode cX0_spotsInUse 26 = .ok (.goto (-22), 3) := by decide +kernel
theorem dX0_spotsInUse_29 : decode cX0_spotsInUse 29 = .ok (.iload_n 1, 1) := by decide +kernel
theorem dX0_spotsInUse_30 : decode cX0_spotsInUse 30 = .ok (.ireturn, 1) := by decide +kernel
theorem dX0_takeAll_0 : decode cX0_takeAll 0 = .ok (.aload_n 1, 1) := by decide +kernel
theorem dX0_takeAll_1 : decode cX0_takeAll 1 = .ok (.getfield 9, 3) := by decide +kernel
theorem dX0_takeAll_4 : decode cX0_takeAll 4 = .ok (.iconst 0, 1) := by decide +kernel
theorem dX0_takeAll_5 : decode cX0_takeAll 5 = .ok (.aload_n 0, 1) := by decide +kernel
theorem dX0_takeAll_6 : decode cX0_takeAll 6 = .ok (.getfield 9, 3) := by decide +kernel
theorem dX0_takeAll_9 : decode cX0_takeAll 9 = .ok (.iconst 0, 1) := by decide +kernel
theorem dX0_takeAll_10 : decode cX0_takeAll 10 = .ok (.bipush 24, 2) := by decide +kernel
theorem dX0_takeAll_12 : decode cX0_takeAll 12 = .ok (.invokestatic 50, 3) := by decide +kernel
theorem dX0_takeAll_15 : decode cX0_takeAll 15 = .ok (.aload_n 1, 1) := by decide +kernel
theorem dX0_takeAll_16 : decode cX0_takeAll 16 = .ok (.getfield 13, 3) := by decide +kernel
theorem dX0_takeAll_19 : decode cX0_takeAll 19 = .ok (.iconst 0, 1) := by decide +kernel
theorem dX0_takeAll_20 : decode cX0_takeAll 20 = .ok (.aload_n 0, 1) := by decide +kernel
theorem dX0_takeAll_21 : decode cX0_takeAll 21 = .ok (.getfield 13, 3) := by decide +kernel
theorem dX0_takeAll_24 : decode cX0_takeAll 24 = .ok (.iconst 0, 1) := by decide +kernel
theorem dX0_takeAll_25 : decode cX0_takeAll 25 = .ok (.bipush 24, 2) := by decide +kernel
theorem dX0_takeAll_27 : decode cX0_takeAll 27 = .ok (.invokestatic 50, 3) := by decide +kernel
theorem dX0_takeAll_30 : decode cX0_takeAll 30 = .ok (.aload_n 1, 1) := by decide +kernel
theorem dX0_takeAll_31 : decode cX0_takeAll 31 = .ok (.getfield 16, 3) := by decide +kernel
theorem dX0_takeAll_34 : decode cX0_takeAll 34 = .ok (.iconst 0, 1) := by decide +kernel
theorem dX0_takeAll_35 : decode cX0_takeAll 35 = .ok (.aload_n 0, 1) := by decide +kernel
theorem dX0_takeAll_36 : decode cX0_takeAll 36 = .ok (.getfield 16, 3) := by decide +kernel
theorem dX0_takeAll_39 : decode cX0_takeAll 39 = .ok (.iconst 0, 1) := by decide +kernel
theorem dX0_takeAll_40 : decode cX0_takeAll 40 = .ok (.bipush 24, 2) := by decide +kernel
theorem dX0_takeAll_42 : decode cX0_takeAll 42 = .ok (.invokestatic 50, 3) := by decide +kernel
theorem dX0_takeAll_45 : decode cX0_takeAll 45 = .ok (.aload_n 1, 1) := by decide +kernel
theorem dX0_takeAll_46 : decode cX0_takeAll 46 = .ok (.getfield 19, 3) := by decide +kernel
theorem dX0_takeAll_49 : decode cX0_takeAll 49 = .ok (.iconst 0, 1) := by decide +kernel
theorem dX0_takeAll_50 : decode cX0_takeAll 50 = .ok (.aload_n 0, 1) := by decide +kernel
theorem dX0_takeAll_51 : decode cX0_takeAll 51 = .ok (.getfield 19, 3) := by decide +kernel
theorem dX0_takeAll_54 : decode cX0_takeAll 54 = .ok (.iconst 0, 1) := by decide +kernel
theorem dX0_takeAll_55 : decode cX0_takeAll 55 = .ok (.bipush 24, 2) := by decide +kernel
theorem dX0_takeAll_57 : decode cX0_takeAll 57 = .ok (.invokestatic 50, 3) := by decide +kernel
theorem dX0_takeAll_60 : decode cX0_takeAll 60 = .ok (.aload_n 1, 1) := by decide +kernel
theorem dX0_takeAll_61 : decode cX0_takeAll 61 = .ok (.getfield 22, 3) := by decide +kernel
theorem dX0_takeAll_64 : decode cX0_takeAll 64 = .ok (.iconst 0, 1) := by decide +kernel
theorem dX0_takeAll_65 : decode cX0_takeAll 65 = .ok (.aload_n 0, 1) := by decide +kernel
theorem dX0_takeAll_66 : decode cX0_takeAll 66 = .ok (.getfield 22, 3) := by decide +kernel
theorem dX0_takeAll_69 : decode cX0_takeAll 69 = .ok (.iconst 0, 1) := by decide +kernel
theorem dX0_takeAll_70 : decode cX0_takeAll 70 = .ok (.bipush 8, 2) := by decide +kernel
theorem dX0_takeAll_72 : decode cX0_takeAll 72 = .ok (.invokestatic 50, 3) := by decide +kernel
theorem dX0_takeAll_75 : decode cX0_takeAll 75 = .ok (.aload_n 1, 1) := by decide +kernel
theorem dX0_takeAll_76 : decode cX0_takeAll 76 = .ok (.getfield 25, 3) := by decide +kernel
theorem dX0_takeAll_79 : decode cX0_takeAll 79 = .ok (.iconst 0, 1) := by decide +kernel
theorem dX0_takeAll_80 : decode cX0_takeAll 80 = .ok (.aload_n 0, 1) := by decide +kernel
theorem dX0_takeAll_81 : decode cX0_takeAll 81 = .ok (.getfield 25, 3) := by decide +kernel
theorem dX0_takeAll_84 : decode cX0_takeAll 84 = .ok (.iconst 0, 1) := by decide +kernel
theorem dX0_takeAll_85 : decode cX0_takeAll 85 = .ok (.bipush 8, 2) := by decide +kernel
theorem dX0_takeAll_87 : decode cX0_takeAll 87 = .ok (.invokestatic 50, 3) := by decide +kernel
theorem dX0_takeAll_90 : decode cX0_takeAll 90 = .ok (.aload_n 1, 1) := by decide +kernel
theorem dX0_takeAll_91 : decode cX0_takeAll 91 = .ok (.getfield 28, 3) := by decide +kernel
theorem dX0_takeAll_94 : decode cX0_takeAll 94 = .ok (.iconst 0, 1) := by decide +kernel
theorem dX0_takeAll_95 : decode cX0_takeAll 95 = .ok (.aload_n 0, 1) := by decide +kernel
theorem dX0_takeAll_96 : decode cX0_takeAll 96 = .ok (.getfield 28, 3) := by decide +kernel
theorem dX0_takeAll_99 : decode cX0_takeAll 99 = .ok (.iconst 0, 1) := by decide +kernel
theorem dX0_takeAll_100 : decode cX0_takeAll 100 = .ok (.bipush 8, 2) := by decide +kernel
theorem dX0_takeAll_102 : decode cX0_takeAll 102 = .ok (.invokestatic 50, 3) := by decide +kernel
theorem dX0_takeAll_105 : decode cX0_takeAll 105 = .ok (.aload_n 1, 1) := by decide +kernel
theorem dX0_takeAll_106 : decode cX0_takeAll 106 = .ok (.getfield 31, 3) := by decide +kernel
theorem dX0_takeAll_109 : decode cX0_takeAll 109 = .ok (.iconst 0, 1) := by decide +kernel
theorem dX0_takeAll_110 : decode cX0_takeAll 110 = .ok (.aload_n 0, 1) := by decide +kernel
theorem dX0_takeAll_111 : decode cX0_takeAll 111 = .ok (.getfield 31, 3) := by decide +kernel
theorem dX0_takeAll_114 : decode cX0_takeAll 114 = .ok (.iconst 0, 1) := by decide +kernel
theorem dX0_takeAll_115 : decode cX0_takeAll 115 = .ok (.bipush 10, 2) := by decide +kernel
theorem dX0_takeAll_117 : decode cX0_takeAll 117 = .ok (.invokestatic 50, 3) := by decide +kernel
theorem dX0_takeAll_120 : decode cX0_takeAll 120 = .ok (.aload_n 0, 1) := by decide +kernel
theorem dX0_takeAll_121 : decode cX0_takeAll 121 = .ok (.aload_n 1, 1) := by decide +kernel
theorem dX0_takeAll_122 : decode cX0_takeAll 122 = .ok (.getfield 34, 3) := by decide +kernel
theorem dX0_takeAll_125 : decode cX0_takeAll 125 = .ok (.putfield 34, 3) := by decide +kernel
theorem dX0_takeAll_128 : decode cX0_takeAll 128 = .ok (.aload_n 0, 1) := by decide +kernel
theorem dX0_takeAll_129 : decode cX0_takeAll 129 = .ok (.aload_n 1, 1) := by decide +kernel
theorem dX0_takeAll_130 : decode cX0_takeAll 130 = .ok (.getfield 38, 3) := by decide +kernel
theorem dX0_takeAll_133 : decode cX0_takeAll 133 = .ok (.putfield 38, 3) := by decide +kernel
theorem dX0_takeAll_136 : decode cX0_takeAll 136 = .ok (.aload_n 0, 1) := by decide +kernel
theorem dX0_takeAll_137 : decode cX0_takeAll 137 = .ok (.aload_n 1, 1) := by decide +kernel
theorem dX0_takeAll_138 : decode cX0_takeAll 138 = .ok (.getfield 41, 3) := by decide +kernel
theorem dX0_takeAll_141 : decode cX0_takeAll 141 = .ok (.putfield 41, 3) := by decide +kernel
theorem dX0_takeAll_144 : decode cX0_takeAll 144 = .ok (.aload_n 0, 1) := by decide +kernel
theorem dX0_takeAll_145 : decode cX0_takeAll 145 = .ok (.aload_n 1, 1) := by decide +kernel
theorem dX0_takeAll_146 : decode cX0_takeAll 146 = .ok (.getfield 44, 3) := by decide +kernel
theorem dX0_takeAll_149 : decode cX0_takeAll 149 = .ok (.putfield 44, 3) := by decide +kernel
theorem dX0_takeAll_152 : decode cX0_takeAll 152 = .ok (.aload_n 0, 1) := by decide +kernel
theorem dX0_takeAll_153 : decode cX0_takeAll 153 = .ok (.aload_n 1, 1) := by decide +kernel
theorem dX0_takeAll_154 : decode cX0_takeAll 154 = .ok (.getfield 47, 3) := by decide +kernel
theorem dX0_takeAll_157 : decode cX0_takeAll 157 = .ok (.putfield 47, 3) := by decide +kernel
theorem dX0_takeAll_160 : decode cX0_takeAll 160 = .ok (.return_, 1) := by decide +kernel
theorem dX0_takeCell_0 : decode cX0_takeCell 0 = .ok (.aload_n 0, 1) := by decide +kernel
theorem dX0_takeCell_1 : decode cX0_takeCell 1 = .ok (.getfield 9, 3) := by decide +kernel
theorem dX0_takeCell_4 : decode cX0_takeCell 4 = .ok (.iload_n 2, 1) := by decide +kernel
theorem dX0_takeCell_5 : decode cX0_takeCell 5 = .ok (.aload_n 1, 1) := by decide +kernel
theorem dX0_takeCell_6 : decode cX0_takeCell 6 = .ok (.getfield 9, 3) := by decide +kernel
theorem dX0_takeCell_9 : decode cX0_takeCell 9 = .ok (.iload_n 2, 1) := by decide +kernel
theorem dX0_takeCell_10 : decode cX0_takeCell 10 = .ok (.iaload, 1) := by decide +kernel
theorem dX0_takeCell_11 : decode cX0_takeCell 11 = .ok (.iastore, 1) := by decide +kernel
theorem dX0_takeCell_12 : decode cX0_takeCell 12 = .ok (.aload_n 0, 1) := by decide +kernel
theorem dX0_takeCell_13 : decode cX0_takeCell 13 = .ok (.getfield 13, 3) := by decide +kernel
theorem dX0_takeCell_16 : decode cX0_takeCell 16 = .ok (.iload_n 2, 1) := by decide +kernel
theorem dX0_takeCell_17 : decode cX0_takeCell 17 = .ok (.aload_n 1, 1) := by decide +kernel
theorem dX0_takeCell_18 : decode cX0_takeCell 18 = .ok (.getfield 13, 3) := by decide +kernel
theorem dX0_takeCell_21 : decode cX0_takeCell 21 = .ok (.iload_n 2, 1) := by decide +kernel
theorem dX0_takeCell_22 : decode cX0_takeCell 22 = .ok (.iaload, 1) := by decide +kernel
theorem dX0_takeCell_23 : decode cX0_takeCell 23 = .ok (.iastore, 1) := by decide +kernel
theorem dX0_takeCell_24 : decode cX0_takeCell 24 = .ok (.aload_n 0, 1) := by decide +kernel
theorem dX0_takeCell_25 : decode cX0_takeCell 25 = .ok (.getfield 16, 3) := by decide +kernel
theorem dX0_takeCell_28 : decode cX0_takeCell 28 = .ok (.iload_n 2, 1) := by decide +kernel
theorem dX0_takeCell_29 : decode cX0_takeCell 29 = .ok (.aload_n 1, 1) := by decide +kernel
theorem dX0_takeCell_30 : decode cX0_takeCell 30 = .ok (.getfield 16, 3) := by decide +kernel
theorem dX0_takeCell_33 : decode cX0_takeCell 33 = .ok (.iload_n 2, 1) := by decide +kernel
theorem dX0_takeCell_34 : decode cX0_takeCell 34 = .ok (.iaload, 1) := by decide +kernel
theorem dX0_takeCell_35 : decode cX0_takeCell 35 = .ok (.iastore, 1) := by decide +kernel
theorem dX0_takeCell_36 : decode cX0_takeCell 36 = .ok (.aload_n 0, 1) := by decide +kernel
theorem dX0_takeCell_37 : decode cX0_takeCell 37 = .ok (.getfield 19, 3) := by decide +kernel
theorem dX0_takeCell_40 : decode cX0_takeCell 40 = .ok (.iload_n 2, 1) := by decide +kernel
theorem dX0_takeCell_41 : decode cX0_takeCell 41 = .ok (.aload_n 1, 1) := by decide +kernel
theorem dX0_takeCell_42 : decode cX0_takeCell 42 = .ok (.getfield 19, 3) := by decide +kernel
theorem dX0_takeCell_45 : decode cX0_takeCell 45 = .ok (.iload_n 2, 1) := by decide +kernel
theorem dX0_takeCell_46 : decode cX0_takeCell 46 = .ok (.iaload, 1) := by decide +kernel
theorem dX0_takeCell_47 : decode cX0_takeCell 47 = .ok (.iastore, 1) := by decide +kernel
theorem dX0_takeCell_48 : decode cX0_takeCell 48 = .ok (.return_, 1) := by decide +kernel
theorem dX0_taxFor_0 : decode cX0_taxFor 0 = .ok (.iload_n 0, 1) := by decide +kernel
theorem dX0_taxFor_1 : decode cX0_taxFor 1 = .ok (.iload_n 1, 1) := by decide +kernel
theorem dX0_taxFor_2 : decode cX0_taxFor 2 = .ok (.imul, 1) := by decide +kernel
theorem dX0_taxFor_3 : decode cX0_taxFor 3 = .ok (.bipush 10, 2) := by decide +kernel
theorem dX0_taxFor_5 : decode cX0_taxFor 5 = .ok (.idiv, 1) := by decide +kernel
theorem dX0_taxFor_6 : decode cX0_taxFor 6 = .ok (.ireturn, 1) := by decide +kernel
theorem dX0_taxOf_0 : decode cX0_taxOf 0 = .ok (.aload_n 0, 1) := by decide +kernel
theorem dX0_taxOf_1 : decode cX0_taxOf 1 = .ok (.iload_n 1, 1) := by decide +kernel
theorem dX0_taxOf_2 : decode cX0_taxOf 2 = .ok (.invokevirtual 106, 3) := by decide +kernel
theorem dX0_taxOf_5 : decode cX0_taxOf 5 = .ok (.aload_n 0, 1) := by decide +kernel
theorem dX0_taxOf_6 : decode cX0_taxOf 6 = .ok (.getfield 41, 3) := by decide +kernel
theorem dX0_taxOf_9 : decode cX0_taxOf 9 = .ok (.invokestatic 109, 3) := by decide +kernel
theorem dX0_taxOf_12 : decode cX0_taxOf 12 = .ok (.ireturn, 1) := by decide +kernel
theorem dX0_topFor_0 : decode cX0_topFor 0 = .ok (.iload_n 0, 1) := by decide +kernel
theorem dX0_topFor_1 : decode cX0_topFor 1 = .ok (.tableswitch 59 3 6 #[31, 33, 37, 46], 31) := by decide +kernel
theorem dX0_topFor_32 : decode cX0_topFor 32 = .ok (.iconst 0, 1) := by decide +kernel
theorem dX0_topFor_33 : decode cX0_topFor 33 = .ok (.ireturn, 1) := by decide +kernel
theorem dX0_topFor_34 : decode cX0_topFor 34 = .ok (.iload_n 1, 1) := by decide +kernel
theorem dX0_topFor_35 : decode cX0_topFor 35 = .ok (.iconst 5, 1) := by decide +kernel
theorem dX0_topFor_36 : decode cX0_topFor 36 = .ok (.iadd, 1) := by decide +kernel
theorem dX0_topFor_37 : decode cX0_topFor 37 = .ok (.ireturn, 1) := by decide +kernel
theorem dX0_topFor_38 : decode cX0_topFor 38 = .ok (.iload_n 1, 1) := by decide +kernel
theorem dX0_topFor_39 : decode cX0_topFor 39 = .ok (.iload_n 2, 1) := by decide +kernel
theorem dX0_topFor_40 : decode cX0_topFor 40 = .ok (.bipush 30, 2) := by decide +kernel
theorem dX0_topFor_42 : decode cX0_topFor 42 = .ok (.invokestatic 70, 3) := by decide +kernel
theorem dX0_topFor_45 : decode cX0_topFor 45 = .ok (.iadd, 1) := by decide +kernel
theorem dX0_topFor_46 : decode cX0_topFor 46 = .ok (.ireturn, 1) := by decide +kernel
theorem dX0_topFor_47 : decode cX0_topFor 47 = .ok (.iload_n 1, 1) := by decide +kernel
theorem dX0_topFor_48 : decode cX0_topFor 48 = .ok (.iload_n 2, 1) := by decide +kernel
theorem dX0_topFor_49 : decode cX0_topFor 49 = .ok (.bipush 30, 2) := by decide +kernel
theorem dX0_topFor_51 : decode cX0_topFor 51 = .ok (.invokestatic 70, 3) := by decide +kernel
theorem dX0_topFor_54 : decode cX0_topFor 54 = .ok (.iadd, 1) := by decide +kernel
theorem dX0_topFor_55 : decode cX0_topFor 55 = .ok (.iload_n 2, 1) := by decide +kernel
theorem dX0_topFor_56 : decode cX0_topFor 56 = .ok (.iconst 2, 1) := by decide +kernel
theorem dX0_topFor_57 : decode cX0_topFor 57 = .ok (.idiv, 1) := by decide +kernel
theorem dX0_topFor_58 : decode cX0_topFor 58 = .ok (.iadd, 1) := by decide +kernel
theorem dX0_topFor_59 : decode cX0_topFor 59 = .ok (.ireturn, 1) := by decide +kernel
theorem dX0_topFor_60 : decode cX0_topFor 60 = .ok (.iload_n 1, 1) := by decide +kernel
theorem dX0_topFor_61 : decode cX0_topFor 61 = .ok (.ireturn, 1) := by decide +kernel
theorem dX0_turnInto_0 : decode cX0_turnInto 0 = .ok (.aload_n 0, 1) := by decide +kernel
theorem dX0_turnInto_1 : decode cX0_turnInto 1 = .ok (.getfield 9, 3) := by decide +kernel
theorem dX0_turnInto_4 : decode cX0_turnInto 4 = .ok (.iload_n 1, 1) := by decide +kernel
theorem dX0_turnInto_5 : decode cX0_turnInto 5 = .ok (.iload_n 2, 1) := by decide +kernel
theorem dX0_turnInto_6 : decode cX0_turnInto 6 = .ok (.iastore, 1) := by decide +kernel
theorem dX0_turnInto_7 : decode cX0_turnInto 7 = .ok (.aload_n 0, 1) := by decide +kernel
theorem dX0_turnInto_8 : decode cX0_turnInto 8 = .ok (.iload_n 1, 1) := by decide +kernel
theorem dX0_turnInto_9 : decode cX0_turnInto 9 = .ok (.invokevirtual 56, 3) := by decide +kernel
theorem dX0_turnInto_12 : decode cX0_turnInto 12 = .ok (.return_, 1) := by decide +kernel
theorem dX0_worthOf_0 : decode cX0_worthOf 0 = .ok (.getstatic 80, 3) := by decide +kernel
theorem dX0_worthOf_3 : decode cX0_worthOf 3 = .ok (.aload_n 0, 1) := by decide +kernel
theorem dX0_worthOf_4 : decode cX0_worthOf 4 = .ok (.getfield 9, 3) := by decide +kernel
theorem dX0_worthOf_7 : decode cX0_worthOf 7 = .ok (.iload_n 1, 1) := by decide +kernel
theorem dX0_worthOf_8 : decode cX0_worthOf 8 = .ok (.iaload, 1) := by decide +kernel
theorem dX0_worthOf_9 : decode cX0_worthOf 9 = .ok (.iaload, 1) := by decide +kernel
theorem dX0_worthOf_10 : decode cX0_worthOf 10 = .ok (.ireturn, 1) := by decide +kernel
theorem dX0_worthSeenBy_0 : decode cX0_worthSeenBy 0 = .ok (.aload_n 0, 1) := by decide +kernel
theorem dX0_worthSeenBy_1 : decode cX0_worthSeenBy 1 = .ok (.iload_n 1, 1) := by decide +kernel
theorem dX0_worthSeenBy_2 : decode cX0_worthSeenBy 2 = .ok (.invokevirtual 93, 3) := by decide +kernel
theorem dX0_worthSeenBy_5 : decode cX0_worthSeenBy 5 = .ok (.iconst 1, 1) := by decide +kernel
theorem dX0_worthSeenBy_6 : decode cX0_worthSeenBy 6 = .ok (.aload_n 0, 1) := by decide +kernel
theorem dX0_worthSeenBy_7 : decode cX0_worthSeenBy 7 = .ok (.getfield 22, 3) := by decide +kernel
theorem dX0_worthSeenBy_10 : decode cX0_worthSeenBy 10 = .ok (.iload_n 1, 1) := by decide +kernel
theorem dX0_worthSeenBy_11 : decode cX0_worthSeenBy 11 = .ok (.iaload, 1) := by decide +kernel
theorem dX0_worthSeenBy_12 : decode cX0_worthSeenBy 12 = .ok (.ishl, 1) := by decide +kernel
theorem dX0_worthSeenBy_13 : decode cX0_worthSeenBy 13 = .ok (.iconst (-1), 1) := by decide +kernel
theorem dX0_worthSeenBy_14 : decode cX0_worthSeenBy 14 = .ok (.ixor, 1) := by decide +kernel
theorem dX0_worthSeenBy_15 : decode cX0_worthSeenBy 15 = .ok (.iand, 1) := by decide +kernel
theorem dX0_worthSeenBy_16 : decode cX0_worthSeenBy 16 = .ok (.istore_n 2, 1) := by decide +kernel
theorem dX0_worthSeenBy_17 : decode cX0_worthSeenBy 17 = .ok (.iconst 0, 1) := by decide +kernel
theorem dX0_worthSeenBy_18 : decode cX0_worthSeenBy 18 = .ok (.istore_n 3, 1) := by decide +kernel
theorem dX0_worthSeenBy_19 : decode cX0_worthSeenBy 19 = .ok (.iconst 0, 1) := by decide +kernel
theorem dX0_worthSeenBy_20 : decode cX0_worthSeenBy 20 = .ok (.istore 4, 2) := by decide +kernel
theorem dX0_worthSeenBy_22 : decode cX0_worthSeenBy 22 = .ok (.iload 4, 2) := by decide +kernel
theorem dX0_worthSeenBy_24 : decode cX0_worthSeenBy 24 = .ok (.bipush 24, 2) := by decide +kernel
theorem dX0_worthSeenBy_26 : decode cX0_worthSeenBy 26 = .ok (.if_icmp .ge 27, 3) := by decide +kernel
theorem dX0_worthSeenBy_29 : decode cX0_worthSeenBy 29 = .ok (.iload 4, 2) := by decide +kernel
theorem dX0_worthSeenBy_31 : decode cX0_worthSeenBy 31 = .ok (.iload_n 2, 1) := by decide +kernel
theorem dX0_worthSeenBy_32 : decode cX0_worthSeenBy 32 = .ok (.invokestatic 96, 3) := by decide +kernel
theorem dX0_worthSeenBy_35 : decode cX0_worthSeenBy 35 = .ok (.ifCond .eq 12, 3) := by decide +kernel
theorem dX0_worthSeenBy_38 : decode cX0_worthSeenBy 38 = .ok (.iload_n 3, 1) := by decide +kernel
theorem dX0_worthSeenBy_39 : decode cX0_worthSeenBy 39 = .ok (.aload_n 0, 1) := by decide +kernel
theorem dX0_worthSeenBy_40 : decode cX0_worthSeenBy 40 = .ok (.iload 4, 2) := by decide +kernel
theorem dX0_worthSeenBy_42 : decode cX0_worthSeenBy 42 = .ok (.invokevirtual 103, 3) := by decide +kernel
theorem dX0_worthSeenBy_45 : decode cX0_worthSeenBy 45 = .ok (.iadd, 1) := by decide +kernel
theorem dX0_worthSeenBy_46 : decode cX0_worthSeenBy 46 = .ok (.istore_n 3, 1) := by decide +kernel
theorem dX0_worthSeenBy_47 : decode cX0_worthSeenBy 47 = .ok (.iinc 4 1, 3) := by decide +kernel
theorem dX0_worthSeenBy_50 : decode cX0_worthSeenBy 50 = .ok (.goto (-28), 3) := by decide +kernel
theorem dX0_worthSeenBy_53 : decode cX0_worthSeenBy 53 = .ok (.iload_n 3, 1) := by decide +kernel
theorem dX0_worthSeenBy_54 : decode cX0_worthSeenBy 54 = .ok (.ireturn, 1) := by decide +kernel
theorem dX1_cutTo_0 : decode cX1_cutTo 0 = .ok (.iload_n 0, 1) := by decide +kernel
theorem dX1_cutTo_1 : decode cX1_cutTo 1 = .ok (.bipush 8, 2) := by decide +kernel
theorem dX1_cutTo_3 : decode cX1_cutTo 3 = .ok (.if_icmp .ne 6, 3) := by decide +kernel
theorem dX1_cutTo_6 : decode cX1_cutTo 6 = .ok (.iload_n 1, 1) := by decide +kernel
theorem dX1_cutTo_7 : decode cX1_cutTo 7 = .ok (.i2b, 1) := by decide +kernel
theorem dX1_cutTo_8 : decode cX1_cutTo 8 = .ok (.ireturn, 1) := by decide +kernel
theorem dX1_cutTo_9 : decode cX1_cutTo 9 = .ok (.iload_n 0, 1) := by decide +kernel
theorem dX1_cutTo_10 : decode cX1_cutTo 10 = .ok (.bipush 16, 2) := by decide +kernel
theorem dX1_cutTo_12 : decode cX1_cutTo 12 = .ok (.if_icmp .ne 8, 3) := by decide +kernel
theorem dX1_cutTo_15 : decode cX1_cutTo 15 = .ok (.iload_n 1, 1) := by decide +kernel
theorem dX1_cutTo_16 : decode cX1_cutTo 16 = .ok (.i2s, 1) := by decide +kernel
theorem dX1_cutTo_17 : decode cX1_cutTo 17 = .ok (.goto 4, 3) := by decide +kernel
theorem dX1_cutTo_20 : decode cX1_cutTo 20 = .ok (.iload_n 1, 1) := by decide +kernel
theorem dX1_cutTo_21 : decode cX1_cutTo 21 = .ok (.ireturn, 1) := by decide +kernel
theorem dX1_hasRun_0 : decode cX1_hasRun 0 = .ok (.iload_n 2, 1) := by decide +kernel
theorem dX1_hasRun_1 : decode cX1_hasRun 1 = .ok (.ifCond .lt 33, 3) := by decide +kernel
theorem dX1_hasRun_4 : decode cX1_hasRun 4 = .ok (.iload_n 3, 1) := by decide +kernel
theorem dX1_hasRun_5 : decode cX1_hasRun 5 = .ok (.ifCond .lt 29, 3) := by decide +kernel
theorem dX1_hasRun_8 : decode cX1_hasRun 8 = .ok (.iload_n 3, 1) := by decide +kernel
theorem dX1_hasRun_9 : decode cX1_hasRun 9 = .ok (.aload_n 0, 1) := by decide +kernel
theorem dX1_hasRun_10 : decode cX1_hasRun 10 = .ok (.getfield 13, 3) := by decide +kernel
theorem dX1_hasRun_13 : decode cX1_hasRun 13 = .ok (.iload_n 1, 1) := by decide +kernel
theorem dX1_hasRun_14 : decode cX1_hasRun 14 = .ok (.iaload, 1) := by decide +kernel
theorem dX1_hasRun_15 : decode cX1_hasRun 15 = .ok (.if_icmp .gt 19, 3) := by decide +kernel
theorem dX1_hasRun_18 : decode cX1_hasRun 18 = .ok (.iload_n 2, 1) := by decide +kernel
theorem dX1_hasRun_19 : decode cX1_hasRun 19 = .ok (.aload_n 0, 1) := by decide +kernel
theorem dX1_hasRun_20 : decode cX1_hasRun 20 = .ok (.getfield 13, 3) := by decide +kernel
theorem dX1_hasRun_23 : decode cX1_hasRun 23 = .ok (.iload_n 1, 1) := by decide +kernel
theorem dX1_hasRun_24 : decode cX1_hasRun 24 = .ok (.iaload, 1) := by decide +kernel
theorem dX1_hasRun_25 : decode cX1_hasRun 25 = .ok (.iload_n 3, 1) := by decide +kernel
theorem dX1_hasRun_26 : decode cX1_hasRun 26 = .ok (.isub, 1) := by decide +kernel
theorem dX1_hasRun_27 : decode cX1_hasRun 27 = .ok (.if_icmp .gt 7, 3) := by decide +kernel
theorem dX1_hasRun_30 : decode cX1_hasRun 30 = .ok (.iconst 1, 1) := by decide +kernel
theorem dX1_hasRun_31 : decode cX1_hasRun 31 = .ok (.goto 4, 3) := by decide +kernel
theorem dX1_hasRun_34 : decode cX1_hasRun 34 = .ok (.iconst 0, 1) := by decide +kernel
theorem dX1_hasRun_35 : decode cX1_hasRun 35 = .ok (.ireturn, 1) := by decide +kernel
theorem dX1_isMissing_0 : decode cX1_isMissing 0 = .ok (.aload_n 0, 1) := by decide +kernel
theorem dX1_isMissing_1 : decode cX1_isMissing 1 = .ok (.getfield 9, 3) := by decide +kernel
theorem dX1_isMissing_4 : decode cX1_isMissing 4 = .ok (.iload_n 1, 1) := by decide +kernel
theorem dX1_isMissing_5 : decode cX1_isMissing 5 = .ok (.iaload, 1) := by decide +kernel
theorem dX1_isMissing_6 : decode cX1_isMissing 6 = .ok (.ifCond .ne 7, 3) := by decide +kernel
theorem dX1_isMissing_9 : decode cX1_isMissing 9 = .ok (.iconst 1, 1) := by decide +kernel
theorem dX1_isMissing_10 : decode cX1_isMissing 10 = .ok (.goto 4, 3) := by decide +kernel
theorem dX1_isMissing_13 : decode cX1_isMissing 13 = .ok (.iconst 0, 1) := by decide +kernel
theorem dX1_isMissing_14 : decode cX1_isMissing 14 = .ok (.ireturn, 1) := by decide +kernel
theorem dX1_isSheet_0 : decode cX1_isSheet 0 = .ok (.iload_n 0, 1) := by decide +kernel
theorem dX1_isSheet_1 : decode cX1_isSheet 1 = .ok (.ifCond .lt 12, 3) := by decide +kernel
theorem dX1_isSheet_4 : decode cX1_isSheet 4 = .ok (.iload_n 0, 1) := by decide +kernel
theorem dX1_isSheet_5 : decode cX1_isSheet 5 = .ok (.iconst 4, 1) := by decide +kernel
theorem dX1_isSheet_6 : decode cX1_isSheet 6 = .ok (.if_icmp .ge 7, 3) := by decide +kernel
theorem dX1_isSheet_9 : decode cX1_isSheet 9 = .ok (.iconst 1, 1) := by decide +kernel
theorem dX1_isSheet_10 : decode cX1_isSheet 10 = .ok (.goto 4, 3) := by decide +kernel
theorem dX1_isSheet_13 : decode cX1_isSheet 13 = .ok (.iconst 0, 1) := by decide +kernel
theorem dX1_isSheet_14 : decode cX1_isSheet 14 = .ok (.ireturn, 1) := by decide +kernel
theorem dX1_make_0 : decode cX1_make 0 = .ok (.aload_n 0, 1) := by decide +kernel
theorem dX1_make_1 : decode cX1_make 1 = .ok (.getfield 9, 3) := by decide +kernel
theorem dX1_make_4 : decode cX1_make 4 = .ok (.iload_n 1, 1) := by decide +kernel
theorem dX1_make_5 : decode cX1_make 5 = .ok (.iload_n 2, 1) := by decide +kernel
theorem dX1_make_6 : decode cX1_make 6 = .ok (.iastore, 1) := by decide +kernel
theorem dX1_make_7 : decode cX1_make 7 = .ok (.aload_n 0, 1) := by decide +kernel
theorem dX1_make_8 : decode cX1_make 8 = .ok (.getfield 13, 3) := by decide +kernel
theorem dX1_make_11 : decode cX1_make 11 = .ok (.iload_n 1, 1) := by decide +kernel
theorem dX1_make_12 : decode cX1_make 12 = .ok (.iload_n 3, 1) := by decide +kernel
theorem dX1_make_13 : decode cX1_make 13 = .ok (.iastore, 1) := by decide +kernel
theorem dX1_make_14 : decode cX1_make 14 = .ok (.iconst 0, 1) := by decide +kernel
theorem dX1_make_15 : decode cX1_make 15 = .ok (.istore 4, 2) := by decide +kernel
theorem dX1_make_17 : decode cX1_make 17 = .ok (.iload 4, 2) := by decide +kernel
theorem dX1_make_19 : decode cX1_make 19 = .ok (.iload_n 3, 1) := by decide +kernel
theorem dX1_make_20 : decode cX1_make 20 = .ok (.if_icmp .ge 22, 3) := by decide +kernel
theorem dX1_make_23 : decode cX1_make 23 = .ok (.aload_n 0, 1) := by decide +kernel
theorem dX1_make_24 : decode cX1_make 24 = .ok (.getfield 16, 3) := by decide +kernel
theorem dX1_make_27 : decode cX1_make 27 = .ok (.iload_n 1, 1) := by decide +kernel
theorem dX1_make_28 : decode cX1_make 28 = .ok (.bipush 40, 2) := by decide +kernel
theorem dX1_make_30 : decode cX1_make 30 = .ok (.imul, 1) := by decide +kernel
theorem dX1_make_31 : decode cX1_make 31 = .ok (.iload 4, 2) := by decide +kernel
theorem dX1_make_33 : decode cX1_make 33 = .ok (.iadd, 1) := by decide +kernel
theorem dX1_make_34 : decode cX1_make 34 = .ok (.iconst 0, 1) := by decide +kernel
theorem dX1_make_35 : decode cX1_make 35 = .ok (.iastore, 1) := by decide +kernel
theorem dX1_make_36 : decode cX1_make 36 = .ok (.iinc 4 1, 3) := by decide +kernel
theorem dX1_make_39 : decode cX1_make 39 = .ok (.goto (-22), 3) := by decide +kernel
theorem dX1_make_42 : decode cX1_make 42 = .ok (.return_, 1) := by decide +kernel
theorem dX1_move_0 : decode cX1_move 0 = .ok (.aload_n 0, 1) := by decide +kernel
theorem dX1_move_1 : decode cX1_move 1 = .ok (.getfield 16, 3) := by decide +kernel
theorem dX1_move_4 : decode cX1_move 4 = .ok (.iload_n 1, 1) := by decide +kernel
theorem dX1_move_5 : decode cX1_move 5 = .ok (.bipush 40, 2) := by decide +kernel
theorem dX1_move_7 : decode cX1_move 7 = .ok (.imul, 1) := by decide +kernel
theorem dX1_move_8 : decode cX1_move 8 = .ok (.iload_n 2, 1) := by decide +kernel
theorem dX1_move_9 : decode cX1_move 9 = .ok (.iadd, 1) := by decide +kernel
theorem dX1_move_10 : decode cX1_move 10 = .ok (.aload_n 0, 1) := by decide +kernel
theorem dX1_move_11 : decode cX1_move 11 = .ok (.getfield 16, 3) := by decide +kernel
theorem dX1_move_14 : decode cX1_move 14 = .ok (.iload_n 3, 1) := by decide +kernel
theorem dX1_move_15 : decode cX1_move 15 = .ok (.bipush 40, 2) := by decide +kernel
theorem dX1_move_17 : decode cX1_move 17 = .ok (.imul, 1) := by decide +kernel
theorem dX1_move_18 : decode cX1_move 18 = .ok (.iload 4, 2) := by decide +kernel
theorem dX1_move_20 : decode cX1_move 20 = .ok (.iadd, 1) := by decide +kernel
theorem dX1_move_21 : decode cX1_move 21 = .ok (.iload 5, 2) := by decide +kernel
theorem dX1_move_23 : decode cX1_move 23 = .ok (.invokestatic 23, 3) := by decide +kernel
theorem dX1_move_26 : decode cX1_move 26 = .ok (.return_, 1) := by decide +kernel
theorem dX1_numberAt_0 : decode cX1_numberAt 0 = .ok (.aload_n 0, 1) := by decide +kernel
theorem dX1_numberAt_1 : decode cX1_numberAt 1 = .ok (.getfield 16, 3) := by decide +kernel
theorem dX1_numberAt_4 : decode cX1_numberAt 4 = .ok (.iload_n 1, 1) := by decide +kernel
theorem dX1_numberAt_5 : decode cX1_numberAt 5 = .ok (.bipush 40, 2) := by decide +kernel
theorem dX1_numberAt_7 : decode cX1_numberAt 7 = .ok (.imul, 1) := by decide +kernel
theorem dX1_numberAt_8 : decode cX1_numberAt 8 = .ok (.iload_n 2, 1) := by decide +kernel
theorem dX1_numberAt_9 : decode cX1_numberAt 9 = .ok (.iadd, 1) := by decide +kernel
theorem dX1_numberAt_10 : decode cX1_numberAt 10 = .ok (.iaload, 1) := by decide +kernel
theorem dX1_numberAt_11 : decode cX1_numberAt 11 = .ok (.ireturn, 1) := by decide +kernel
theorem dX1_put_0 : decode cX1_put 0 = .ok (.aload_n 0, 1) := by decide +kernel
theorem dX1_put_1 : decode cX1_put 1 = .ok (.getfield 16, 3) := by decide +kernel
theorem dX1_put_4 : decode cX1_put 4 = .ok (.iload_n 1, 1) := by decide +kernel
theorem dX1_put_5 : decode cX1_put 5 = .ok (.bipush 40, 2) := by decide +kernel
theorem dX1_put_7 : decode cX1_put 7 = .ok (.imul, 1) := by decide +kernel
theorem dX1_put_8 : decode cX1_put 8 = .ok (.iload_n 2, 1) := by decide +kernel
theorem dX1_put_9 : decode cX1_put 9 = .ok (.iadd, 1) := by decide +kernel
theorem dX1_put_10 : decode cX1_put 10 = .ok (.aload_n 0, 1) := by decide +kernel
theorem dX1_put_11 : decode cX1_put 11 = .ok (.getfield 9, 3) := by decide +kernel
theorem dX1_put_14 : decode cX1_put 14 = .ok (.iload_n 1, 1) := by decide +kernel
theorem dX1_put_15 : decode cX1_put 15 = .ok (.iaload, 1) := by decide +kernel
theorem dX1_put_16 : decode cX1_put 16 = .ok (.iload_n 3, 1) := by decide +kernel
theorem dX1_put_17 : decode cX1_put 17 = .ok (.invokestatic 19, 3) := by decide +kernel
theorem dX1_put_20 : decode cX1_put 20 = .ok (.iastore, 1) := by decide +kernel
theorem dX1_put_21 : decode cX1_put 21 = .ok (.return_, 1) := by decide +kernel
theorem dX2_append_0 : decode cX2_append 0 = .ok (.aload_n 0, 1) := by decide +kernel
theorem dX2_append_1 : decode cX2_append 1 = .ok (.getfield 9, 3) := by decide +kernel
theorem dX2_append_4 : decode cX2_append 4 = .ok (.aload_n 0, 1) := by decide +kernel
theorem dX2_append_5 : decode cX2_append 5 = .ok (.getfield 13, 3) := by decide +kernel
theorem dX2_append_8 : decode cX2_append 8 = .ok (.iload_n 1, 1) := by decide +kernel
theorem dX2_append_9 : decode cX2_append 9 = .ok (.sipush 255, 3) := by decide +kernel
theorem dX2_append_12 : decode cX2_append 12 = .ok (.iand, 1) := by decide +kernel
theorem dX2_append_13 : decode cX2_append 13 = .ok (.iastore, 1) := by decide +kernel
theorem dX2_append_14 : decode cX2_append 14 = .ok (.aload_n 0, 1) := by decide +kernel
theorem dX2_append_15 : decode cX2_append 15 = .ok (.dup, 1) := by decide +kernel
theorem dX2_append_16 : decode cX2_append 16 = .ok (.getfield 13, 3) := by decide +kernel
theorem dX2_append_19 : decode cX2_append 19 = .ok (.iconst 1, 1) := by decide +kernel
theorem dX2_append_20 : decode cX2_append 20 = .ok (.iadd, 1) := by decide +kernel
theorem dX2_append_21 : decode cX2_append 21 = .ok (.putfield 13, 3) := by decide +kernel
theorem dX2_append_24 : decode cX2_append 24 = .ok (.return_, 1) := by decide +kernel
theorem dX2_hasRoomFor_0 : decode cX2_hasRoomFor 0 = .ok (.aload_n 0, 1) := by decide +kernel
theorem dX2_hasRoomFor_1 : decode cX2_hasRoomFor 1 = .ok (.getfield 13, 3) := by decide +kernel
theorem dX2_hasRoomFor_4 : decode cX2_hasRoomFor 4 = .ok (.iload_n 1, 1) := by decide +kernel
theorem dX2_hasRoomFor_5 : decode cX2_hasRoomFor 5 = .ok (.iadd, 1) := by decide +kernel
theorem dX2_hasRoomFor_6 : decode cX2_hasRoomFor 6 = .ok (.bipush 120, 2) := by decide +kernel
theorem dX2_hasRoomFor_8 : decode cX2_hasRoomFor 8 = .ok (.if_icmp .gt 7, 3) := by decide +kernel
theorem dX2_hasRoomFor_11 : decode cX2_hasRoomFor 11 = .ok (.iconst 1, 1) := by decide +kernel
theorem dX2_hasRoomFor_12 : decode cX2_hasRoomFor 12 = .ok (.goto 4, 3) := by decide +kernel
theorem dX2_hasRoomFor_15 : decode cX2_hasRoomFor 15 = .ok (.iconst 0, 1) := by decide +kernel
theorem dX2_hasRoomFor_16 : decode cX2_hasRoomFor 16 = .ok (.ireturn, 1) := by decide +kernel
theorem dX2_isWord_0 : decode cX2_isWord 0 = .ok (.aload_n 0, 1) := by decide +kernel
theorem dX2_isWord_1 : decode cX2_isWord 1 = .ok (.getfield 20, 3) := by decide +kernel
theorem dX2_isWord_4 : decode cX2_isWord 4 = .ok (.iconst 1, 1) := by decide +kernel
theorem dX2_isWord_5 : decode cX2_isWord 5 = .ok (.if_icmp .ne 19, 3) := by decide +kernel
theorem dX2_isWord_8 : decode cX2_isWord 8 = .ok (.aload_n 0, 1) := by decide +kernel
theorem dX2_isWord_9 : decode cX2_isWord 9 = .ok (.getfield 17, 3) := by decide +kernel
theorem dX2_isWord_12 : decode cX2_isWord 12 = .ok (.aload_n 0, 1) := by decide +kernel
theorem dX2_isWord_13 : decode cX2_isWord 13 = .ok (.getfield 23, 3) := by decide +kernel
theorem dX2_isWord_16 : decode cX2_isWord 16 = .ok (.isub, 1) := by decide +kernel
theorem dX2_isWord_17 : decode cX2_isWord 17 = .ok (.aload_n 1, 1) := by decide +kernel
theorem dX2_isWord_18 : decode cX2_isWord 18 = .ok (.invokevirtual 40, 3) := by decide +kernel
theorem dX2_isWord_21 : decode cX2_isWord 21 = .ok (.if_icmp .eq 5, 3) := by decide +kernel
theorem dX2_isWord_24 : decode cX2_isWord 24 = .ok (.iconst 0, 1) := by decide +kernel
theorem dX2_isWord_25 : decode cX2_isWord 25 = .ok (.ireturn, 1) := by decide +kernel
theorem dX2_isWord_26 : decode cX2_isWord 26 = .ok (.iconst 0, 1) := by decide +kernel
theorem dX2_isWord_27 : decode cX2_isWord 27 = .ok (.istore_n 2, 1) := by decide +kernel
theorem dX2_isWord_28 : decode cX2_isWord 28 = .ok (.iload_n 2, 1) := by decide +kernel
theorem dX2_isWord_29 : decode cX2_isWord 29 = .ok (.aload_n 1, 1) := by decide +kernel
theorem dX2_isWord_30 : decode cX2_isWord 30 = .ok (.invokevirtual 40, 3) := by decide +kernel
theorem dX2_isWord_33 : decode cX2_isWord 33 = .ok (.if_icmp .ge 30, 3) := by decide +kernel
theorem dX2_isWord_36 : decode cX2_isWord 36 = .ok (.aload_n 0, 1) := by decide +kernel
theorem dX2_isWord_37 : decode cX2_isWord 37 = .ok (.getfield 9, 3) := by decide +kernel
theorem dX2_isWord_40 : decode cX2_isWord 40 = .ok (.aload_n 0, 1) := by decide +kernel
theorem dX2_isWord_41 : decode cX2_isWord 41 = .ok (.getfield 23, 3) := by decide +kernel
theorem dX2_isWord_44 : decode cX2_isWord 44 = .ok (.iload_n 2, 1) := by decide +kernel
theorem dX2_isWord_45 : decode cX2_isWord 45 = .ok (.iadd, 1) := by decide +kernel
theorem dX2_isWord_46 : decode cX2_isWord 46 = .ok (.iaload, 1) := by decide +kernel
theorem dX2_isWord_47 : decode cX2_isWord 47 = .ok (.aload_n 1, 1) := by decide +kernel
theorem dX2_isWord_48 : decode cX2_isWord 48 = .ok (.iload_n 2, 1) := by decide +kernel
theorem dX2_isWord_49 : decode cX2_isWord 49 = .ok (.invokevirtual 46, 3) := by decide +kernel
theorem dX2_isWord_52 : decode cX2_isWord 52 = .ok (.if_icmp .eq 5, 3) := by decide +kernel
theorem dX2_isWord_55 : decode cX2_isWord 55 = .ok (.iconst 0, 1) := by decide +kernel
theorem dX2_isWord_56 : decode cX2_isWord 56 = .ok (.ireturn, 1) := by decide +kernel
theorem dX2_isWord_57 : decode cX2_isWord 57 = .ok (.iinc 2 1, 3) := by decide +kernel
theorem dX2_isWord_60 : decode cX2_isWord 60 = .ok (.goto (-32), 3) := by decide +kernel
theorem dX2_isWord_63 : decode cX2_isWord 63 = .ok (.iconst 1, 1) := by decide +kernel
theorem dX2_isWord_64 : decode cX2_isWord 64 = .ok (.ireturn, 1) := by decide +kernel
theorem dX2_rewind_0 : decode cX2_rewind 0 = .ok (.aload_n 0, 1) := by decide +kernel
theorem dX2_rewind_1 : decode cX2_rewind 1 = .ok (.iconst 0, 1) := by decide +kernel
theorem dX2_rewind_2 : decode cX2_rewind 2 = .ok (.putfield 17, 3) := by decide +kernel
theorem dX2_rewind_5 : decode cX2_rewind 5 = .ok (.aload_n 0, 1) := by decide +kernel
theorem dX2_rewind_6 : decode cX2_rewind 6 = .ok (.invokevirtual 29, 3) := by decide +kernel
theorem dX2_rewind_9 : decode cX2_rewind 9 = .ok (.return_, 1) := by decide +kernel
theorem dX2_sortAt_0 : decode cX2_sortAt 0 = .ok (.iload_n 1, 1) := by decide +kernel
theorem dX2_sortAt_1 : decode cX2_sortAt 1 = .ok (.aload_n 0, 1) := by decide +kernel
theorem dX2_sortAt_2 : decode cX2_sortAt 2 = .ok (.getfield 13, 3) := by decide +kernel
theorem dX2_sortAt_5 : decode cX2_sortAt 5 = .ok (.if_icmp .lt 5, 3) := by decide +kernel
theorem dX2_sortAt_8 : decode cX2_sortAt 8 = .ok (.iconst 0, 1) := by decide +kernel
theorem dX2_sortAt_9 : decode cX2_sortAt 9 = .ok (.ireturn, 1) := by decide +kernel
theorem dX2_sortAt_10 : decode cX2_sortAt 10 = .ok (.aload_n 0, 1) := by decide +kernel
theorem dX2_sortAt_11 : decode cX2_sortAt 11 = .ok (.getfield 9, 3) := by decide +kernel
theorem dX2_sortAt_14 : decode cX2_sortAt 14 = .ok (.iload_n 1, 1) := by decide +kernel
theorem dX2_sortAt_15 : decode cX2_sortAt 15 = .ok (.iaload, 1) := by decide +kernel
theorem dX2_sortAt_16 : decode cX2_sortAt 16 = .ok (.istore_n 2, 1) := by decide +kernel
theorem dX2_sortAt_17 : decode cX2_sortAt 17 = .ok (.iload_n 2, 1) := by decide +kernel
theorem dX2_sortAt_18 : decode cX2_sortAt 18 = .ok (.bipush 97, 2) := by decide +kernel
theorem dX2_sortAt_20 : decode cX2_sortAt 20 = .ok (.if_icmp .lt 11, 3) := by decide +kernel
theorem dX2_sortAt_23 : decode cX2_sortAt 23 = .ok (.iload_n 2, 1) := by decide +kernel
theorem dX2_sortAt_24 : decode cX2_sortAt 24 = .ok (.bipush 122, 2) := by decide +kernel
theorem dX2_sortAt_26 : decode cX2_sortAt 26 = .ok (.if_icmp .gt 5, 3) := by decide +kernel
theorem dX2_sortAt_29 : decode cX2_sortAt 29 = .ok (.iconst 1, 1) := by decide +kernel
theorem dX2_sortAt_30 : decode cX2_sortAt 30 = .ok (.ireturn, 1) := by decide +kernel
theorem dX2_sortAt_31 : decode cX2_sortAt 31 = .ok (.iload_n 2, 1) := by decide +kernel
theorem dX2_sortAt_32 : decode cX2_sortAt 32 = .ok (.bipush 48, 2) := by decide +kernel
theorem dX2_sortAt_34 : decode cX2_sortAt 34 = .ok (.if_icmp .lt 11, 3) := by decide +kernel
theorem dX2_sortAt_37 : decode cX2_sortAt 37 = .ok (.iload_n 2, 1) := by decide +kernel
theorem dX2_sortAt_38 : decode cX2_sortAt 38 = .ok (.bipush 57, 2) := by decide +kernel
theorem dX2_sortAt_40 : decode cX2_sortAt 40 = .ok (.if_icmp .gt 5, 3) := by decide +kernel
theorem dX2_sortAt_43 : decode cX2_sortAt 43 = .ok (.iconst 2, 1) := by decide +kernel
theorem dX2_sortAt_44 : decode cX2_sortAt 44 = .ok (.ireturn, 1) := by decide +kernel
theorem dX2_sortAt_45 : decode cX2_sortAt 45 = .ok (.iload_n 2, 1) := by decide +kernel
theorem dX2_sortAt_46 : decode cX2_sortAt 46 = .ok (.bipush 59, 2) := by decide +kernel
theorem dX2_sortAt_48 : decode cX2_sortAt 48 = .ok (.if_icmp .ne 7, 3) := by decide +kernel
theorem dX2_sortAt_51 : decode cX2_sortAt 51 = .ok (.iconst 3, 1) := by decide +kernel
theorem dX2_sortAt_52 : decode cX2_sortAt 52 = .ok (.goto 4, 3) := by decide +kernel
theorem dX2_sortAt_55 : decode cX2_sortAt 55 = .ok (.iconst 4, 1) := by decide +kernel
theorem dX2_sortAt_56 : decode cX2_sortAt 56 = .ok (.ireturn, 1) := by decide +kernel
theorem dX2_step_0 : decode cX2_step 0 = .ok (.aload_n 0, 1) := by decide +kernel
theorem dX2_step_1 : decode cX2_step 1 = .ok (.getfield 17, 3) := by decide +kernel
theorem dX2_step_4 : decode cX2_step 4 = .ok (.aload_n 0, 1) := by decide +kernel
theorem dX2_step_5 : decode cX2_step 5 = .ok (.getfield 13, 3) := by decide +kernel
theorem dX2_step_8 : decode cX2_step 8 = .ok (.if_icmp .ge 30, 3) := by decide +kernel
theorem dX2_step_11 : decode cX2_step 11 = .ok (.aload_n 0, 1) := by decide +kernel
theorem dX2_step_12 : decode cX2_step 12 = .ok (.getfield 9, 3) := by decide +kernel
theorem dX2_step_15 : decode cX2_step 15 = .ok (.aload_n 0, 1) := by decide +kernel
theorem dX2_step_16 : decode cX2_step 16 = .ok (.getfield 17, 3) := by decide +kernel
theorem dX2_step_19 : decode cX2_step 19 = .ok (.iaload, 1) := by decide +kernel
theorem dX2_step_20 : decode cX2_step 20 = .ok (.bipush 32, 2) := by decide +kernel
theorem dX2_step_22 : decode cX2_step 22 = .ok (.if_icmp .ne 16, 3) := by decide +kernel
theorem dX2_step_25 : decode cX2_step 25 = .ok (.aload_n 0, 1) := by decide +kernel
theorem dX2_step_26 : decode cX2_step 26 = .ok (.dup, 1) := by decide +kernel
theorem dX2_step_27 : decode cX2_step 27 = .ok (.getfield 17, 3) := by decide +kernel
theorem dX2_step_30 : decode cX2_step 30 = .ok (.iconst 1, 1) := by decide +kernel
theorem dX2_step_31 : decode cX2_step 31 = .ok (.iadd, 1) := by decide +kernel
theorem dX2_step_32 : decode cX2_step 32 = .ok (.putfield 17, 3) := by decide +kernel
theorem dX2_step_35 : decode cX2_step 35 = .ok (.goto (-35), 3) := by decide +kernel
theorem dX2_step_38 : decode cX2_step 38 = .ok (.aload_n 0, 1) := by decide +kernel
theorem dX2_step_39 : decode cX2_step 39 = .ok (.aload_n 0, 1) := by decide +kernel
theorem dX2_step_40 : decode cX2_step 40 = .ok (.getfield 17, 3) := by decide +kernel
theorem dX2_step_43 : decode cX2_step 43 = .ok (.putfield 23, 3) := by decide +kernel
theorem dX2_step_46 : decode cX2_step 46 = .ok (.aload_n 0, 1) := by decide +kernel
theorem dX2_step_47 : decode cX2_step 47 = .ok (.aload_n 0, 1) := by decide +kernel
theorem dX2_step_48 : decode cX2_step 48 = .ok (.aload_n 0, 1) := by decide +kernel
theorem dX2_step_49 : decode cX2_step 49 = .ok (.getfield 17, 3) := by decide +kernel
theorem dX2_step_52 : decode cX2_step 52 = .ok (.invokevirtual 32, 3) := by decide +kernel
theorem dX2_step_55 : decode cX2_step 55 = .ok (.putfield 20, 3) := by decide +kernel
theorem dX2_step_58 : decode cX2_step 58 = .ok (.aload_n 0, 1) := by decide +kernel
theorem dX2_step_59 : decode cX2_step 59 = .ok (.iconst 0, 1) := by decide +kernel
theorem dX2_step_60 : decode cX2_step 60 = .ok (.putfield 26, 3) := by decide +kernel
theorem dX2_step_63 : decode cX2_step 63 = .ok (.aload_n 0, 1) := by decide +kernel
theorem dX2_step_64 : decode cX2_step 64 = .ok (.getfield 17, 3) := by decide +kernel
theorem dX2_step_67 : decode cX2_step 67 = .ok (.aload_n 0, 1) := by decide +kernel
theorem dX2_step_68 : decode cX2_step 68 = .ok (.getfield 13, 3) := by decide +kernel
theorem dX2_step_71 : decode cX2_step 71 = .ok (.if_icmp .ge 82, 3) := by decide +kernel
theorem dX2_step_74 : decode cX2_step 74 = .ok (.aload_n 0, 1) := by decide +kernel
theorem dX2_step_75 : decode cX2_step 75 = .ok (.aload_n 0, 1) := by decide +kernel
theorem dX2_step_76 : decode cX2_step 76 = .ok (.getfield 17, 3) := by decide +kernel
theorem dX2_step_79 : decode cX2_step 79 = .ok (.invokevirtual 32, 3) := by decide +kernel
theorem dX2_step_82 : decode cX2_step 82 = .ok (.aload_n 0, 1) := by decide +kernel
theorem dX2_step_83 : decode cX2_step 83 = .ok (.getfield 20, 3) := by decide +kernel
theorem dX2_step_86 : decode cX2_step 86 = .ok (.if_icmp .ne 67, 3) := by decide +kernel
theorem dX2_step_89 : decode cX2_step 89 = .ok (.aload_n 0, 1) := by decide +kernel
theorem dX2_step_90 : decode cX2_step 90 = .ok (.getfield 17, 3) := by decide +kernel
theorem dX2_step_93 : decode cX2_step 93 = .ok (.aload_n 0, 1) := by decide +kernel
theorem dX2_step_94 : decode cX2_step 94 = .ok (.getfield 23, 3) := by decide +kernel
theorem dX2_step_97 : decode cX2_step 97 = .ok (.if_icmp .eq 19, 3) := by decide +kernel
theorem dX2_step_100 : decode cX2_step 100 = .ok (.aload_n 0, 1) := by decide +kernel
theorem dX2_step_101 : decode cX2_step 101 = .ok (.getfield 20, 3) := by decide +kernel
theorem dX2_step_104 : decode cX2_step 104 = .ok (.iconst 1, 1) := by decide +kernel
theorem dX2_step_105 : decode cX2_step 105 = .ok (.if_icmp .eq 11, 3) := by decide +kernel
theorem dX2_step_108 : decode cX2_step 108 = .ok (.aload_n 0, 1) := by decide +kernel
theorem dX2_step_109 : decode cX2_step 109 = .ok (.getfield 20, 3) := by decide +kernel
theorem dX2_step_112 : decode cX2_step 112 = .ok (.iconst 2, 1) := by decide +kernel
theorem dX2_step_113 : decode cX2_step 113 = .ok (.if_icmp .ne 40, 3) := by decide +kernel
theorem dX2_step_116 : decode cX2_step 116 = .ok (.aload_n 0, 1) := by decide +kernel
theorem dX2_step_117 : decode cX2_step 117 = .ok (.getfield 20, 3) := by decide +kernel
theorem dX2_step_120 : decode cX2_step 120 = .ok (.iconst 2, 1) := by decide +kernel
theorem dX2_step_121 : decode cX2_step 121 = .ok (.if_icmp .ne 19, 3) := by decide +kernel
theorem dX2_step_124 : decode cX2_step 124 = .ok (.aload_n 0, 1) := by decide +kernel
theorem dX2_step_125 : decode cX2_step 125 = .ok (.aload_n 0, 1) := by decide +kernel
theorem dX2_step_126 : decode cX2_step 126 = .ok (.getfield 9, 3) := by decide +kernel
theorem dX2_step_129 : decode cX2_step 129 = .ok (.aload_n 0, 1) := by decide +kernel
theorem dX2_step_130 : decode cX2_step 130 = .ok (.getfield 17, 3) := by decide +kernel
theorem dX2_step_133 : decode cX2_step 133 = .ok (.iaload, 1) := by decide +kernel
theorem dX2_step_134 : decode cX2_step 134 = .ok (.bipush 48, 2) := by decide +kernel
theorem dX2_step_136 : decode cX2_step 136 = .ok (.isub, 1) := by decide +kernel
theorem dX2_step_137 : decode cX2_step 137 = .ok (.invokevirtual 36, 3) := by decide +kernel
theorem dX2_step_140 : decode cX2_step 140 = .ok (.aload_n 0, 1) := by decide +kernel
theorem dX2_step_141 : decode cX2_step 141 = .ok (.dup, 1) := by decide +kernel
theorem dX2_step_142 : decode cX2_step 142 = .ok (.getfield 17, 3) := by decide +kernel
theorem dX2_step_145 : decode cX2_step 145 = .ok (.iconst 1, 1) := by decide +kernel
theorem dX2_step_146 : decode cX2_step 146 = .ok (.iadd, 1) := by decide +kernel
theorem dX2_step_147 : decode cX2_step 147 = .ok (.putfield 17, 3) := by decide +kernel
theorem dX2_step_150 : decode cX2_step 150 = .ok (.goto (-87), 3) := by decide +kernel
theorem dX2_step_153 : decode cX2_step 153 = .ok (.return_, 1) := by decide +kernel
theorem dX2_takeDigit_0 : decode cX2_takeDigit 0 = .ok (.aload_n 0, 1) := by decide +kernel
theorem dX2_takeDigit_1 : decode cX2_takeDigit 1 = .ok (.aload_n 0, 1) := by decide +kernel
theorem dX2_takeDigit_2 : decode cX2_takeDigit 2 = .ok (.getfield 26, 3) := by decide +kernel
theorem dX2_takeDigit_5 : decode cX2_takeDigit 5 = .ok (.sipush 999, 3) := by decide +kernel
theorem dX2_takeDigit_8 : decode cX2_takeDigit 8 = .ok (.if_icmp .le 10, 3) := by decide +kernel
theorem dX2_takeDigit_11 : decode cX2_takeDigit 11 = .ok (.aload_n 0, 1) := by decide +kernel
theorem dX2_takeDigit_12 : decode cX2_takeDigit 12 = .ok (.getfield 26, 3) := by decide +kernel
theorem dX2_takeDigit_15 : decode cX2_takeDigit 15 = .ok (.goto 12, 3) := by decide +kernel
theorem dX2_takeDigit_18 : decode cX2_takeDigit 18 = .ok (.aload_n 0, 1) := by decide +kernel
theorem dX2_takeDigit_19 : decode cX2_takeDigit 19 = .ok (.getfield 26, 3) := by decide +kernel
theorem dX2_takeDigit_22 : decode cX2_takeDigit 22 = .ok (.bipush 10, 2) := by decide +kernel
theorem dX2_takeDigit_24 : decode cX2_takeDigit 24 = .ok (.imul, 1) := by decide +kernel
theorem dX2_takeDigit_25 : decode cX2_takeDigit 25 = .ok (.iload_n 1, 1) := by decide +kernel
theorem dX2_takeDigit_26 : decode cX2_takeDigit 26 = .ok (.iadd, 1) := by decide +kernel
theorem dX2_takeDigit_27 : decode cX2_takeDigit 27 = .ok (.putfield 26, 3) := by decide +kernel
theorem dX2_takeDigit_30 : decode cX2_takeDigit 30 = .ok (.return_, 1) := by decide +kernel
theorem dX3_faultHere_0 : decode cX3_faultHere 0 = .ok (.iconst (-1), 1) := by decide +kernel
theorem dX3_faultHere_1 : decode cX3_faultHere 1 = .ok (.aload_n 0, 1) := by decide +kernel
theorem dX3_faultHere_2 : decode cX3_faultHere 2 = .ok (.getfield 7, 3) := by decide +kernel
theorem dX3_faultHere_5 : decode cX3_faultHere 5 = .ok (.getfield 33, 3) := by decide +kernel
theorem dX3_faultHere_8 : decode cX3_faultHere 8 = .ok (.isub, 1) := by decide +kernel
theorem dX3_faultHere_9 : decode cX3_faultHere 9 = .ok (.ireturn, 1) := by decide +kernel
theorem dX3_passes_0 : decode cX3_passes 0 = .ok (.aload_n 0, 1) := by decide +kernel
theorem dX3_passes_1 : decode cX3_passes 1 = .ok (.getfield 7, 3) := by decide +kernel
theorem dX3_passes_4 : decode cX3_passes 4 = .ok (.aload_n 1, 1) := by decide +kernel
theorem dX3_passes_5 : decode cX3_passes 5 = .ok (.invokevirtual 38, 3) := by decide +kernel
theorem dX3_passes_8 : decode cX3_passes 8 = .ok (.ifCond .ne 5, 3) := by decide +kernel
theorem dX3_passes_11 : decode cX3_passes 11 = .ok (.iconst 0, 1) := by decide +kernel
theorem dX3_passes_12 : decode cX3_passes 12 = .ok (.ireturn, 1) := by decide +kernel
theorem dX3_passes_13 : decode cX3_passes 13 = .ok (.aload_n 0, 1) := by decide +kernel
theorem dX3_passes_14 : decode cX3_passes 14 = .ok (.getfield 7, 3) := by decide +kernel
theorem dX3_passes_17 : decode cX3_passes 17 = .ok (.invokevirtual 30, 3) := by decide +kernel
theorem dX3_passes_20 : decode cX3_passes 20 = .ok (.iconst 1, 1) := by decide +kernel
theorem dX3_passes_21 : decode cX3_passes 21 = .ok (.ireturn, 1) := by decide +kernel
theorem dX3_readHaze_0 : decode cX3_readHaze 0 = .ok (.aload_n 0, 1) := by decide +kernel
theorem dX3_readHaze_1 : decode cX3_readHaze 1 = .ok (.iconst 1, 1) := by decide +kernel
theorem dX3_readHaze_2 : decode cX3_readHaze 2 = .ok (.bipush 23, 2) := by decide +kernel
theorem dX3_readHaze_4 : decode cX3_readHaze 4 = .ok (.invokevirtual 85, 3) := by decide +kernel
theorem dX3_readHaze_7 : decode cX3_readHaze 7 = .ok (.istore_n 2, 1) := by decide +kernel
theorem dX3_readHaze_8 : decode cX3_readHaze 8 = .ok (.iload_n 2, 1) := by decide +kernel
theorem dX3_readHaze_9 : decode cX3_readHaze 9 = .ok (.bipush (-2), 2) := by decide +kernel
theorem dX3_readHaze_11 : decode cX3_readHaze 11 = .ok (.if_icmp .ne 5, 3) := by decide +kernel
theorem dX3_readHaze_14 : decode cX3_readHaze 14 = .ok (.iconst 0, 1) := by decide +kernel
theorem dX3_readHaze_15 : decode cX3_readHaze 15 = .ok (.ireturn, 1) := by decide +kernel
theorem dX3_readHaze_16 : decode cX3_readHaze 16 = .ok (.aload_n 1, 1) := by decide +kernel
theorem dX3_readHaze_17 : decode cX3_readHaze 17 = .ok (.iload_n 2, 1) := by decide +kernel
theorem dX3_readHaze_18 : decode cX3_readHaze 18 = .ok (.putfield 117, 3) := by decide +kernel
theorem dX3_readHaze_21 : decode cX3_readHaze 21 = .ok (.iconst 1, 1) := by decide +kernel
theorem dX3_readHaze_22 : decode cX3_readHaze 22 = .ok (.ireturn, 1) := by decide +kernel
theorem dX3_readHouse_0 : decode cX3_readHouse 0 = .ok (.aload_n 0, 1) := by decide +kernel
theorem dX3_readHouse_1 : decode cX3_readHouse 1 = .ok (.getfield 7, 3) := by decide +kernel
theorem dX3_readHouse_4 : decode cX3_readHouse 4 = .ok (.invokevirtual 30, 3) := by decide +kernel
theorem dX3_readHouse_7 : decode cX3_readHouse 7 = .ok (.aload_n 0, 1) := by decide +kernel
theorem dX3_readHouse_8 : decode cX3_readHouse 8 = .ok (.iconst 0, 1) := by decide +kernel
theorem dX3_readHouse_9 : decode cX3_readHouse 9 = .ok (.bipush 23, 2) := by decide +kernel
theorem dX3_readHouse_11 : decode cX3_readHouse 11 = .ok (.invokevirtual 85, 3) := by decide +kernel
theorem dX3_readHouse_14 : decode cX3_readHouse 14 = .ok (.istore_n 2, 1) := by decide +kernel
theorem dX3_readHouse_15 : decode cX3_readHouse 15 = .ok (.iload_n 2, 1) := by decide +kernel
theorem dX3_readHouse_16 : decode cX3_readHouse 16 = .ok (.bipush (-2), 2) := by decide +kernel
theorem dX3_readHouse_18 : decode cX3_readHouse 18 = .ok (.if_icmp .eq 12, 3) := by decide +kernel
theorem dX3_readHouse_21 : decode cX3_readHouse 21 = .ok (.aload_n 0, 1) := by decide +kernel
theorem dX3_readHouse_22 : decode cX3_readHouse 22 = .ok (.ldc 105, 2) := by decide +kernel
theorem dX3_readHouse_24 : decode cX3_readHouse 24 = .ok (.invokevirtual 53, 3) := by decide +kernel
theorem dX3_readHouse_27 : decode cX3_readHouse 27 = .ok (.ifCond .ne 5, 3) := by decide +kernel
theorem dX3_readHouse_30 : decode cX3_readHouse 30 = .ok (.iconst 0, 1) := by decide +kernel
theorem dX3_readHouse_31 : decode cX3_readHouse 31 = .ok (.ireturn, 1) := by decide +kernel
theorem dX3_readHouse_32 : decode cX3_readHouse 32 = .ok (.aload_n 0, 1) := by decide +kernel
theorem dX3_readHouse_33 : decode cX3_readHouse 33 = .ok (.iconst 1, 1) := by decide +kernel
theorem dX3_readHouse_34 : decode cX3_readHouse 34 = .ok (.bipush 40, 2) := by decide +kernel
theorem dX3_readHouse_36 : decode cX3_readHouse 36 = .ok (.invokevirtual 85, 3) := by decide +kernel
theorem dX3_readHouse_39 : decode cX3_readHouse 39 = .ok (.istore_n 3, 1) := by decide +kernel
theorem dX3_readHouse_40 : decode cX3_readHouse 40 = .ok (.iload_n 3, 1) := by decide +kernel
theorem dX3_readHouse_41 : decode cX3_readHouse 41 = .ok (.bipush (-2), 2) := by decide +kernel
theorem dX3_readHouse_43 : decode cX3_readHouse 43 = .ok (.if_icmp .ne 5, 3) := by decide +kernel
theorem dX3_readHouse_46 : decode cX3_readHouse 46 = .ok (.iconst 0, 1) := by decide +kernel
theorem dX3_readHouse_47 : decode cX3_readHouse 47 = .ok (.ireturn, 1) := by decide +kernel
theorem dX3_readHouse_48 : decode cX3_readHouse 48 = .ok (.iconst 3, 1) := by decide +kernel
theorem dX3_readHouse_49 : decode cX3_readHouse 49 = .ok (.istore 4, 2) := by decide +kernel
theorem dX3_readHouse_51 : decode cX3_readHouse 51 = .ok (.aload_n 0, 1) := by decide +kernel
theorem dX3_readHouse_52 : decode cX3_readHouse 52 = .ok (.ldc 107, 2) := by decide +kernel
theorem dX3_readHouse_54 : decode cX3_readHouse 54 = .ok (.invokevirtual 53, 3) := by decide +kernel
theorem dX3_readHouse_57 : decode cX3_readHouse 57 = .ok (.ifCond .eq 35, 3) := by decide +kernel
theorem dX3_readHouse_60 : decode cX3_readHouse 60 = .ok (.aload_n 0, 1) := by decide +kernel
theorem dX3_readHouse_61 : decode cX3_readHouse 61 = .ok (.ldc 109, 2) := by decide +kernel
theorem dX3_readHouse_63 : decode cX3_readHouse 63 = .ok (.invokevirtual 53, 3) := by decide +kernel
theorem dX3_readHouse_66 : decode cX3_readHouse 66 = .ok (.ifCond .eq 9, 3) := by decide +kernel
theorem dX3_readHouse_69 : decode cX3_readHouse 69 = .ok (.iconst 2, 1) := by decide +kernel
theorem dX3_readHouse_70 : decode cX3_readHouse 70 = .ok (.istore 4, 2) := by decide +kernel
theorem dX3_readHouse_72 : decode cX3_readHouse 72 = .ok (.goto 20, 3) := by decide +kernel
theorem dX3_readHouse_75 : decode cX3_readHouse 75 = .ok (.aload_n 0, 1) := by decide +kernel
theorem dX3_readHouse_76 : decode cX3_readHouse 76 = .ok (.ldc 111, 2) := by decide +kernel
theorem dX3_readHouse_78 : decode cX3_readHouse 78 = .ok (.invokevirtual 53, 3) := by decide +kernel
theorem dX3_readHouse_81 : decode cX3_readHouse 81 = .ok (.ifCond .eq 9, 3) := by decide +kernel
theorem dX3_readHouse_84 : decode cX3_readHouse 84 = .ok (.iconst 1, 1) := by decide +kernel
theorem dX3_readHouse_85 : decode cX3_readHouse 85 = .ok (.istore 4, 2) := by decide +kernel
theorem dX3_readHouse_87 : decode cX3_readHouse 87 = .ok (.goto 5, 3) := by decide +kernel
theorem dX3_readHouse_90 : decode cX3_readHouse 90 = .ok (.iconst 0, 1) := by decide +kernel
theorem dX3_readHouse_91 : decode cX3_readHouse 91 = .ok (.ireturn, 1) := by decide +kernel
theorem dX3_readHouse_92 : decode cX3_readHouse 92 = .ok (.aload_n 1, 1) := by decide +kernel
theorem dX3_readHouse_93 : decode cX3_readHouse 93 = .ok (.iload_n 2, 1) := by decide +kernel
theorem dX3_readHouse_94 : decode cX3_readHouse 94 = .ok (.iload_n 3, 1) := by decide +kernel
theorem dX3_readHouse_95 : decode cX3_readHouse 95 = .ok (.iload 4, 2) := by decide +kernel
theorem dX3_readHouse_97 : decode cX3_readHouse 97 = .ok (.invokevirtual 113, 3) := by decide +kernel
theorem dX3_readHouse_100 : decode cX3_readHouse 100 = .ok (.iconst 1, 1) := by decide +kernel
theorem dX3_readHouse_101 : decode cX3_readHouse 101 = .ok (.ireturn, 1) := by decide +kernel
theorem dX3_readInto_0 : decode cX3_readInto 0 = .ok (.aload_n 0, 1) := by decide +kernel
theorem dX3_readInto_1 : decode cX3_readInto 1 = .ok (.getfield 7, 3) := by decide +kernel
theorem dX3_readInto_4 : decode cX3_readInto 4 = .ok (.invokevirtual 13, 3) := by decide +kernel
theorem dX3_readInto_7 : decode cX3_readInto 7 = .ok (.iconst 1, 1) := by decide +kernel
theorem dX3_readInto_8 : decode cX3_readInto 8 = .ok (.istore_n 2, 1) := by decide +kernel
theorem dX3_readInto_9 : decode cX3_readInto 9 = .ok (.iload_n 2, 1) := by decide +kernel
theorem dX3_readInto_10 : decode cX3_readInto 10 = .ok (.bipush 120, 2) := by decide +kernel
theorem dX3_readInto_12 : decode cX3_readInto 12 = .ok (.if_icmp .gt 57, 3) := by decide +kernel
theorem dX3_readInto_15 : decode cX3_readInto 15 = .ok (.aload_n 0, 1) := by decide +kernel
theorem dX3_readInto_16 : decode cX3_readInto 16 = .ok (.aload_n 1, 1) := by decide +kernel
theorem dX3_readInto_17 : decode cX3_readInto 17 = .ok (.invokevirtual 18, 3) := by decide +kernel
theorem dX3_readInto_20 : decode cX3_readInto 20 = .ok (.ifCond .ne 8, 3) := by decide +kernel
theorem dX3_readInto_23 : decode cX3_readInto 23 = .ok (.aload_n 0, 1) := by decide +kernel
theorem dX3_readInto_24 : decode cX3_readInto 24 = .ok (.invokevirtual 22, 3) := by decide +kernel
theorem dX3_readInto_27 : decode cX3_readInto 27 = .ok (.ireturn, 1) := by decide +kernel
theorem dX3_readInto_28 : decode cX3_readInto 28 = .ok (.aload_n 0, 1) := by decide +kernel
theorem dX3_readInto_29 : decode cX3_readInto 29 = .ok (.getfield 7, 3) := by decide +kernel
theorem dX3_readInto_32 : decode cX3_readInto 32 = .ok (.getfield 26, 3) := by decide +kernel
theorem dX3_readInto_35 : decode cX3_readInto 35 = .ok (.ifCond .ne 5, 3) := by decide +kernel
theorem dX3_readInto_38 : decode cX3_readInto 38 = .ok (.iload_n 2, 1) := by decide +kernel
theorem dX3_readInto_39 : decode cX3_readInto 39 = .ok (.ireturn, 1) := by decide +kernel
theorem dX3_readInto_40 : decode cX3_readInto 40 = .ok (.aload_n 0, 1) := by decide +kernel
theorem dX3_readInto_41 : decode cX3_readInto 41 = .ok (.getfield 7, 3) := by decide +kernel
theorem dX3_readInto_44 : decode cX3_readInto 44 = .ok (.getfield 26, 3) := by decide +kernel
theorem dX3_readInto_47 : decode cX3_readInto 47 = .ok (.iconst 3, 1) := by decide +kernel
theorem dX3_readInto_48 : decode cX3_readInto 48 = .ok (.if_icmp .eq 8, 3) := by decide +kernel
theorem dX3_readInto_51 : decode cX3_readInto 51 = .ok (.aload_n 0, 1) := by decide +kernel
theorem dX3_readInto_52 : decode cX3_readInto 52 = .ok (.invokevirtual 22, 3) := by decide +kernel
theorem dX3_readInto_55 : decode cX3_readInto 55 = .ok (.ireturn, 1) := by decide +kernel
theorem dX3_readInto_56 : decode cX3_readInto 56 = .ok (.aload_n 0, 1) := by decide +kernel
theorem dX3_readInto_57 : decode cX3_readInto 57 = .ok (.getfield 7, 3) := by decide +kernel
theorem dX3_readInto_60 : decode cX3_readInto 60 = .ok (.invokevirtual 30, 3) := by decide +kernel
theorem dX3_readInto_63 : decode cX3_readInto 63 = .ok (.iinc 2 1, 3) := by decide +kernel
theorem dX3_readInto_66 : decode cX3_readInto 66 = .ok (.goto (-57), 3) := by decide +kernel
theorem dX3_readInto_69 : decode cX3_readInto 69 = .ok (.aload_n 0, 1) := by decide +kernel
theorem dX3_readInto_70 : decode cX3_readInto 70 = .ok (.invokevirtual 22, 3) := by decide +kernel
theorem dX3_readInto_73 : decode cX3_readInto 73 = .ok (.ireturn, 1) := by decide +kernel
theorem dX3_readItem_0 : decode cX3_readItem 0 = .ok (.aload_n 0, 1) := by decide +kernel
theorem dX3_readItem_1 : decode cX3_readItem 1 = .ok (.getfield 7, 3) := by decide +kernel
theorem dX3_readItem_4 : decode cX3_readItem 4 = .ok (.ldc 36, 2) := by decide +kernel
theorem dX3_readItem_6 : decode cX3_readItem 6 = .ok (.invokevirtual 38, 3) := by decide +kernel
theorem dX3_readItem_9 : decode cX3_readItem 9 = .ok (.ifCond .eq 24, 3) := by decide +kernel
theorem dX3_readItem_12 : decode cX3_readItem 12 = .ok (.aload_n 1, 1) := by decide +kernel
theorem dX3_readItem_13 : decode cX3_readItem 13 = .ok (.invokevirtual 42, 3) := by decide +kernel
theorem dX3_readItem_16 : decode cX3_readItem 16 = .ok (.ifCond .ne 15, 3) := by decide +kernel
theorem dX3_readItem_19 : decode cX3_readItem 19 = .ok (.aload_n 0, 1) := by decide +kernel
theorem dX3_readItem_20 : decode cX3_readItem 20 = .ok (.aload_n 1, 1) := by decide +kernel
theorem dX3_readItem_21 : decode cX3_readItem 21 = .ok (.invokevirtual 48, 3) := by decide +kernel
theorem dX3_readItem_24 : decode cX3_readItem 24 = .ok (.ifCond .eq 7, 3) := by decide +kernel
theorem dX3_readItem_27 : decode cX3_readItem 27 = .ok (.iconst 1, 1) := by decide +kernel
theorem dX3_readItem_28 : decode cX3_readItem 28 = .ok (.goto 4, 3) := by decide +kernel
theorem dX3_readItem_31 : decode cX3_readItem 31 = .ok (.iconst 0, 1) := by decide +kernel
theorem dX3_readItem_32 : decode cX3_readItem 32 = .ok (.ireturn, 1) := by decide +kernel
theorem dX3_readItem_33 : decode cX3_readItem 33 = .ok (.aload_n 0, 1) := by decide +kernel
theorem dX3_readItem_34 : decode cX3_readItem 34 = .ok (.ldc 51, 2) := by decide +kernel
theorem dX3_readItem_36 : decode cX3_readItem 36 = .ok (.invokevirtual 53, 3) := by decide +kernel
theorem dX3_readItem_39 : decode cX3_readItem 39 = .ok (.ifCond .eq 9, 3) := by decide +kernel
theorem dX3_readItem_42 : decode cX3_readItem 42 = .ok (.aload_n 0, 1) := by decide +kernel
theorem dX3_readItem_43 : decode cX3_readItem 43 = .ok (.aload_n 1, 1) := by decide +kernel
theorem dX3_readItem_44 : decode cX3_readItem 44 = .ok (.invokevirtual 56, 3) := by decide +kernel
theorem dX3_readItem_47 : decode cX3_readItem 47 = .ok (.ireturn, 1) := by decide +kernel
theorem dX3_readItem_48 : decode cX3_readItem 48 = .ok (.aload_n 0, 1) := by decide +kernel
theorem dX3_readItem_49 : decode cX3_readItem 49 = .ok (.ldc 59, 2) := by decide +kernel
theorem dX3_readItem_51 : decode cX3_readItem 51 = .ok (.invokevirtual 53, 3) := by decide +kernel
theorem dX3_readItem_54 : decode cX3_readItem 54 = .ok (.ifCond .eq 9, 3) := by decide +kernel
theorem dX3_readItem_57 : decode cX3_readItem 57 = .ok (.aload_n 0, 1) := by decide +kernel
theorem dX3_readItem_58 : decode cX3_readItem 58 = .ok (.aload_n 1, 1) := by decide +kernel
theorem dX3_readItem_59 : decode cX3_readItem 59 = .ok (.invokevirtual 61, 3) := by decide +kernel
theorem dX3_readItem_62 : decode cX3_readItem 62 = .ok (.ireturn, 1) := by decide +kernel
theorem dX3_readItem_63 : decode cX3_readItem 63 = .ok (.aload_n 0, 1) := by decide +kernel
theorem dX3_readItem_64 : decode cX3_readItem 64 = .ok (.invokevirtual 64, 3) := by decide +kernel
theorem dX3_readItem_67 : decode cX3_readItem 67 = .ok (.istore_n 2, 1) := by decide +kernel
theorem dX3_readItem_68 : decode cX3_readItem 68 = .ok (.iload_n 2, 1) := by decide +kernel
theorem dX3_readItem_69 : decode cX3_readItem 69 = .ok (.bipush (-2), 2) := by decide +kernel
theorem dX3_readItem_71 : decode cX3_readItem 71 = .ok (.if_icmp .eq 16, 3) := by decide +kernel
theorem dX3_readItem_74 : decode cX3_readItem 74 = .ok (.aload_n 0, 1) := by decide +kernel
theorem dX3_readItem_75 : decode cX3_readItem 75 = .ok (.aload_n 1, 1) := by decide +kernel
theorem dX3_readItem_76 : decode cX3_readItem 76 = .ok (.iload_n 2, 1) := by decide +kernel
theorem dX3_readItem_77 : decode cX3_readItem 77 = .ok (.invokevirtual 67, 3) := by decide +kernel
theorem dX3_readItem_80 : decode cX3_readItem 80 = .ok (.ifCond .eq 7, 3) := by decide +kernel
theorem dX3_readItem_83 : decode cX3_readItem 83 = .ok (.iconst 1, 1) := by decide +kernel
theorem dX3_readItem_84 : decode cX3_readItem 84 = .ok (.goto 4, 3) := by decide +kernel
theorem dX3_readItem_87 : decode cX3_readItem 87 = .ok (.iconst 0, 1) := by decide +kernel
theorem dX3_readItem_88 : decode cX3_readItem 88 = .ok (.ireturn, 1) := by decide +kernel
theorem dX3_readKind_0 : decode cX3_readKind 0 = .ok (.aload_n 0, 1) := by decide +kernel
theorem dX3_readKind_1 : decode cX3_readKind 1 = .ok (.ldc 71, 2) := by decide +kernel
theorem dX3_readKind_3 : decode cX3_readKind 3 = .ok (.invokevirtual 53, 3) := by decide +kernel
theorem dX3_readKind_6 : decode cX3_readKind 6 = .ok (.ifCond .eq 5, 3) := by decide +kernel
theorem dX3_readKind_9 : decode cX3_readKind 9 = .ok (.iconst 0, 1) := by decide +kernel
theorem dX3_readKind_10 : decode cX3_readKind 10 = .ok (.ireturn, 1) := by decide +kernel
theorem dX3_readKind_11 : decode cX3_readKind 11 = .ok (.aload_n 0, 1) := by decide +kernel
theorem dX3_readKind_12 : decode cX3_readKind 12 = .ok (.ldc 73, 2) := by decide +kernel
theorem dX3_readKind_14 : decode cX3_readKind 14 = .ok (.invokevirtual 53, 3) := by decide +kernel
theorem dX3_readKind_17 : decode cX3_readKind 17 = .ok (.ifCond .eq 5, 3) := by decide +kernel
theorem dX3_readKind_20 : decode cX3_readKind 20 = .ok (.iconst 1, 1) := by decide +kernel
theorem dX3_readKind_21 : decode cX3_readKind 21 = .ok (.ireturn, 1) := by decide +kernel
theorem dX3_readKind_22 : decode cX3_readKind 22 = .ok (.aload_n 0, 1) := by decide +kernel
theorem dX3_readKind_23 : decode cX3_readKind 23 = .ok (.ldc 75, 2) := by decide +kernel
theorem dX3_readKind_25 : decode cX3_readKind 25 = .ok (.invokevirtual 53, 3) := by decide +kernel
theorem dX3_readKind_28 : decode cX3_readKind 28 = .ok (.ifCond .eq 5, 3) := by decide +kernel
theorem dX3_readKind_31 : decode cX3_readKind 31 = .ok (.iconst 2, 1) := by decide +kernel
theorem dX3_readKind_32 : decode cX3_readKind 32 = .ok (.ireturn, 1) := by decide +kernel
theorem dX3_readKind_33 : decode cX3_readKind 33 = .ok (.aload_n 0, 1) := by decide +kernel
theorem dX3_readKind_34 : decode cX3_readKind 34 = .ok (.ldc 77, 2) := by decide +kernel
theorem dX3_readKind_36 : decode cX3_readKind 36 = .ok (.invokevirtual 53, 3) := by decide +kernel
theorem dX3_readKind_39 : decode cX3_readKind 39 = .ok (.ifCond .eq 5, 3) := by decide +kernel
theorem dX3_readKind_42 : decode cX3_readKind 42 = .ok (.iconst 3, 1) := by decide +kernel
theorem dX3_readKind_43 : decode cX3_readKind 43 = .ok (.ireturn, 1) := by decide +kernel
theorem dX3_readKind_44 : decode cX3_readKind 44 = .ok (.aload_n 0, 1) := by decide +kernel
theorem dX3_readKind_45 : decode cX3_readKind 45 = .ok (.ldc 79, 2) := by decide +kernel
theorem dX3_readKind_47 : decode cX3_readKind 47 = .ok (.invokevirtual 53, 3) := by decide +kernel
theorem dX3_readKind_50 : decode cX3_readKind 50 = .ok (.ifCond .eq 5, 3) := by decide +kernel
theorem dX3_readKind_53 : decode cX3_readKind 53 = .ok (.iconst 4, 1) := by decide +kernel
theorem dX3_readKind_54 : decode cX3_readKind 54 = .ok (.ireturn, 1) := by decide +kernel
theorem dX3_readKind_55 : decode cX3_readKind 55 = .ok (.aload_n 0, 1) := by decide +kernel
theorem dX3_readKind_56 : decode cX3_readKind 56 = .ok (.ldc 81, 2) := by decide +kernel
theorem dX3_readKind_58 : decode cX3_readKind 58 = .ok (.invokevirtual 53, 3) := by decide +kernel
theorem dX3_readKind_61 : decode cX3_readKind 61 = .ok (.ifCond .eq 5, 3) := by decide +kernel
theorem dX3_readKind_64 : decode cX3_readKind 64 = .ok (.iconst 5, 1) := by decide +kernel
theorem dX3_readKind_65 : decode cX3_readKind 65 = .ok (.ireturn, 1) := by decide +kernel
theorem dX3_readKind_66 : decode cX3_readKind 66 = .ok (.aload_n 0, 1) := by decide +kernel
theorem dX3_readKind_67 : decode cX3_readKind 67 = .ok (.ldc 83, 2) := by decide +kernel
theorem dX3_readKind_69 : decode cX3_readKind 69 = .ok (.invokevirtual 53, 3) := by decide +kernel
theorem dX3_readKind_72 : decode cX3_readKind 72 = .ok (.ifCond .eq 8, 3) := by decide +kernel
theorem dX3_readKind_75 : decode cX3_readKind 75 = .ok (.bipush 6, 2) := by decide +kernel
theorem dX3_readKind_77 : decode cX3_readKind 77 = .ok (.goto 5, 3) := by decide +kernel
theorem dX3_readKind_80 : decode cX3_readKind 80 = .ok (.bipush (-2), 2) := by decide +kernel
theorem dX3_readKind_82 : decode cX3_readKind 82 = .ok (.ireturn, 1) := by decide +kernel
theorem dX3_readNumber_0 : decode cX3_readNumber 0 = .ok (.aload_n 0, 1) := by decide +kernel
theorem dX3_readNumber_1 : decode cX3_readNumber 1 = .ok (.getfield 7, 3) := by decide +kernel
theorem dX3_readNumber_4 : decode cX3_readNumber 4 = .ok (.getfield 121, 3) := by decide +kernel
theorem dX3_readNumber_7 : decode cX3_readNumber 7 = .ok (.istore_n 3, 1) := by decide +kernel
theorem dX3_readNumber_8 : decode cX3_readNumber 8 = .ok (.aload_n 0, 1) := by decide +kernel
theorem dX3_readNumber_9 : decode cX3_readNumber 9 = .ok (.getfield 7, 3) := by decide +kernel
theorem dX3_readNumber_12 : decode cX3_readNumber 12 = .ok (.getfield 26, 3) := by decide +kernel
theorem dX3_readNumber_15 : decode cX3_readNumber 15 = .ok (.iconst 2, 1) := by decide +kernel
theorem dX3_readNumber_16 : decode cX3_readNumber 16 = .ok (.if_icmp .ne 13, 3) := by decide +kernel
theorem dX3_readNumber_19 : decode cX3_readNumber 19 = .ok (.iload_n 3, 1) := by decide +kernel
theorem dX3_readNumber_20 : decode cX3_readNumber 20 = .ok (.iload_n 1, 1) := by decide +kernel
theorem dX3_readNumber_21 : decode cX3_readNumber 21 = .ok (.if_icmp .lt 8, 3) := by decide +kernel
theorem dX3_readNumber_24 : decode cX3_readNumber 24 = .ok (.iload_n 3, 1) := by decide +kernel
theorem dX3_readNumber_25 : decode cX3_readNumber 25 = .ok (.iload_n 2, 1) := by decide +kernel
theorem dX3_readNumber_26 : decode cX3_readNumber 26 = .ok (.if_icmp .le 6, 3) := by decide +kernel
theorem dX3_readNumber_29 : decode cX3_readNumber 29 = .ok (.bipush (-2), 2) := by decide +kernel
theorem dX3_readNumber_31 : decode cX3_readNumber 31 = .ok (.ireturn, 1) := by decide +kernel
theorem dX3_readNumber_32 : decode cX3_readNumber 32 = .ok (.aload_n 0, 1) := by decide +kernel
theorem dX3_readNumber_33 : decode cX3_readNumber 33 = .ok (.getfield 7, 3) := by decide +kernel
theorem dX3_readNumber_36 : decode cX3_readNumber 36 = .ok (.invokevirtual 30, 3) := by decide +kernel
theorem dX3_readNumber_39 : decode cX3_readNumber 39 = .ok (.iload_n 3, 1) := by decide +kernel
theorem dX3_readNumber_40 : decode cX3_readNumber 40 = .ok (.ireturn, 1) := by decide +kernel
theorem dX3_readRate_0 : decode cX3_readRate 0 = .ok (.aload_n 0, 1) := by decide +kernel
theorem dX3_readRate_1 : decode cX3_readRate 1 = .ok (.iconst 0, 1) := by decide +kernel
theorem dX3_readRate_2 : decode cX3_readRate 2 = .ok (.bipush 99, 2) := by decide +kernel
theorem dX3_readRate_4 : decode cX3_readRate 4 = .ok (.invokevirtual 85, 3) := by decide +kernel
theorem dX3_readRate_7 : decode cX3_readRate 7 = .ok (.istore_n 2, 1) := by decide +kernel
theorem dX3_readRate_8 : decode cX3_readRate 8 = .ok (.iload_n 2, 1) := by decide +kernel
theorem dX3_readRate_9 : decode cX3_readRate 9 = .ok (.bipush (-2), 2) := by decide +kernel
theorem dX3_readRate_11 : decode cX3_readRate 11 = .ok (.if_icmp .ne 5, 3) := by decide +kernel
theorem dX3_readRate_14 : decode cX3_readRate 14 = .ok (.iconst 0, 1) := by decide +kernel
theorem dX3_readRate_15 : decode cX3_readRate 15 = .ok (.ireturn, 1) := by decide +kernel
theorem dX3_readRate_16 : decode cX3_readRate 16 = .ok (.aload_n 1, 1) := by decide +kernel
theorem dX3_readRate_17 : decode cX3_readRate 17 = .ok (.iload_n 2, 1) := by decide +kernel
theorem dX3_readRate_18 : decode cX3_readRate 18 = .ok (.putfield 119, 3) := by decide +kernel
theorem dX3_readRate_21 : decode cX3_readRate 21 = .ok (.iconst 1, 1) := by decide +kernel
theorem dX3_readRate_22 : decode cX3_readRate 22 = .ok (.ireturn, 1) := by decide +kernel
theorem dX3_readThing_0 : decode cX3_readThing 0 = .ok (.aload_n 0, 1) := by decide +kernel
theorem dX3_readThing_1 : decode cX3_readThing 1 = .ok (.iconst 0, 1) := by decide +kernel
theorem dX3_readThing_2 : decode cX3_readThing 2 = .ok (.bipush 23, 2) := by decide +kernel
theorem dX3_readThing_4 : decode cX3_readThing 4 = .ok (.invokevirtual 85, 3) := by decide +kernel
theorem dX3_readThing_7 : decode cX3_readThing 7 = .ok (.istore_n 3, 1) := by decide +kernel
theorem dX3_readThing_8 : decode cX3_readThing 8 = .ok (.iload_n 3, 1) := by decide +kernel
theorem dX3_readThing_9 : decode cX3_readThing 9 = .ok (.bipush (-2), 2) := by decide +kernel
theorem dX3_readThing_11 : decode cX3_readThing 11 = .ok (.if_icmp .ne 5, 3) := by decide +kernel
theorem dX3_readThing_14 : decode cX3_readThing 14 = .ok (.iconst 0, 1) := by decide +kernel
theorem dX3_readThing_15 : decode cX3_readThing 15 = .ok (.ireturn, 1) := by decide +kernel
theorem dX3_readThing_16 : decode cX3_readThing 16 = .ok (.aload_n 0, 1) := by decide +kernel
theorem dX3_readThing_17 : decode cX3_readThing 17 = .ok (.ldc 89, 2) := by decide +kernel
theorem dX3_readThing_19 : decode cX3_readThing 19 = .ok (.invokevirtual 53, 3) := by decide +kernel
theorem dX3_readThing_22 : decode cX3_readThing 22 = .ok (.ifCond .eq 13, 3) := by decide +kernel
theorem dX3_readThing_25 : decode cX3_readThing 25 = .ok (.aload_n 0, 1) := by decide +kernel
theorem dX3_readThing_26 : decode cX3_readThing 26 = .ok (.iload_n 3, 1) := by decide +kernel
theorem dX3_readThing_27 : decode cX3_readThing 27 = .ok (.bipush 23, 2) := by decide +kernel
theorem dX3_readThing_29 : decode cX3_readThing 29 = .ok (.invokevirtual 85, 3) := by decide +kernel
theorem dX3_readThing_32 : decode cX3_readThing 32 = .ok (.goto 4, 3) := by decide +kernel
theorem dX3_readThing_35 : decode cX3_readThing 35 = .ok (.iload_n 3, 1) := by decide +kernel
theorem dX3_readThing_36 : decode cX3_readThing 36 = .ok (.istore 4, 2) := by decide +kernel
theorem dX3_readThing_38 : decode cX3_readThing 38 = .ok (.iload 4, 2) := by decide +kernel
theorem dX3_readThing_40 : decode cX3_readThing 40 = .ok (.bipush (-2), 2) := by decide +kernel
theorem dX3_readThing_42 : decode cX3_readThing 42 = .ok (.if_icmp .ne 5, 3) := by decide +kernel
theorem dX3_readThing_45 : decode cX3_readThing 45 = .ok (.iconst 0, 1) := by decide +kernel
theorem dX3_readThing_46 : decode cX3_readThing 46 = .ok (.ireturn, 1) := by decide +kernel
theorem dX3_readThing_47 : decode cX3_readThing 47 = .ok (.aload_n 0, 1) := by decide +kernel
theorem dX3_readThing_48 : decode cX3_readThing 48 = .ok (.ldc 91, 2) := by decide +kernel
theorem dX3_readThing_50 : decode cX3_readThing 50 = .ok (.invokevirtual 53, 3) := by decide +kernel
theorem dX3_readThing_53 : decode cX3_readThing 53 = .ok (.ifCond .eq 13, 3) := by decide +kernel
theorem dX3_readThing_56 : decode cX3_readThing 56 = .ok (.aload_n 0, 1) := by decide +kernel
theorem dX3_readThing_57 : decode cX3_readThing 57 = .ok (.iconst 0, 1) := by decide +kernel
theorem dX3_readThing_58 : decode cX3_readThing 58 = .ok (.bipush 99, 2) := by decide +kernel
theorem dX3_readThing_60 : decode cX3_readThing 60 = .ok (.invokevirtual 85, 3) := by decide +kernel
theorem dX3_readThing_63 : decode cX3_readThing 63 = .ok (.goto 4, 3) := by decide +kernel
theorem dX3_readThing_66 : decode cX3_readThing 66 = .ok (.iconst (-1), 1) := by decide +kernel
theorem dX3_readThing_67 : decode cX3_readThing 67 = .ok (.istore 5, 2) := by decide +kernel
theorem dX3_readThing_69 : decode cX3_readThing 69 = .ok (.iload 5, 2) := by decide +kernel
theorem dX3_readThing_71 : decode cX3_readThing 71 = .ok (.bipush (-2), 2) := by decide +kernel
theorem dX3_readThing_73 : decode cX3_readThing 73 = .ok (.if_icmp .ne 5, 3) := by decide +kernel
theorem dX3_readThing_76 : decode cX3_readThing 76 = .ok (.iconst 0, 1) := by decide +kernel
theorem dX3_readThing_77 : decode cX3_readThing 77 = .ok (.ireturn, 1) := by decide +kernel
theorem dX3_readThing_78 : decode cX3_readThing 78 = .ok (.aload_n 0, 1) := by decide +kernel
theorem dX3_readThing_79 : decode cX3_readThing 79 = .ok (.ldc 93, 2) := by decide +kernel
theorem dX3_readThing_81 : decode cX3_readThing 81 = .ok (.invokevirtual 53, 3) := by decide +kernel
theorem dX3_readThing_84 : decode cX3_readThing 84 = .ok (.ifCond .eq 13, 3) := by decide +kernel
theorem dX3_readThing_87 : decode cX3_readThing 87 = .ok (.aload_n 0, 1) := by decide +kernel
theorem dX3_readThing_88 : decode cX3_readThing 88 = .ok (.iconst 0, 1) := by decide +kernel
theorem dX3_readThing_89 : decode cX3_readThing 89 = .ok (.bipush 99, 2) := by decide +kernel
theorem dX3_readThing_91 : decode cX3_readThing 91 = .ok (.invokevirtual 85, 3) := by decide +kernel
theorem dX3_readThing_94 : decode cX3_readThing 94 = .ok (.goto 4, 3) := by decide +kernel
theorem dX3_readThing_97 : decode cX3_readThing 97 = .ok (.iconst 0, 1) := by decide +kernel
theorem dX3_readThing_98 : decode cX3_readThing 98 = .ok (.istore 6, 2) := by decide +kernel
theorem dX3_readThing_100 : decode cX3_readThing 100 = .ok (.iload 6, 2) := by decide +kernel
theorem dX3_readThing_102 : decode cX3_readThing 102 = .ok (.bipush (-2), 2) := by decide +kernel
theorem dX3_readThing_104 : decode cX3_readThing 104 = .ok (.if_icmp .ne 5, 3) := by decide +kernel
theorem dX3_readThing_107 : decode cX3_readThing 107 = .ok (.iconst 0, 1) := by decide +kernel
theorem dX3_readThing_108 : decode cX3_readThing 108 = .ok (.ireturn, 1) := by decide +kernel
theorem dX3_readThing_109 : decode cX3_readThing 109 = .ok (.iload_n 3, 1) := by decide +kernel
theorem dX3_readThing_110 : decode cX3_readThing 110 = .ok (.istore 7, 2) := by decide +kernel
theorem dX3_readThing_112 : decode cX3_readThing 112 = .ok (.iload 7, 2) := by decide +kernel
theorem dX3_readThing_114 : decode cX3_readThing 114 = .ok (.iload 4, 2) := by decide +kernel
theorem dX3_readThing_116 : decode cX3_readThing 116 = .ok (.if_icmp .gt 38, 3) := by decide +kernel
theorem dX3_readThing_119 : decode cX3_readThing 119 = .ok (.aload_n 1, 1) := by decide +kernel
theorem dX3_readThing_120 : decode cX3_readThing 120 = .ok (.iload 7, 2) := by decide +kernel
theorem dX3_readThing_122 : decode cX3_readThing 122 = .ok (.iload_n 2, 1) := by decide +kernel
theorem dX3_readThing_123 : decode cX3_readThing 123 = .ok (.invokevirtual 95, 3) := by decide +kernel
theorem dX3_readThing_126 : decode cX3_readThing 126 = .ok (.aload_n 1, 1) := by decide +kernel
theorem dX3_readThing_127 : decode cX3_readThing 127 = .ok (.iload 7, 2) := by decide +kernel
theorem dX3_readThing_129 : decode cX3_readThing 129 = .ok (.iload 6, 2) := by decide +kernel
theorem dX3_readThing_131 : decode cX3_readThing 131 = .ok (.invokevirtual 99, 3) := by decide +kernel
theorem dX3_readThing_134 : decode cX3_readThing 134 = .ok (.iload 5, 2) := by decide +kernel
theorem dX3_readThing_136 : decode cX3_readThing 136 = .ok (.iconst (-1), 1) := by decide +kernel
theorem dX3_readThing_137 : decode cX3_readThing 137 = .ok (.if_icmp .eq 11, 3) := by decide +kernel
theorem dX3_readThing_140 : decode cX3_readThing 140 = .ok (.aload_n 1, 1) := by decide +kernel
theorem dX3_readThing_141 : decode cX3_readThing 141 = .ok (.iload 7, 2) := by decide +kernel
theorem dX3_readThing_143 : decode cX3_readThing 143 = .ok (.iload 5, 2) := by decide +kernel
theorem dX3_readThing_145 : decode cX3_readThing 145 = .ok (.invokevirtual 102, 3) := by decide +kernel
theorem dX3_readThing_148 : decode cX3_readThing 148 = .ok (.iinc 7 1, 3) := by decide +kernel
theorem dX3_readThing_151 : decode cX3_readThing 151 = .ok (.goto (-39), 3) := by decide +kernel
theorem dX3_readThing_154 : decode cX3_readThing 154 = .ok (.iconst 1, 1) := by decide +kernel
theorem dX3_readThing_155 : decode cX3_readThing 155 = .ok (.ireturn, 1) := by decide +kernel
end
section
theorem dX4_ahead_0 : decode cX4_ahead 0 = .ok (.iload_n 1, 1) := by decide +kernel
theorem dX4_ahead_1 : decode cX4_ahead 1 = .ok (.invokestatic 183, 3) := by decide +kernel
theorem dX4_ahead_4 : decode cX4_ahead 4 = .ok (.ifCond .eq 18, 3) := by decide +kernel
theorem dX4_ahead_7 : decode cX4_ahead 7 = .ok (.iload_n 2, 1) := by decide +kernel
theorem dX4_ahead_8 : decode cX4_ahead 8 = .ok (.iconst 0, 1) := by decide +kernel
theorem dX4_ahead_9 : decode cX4_ahead 9 = .ok (.aload_n 0, 1) := by decide +kernel
theorem dX4_ahead_10 : decode cX4_ahead 10 = .ok (.getfield 10, 3) := by decide +kernel
theorem dX4_ahead_13 : decode cX4_ahead 13 = .ok (.getfield 107, 3) := by decide +kernel
theorem dX4_ahead_16 : decode cX4_ahead 16 = .ok (.invokestatic 60, 3) := by decide +kernel
theorem dX4_ahead_19 : decode cX4_ahead 19 = .ok (.ifCond .ne 9, 3) := by decide +kernel
theorem dX4_ahead_22 : decode cX4_ahead 22 = .ok (.aload_n 0, 1) := by decide +kernel
theorem dX4_ahead_23 : decode cX4_ahead 23 = .ok (.iconst 0, 1) := by decide +kernel
theorem dX4_ahead_24 : decode cX4_ahead 24 = .ok (.invokevirtual 64, 3) := by decide +kernel
theorem dX4_ahead_27 : decode cX4_ahead 27 = .ok (.ireturn, 1) := by decide +kernel
theorem dX4_ahead_28 : decode cX4_ahead 28 = .ok (.aload_n 0, 1) := by decide +kernel
theorem dX4_ahead_29 : decode cX4_ahead 29 = .ok (.iload_n 1, 1) := by decide +kernel
theorem dX4_ahead_30 : decode cX4_ahead 30 = .ok (.invokevirtual 186, 3) := by decide +kernel
theorem dX4_ahead_33 : decode cX4_ahead 33 = .ok (.ifCond .eq 9, 3) := by decide +kernel
theorem dX4_ahead_36 : decode cX4_ahead 36 = .ok (.aload_n 0, 1) := by decide +kernel
theorem dX4_ahead_37 : decode cX4_ahead 37 = .ok (.iconst 4, 1) := by decide +kernel
theorem dX4_ahead_38 : decode cX4_ahead 38 = .ok (.invokevirtual 64, 3) := by decide +kernel
theorem dX4_ahead_41 : decode cX4_ahead 41 = .ok (.ireturn, 1) := by decide +kernel
theorem dX4_ahead_42 : decode cX4_ahead 42 = .ok (.aload_n 0, 1) := by decide +kernel
theorem dX4_ahead_43 : decode cX4_ahead 43 = .ok (.iload_n 1, 1) := by decide +kernel
theorem dX4_ahead_44 : decode cX4_ahead 44 = .ok (.invokevirtual 192, 3) := by decide +kernel
theorem dX4_ahead_47 : decode cX4_ahead 47 = .ok (.iload_n 2, 1) := by decide +kernel
theorem dX4_ahead_48 : decode cX4_ahead 48 = .ok (.ifCond .ne 13, 3) := by decide +kernel
theorem dX4_ahead_51 : decode cX4_ahead 51 = .ok (.aload_n 0, 1) := by decide +kernel
theorem dX4_ahead_52 : decode cX4_ahead 52 = .ok (.getfield 16, 3) := by decide +kernel
theorem dX4_ahead_55 : decode cX4_ahead 55 = .ok (.invokevirtual 158, 3) := by decide +kernel
theorem dX4_ahead_58 : decode cX4_ahead 58 = .ok (.goto 13, 3) := by decide +kernel
theorem dX4_ahead_61 : decode cX4_ahead 61 = .ok (.aload_n 0, 1) := by decide +kernel
theorem dX4_ahead_62 : decode cX4_ahead 62 = .ok (.getfield 16, 3) := by decide +kernel
theorem dX4_ahead_65 : decode cX4_ahead 65 = .ok (.iload_n 2, 1) := by decide +kernel
theorem dX4_ahead_66 : decode cX4_ahead 66 = .ok (.iconst 1, 1) := by decide +kernel
theorem dX4_ahead_67 : decode cX4_ahead 67 = .ok (.isub, 1) := by decide +kernel
theorem dX4_ahead_68 : decode cX4_ahead 68 = .ok (.invokevirtual 155, 3) := by decide +kernel
theorem dX4_ahead_71 : decode cX4_ahead 71 = .ok (.ireturn, 1) := by decide +kernel
theorem dX4_all_0 : decode cX4_all 0 = .ok (.aload_n 0, 1) := by decide +kernel
theorem dX4_all_1 : decode cX4_all 1 = .ok (.getfield 10, 3) := by decide +kernel
theorem dX4_all_4 : decode cX4_all 4 = .ok (.invokevirtual 158, 3) := by decide +kernel
theorem dX4_all_7 : decode cX4_all 7 = .ok (.ireturn, 1) := by decide +kernel
theorem dX4_as_0 : decode cX4_as 0 = .ok (.iload_n 1, 1) := by decide +kernel
theorem dX4_as_1 : decode cX4_as 1 = .ok (.invokestatic 232, 3) := by decide +kernel
theorem dX4_as_4 : decode cX4_as 4 = .ok (.ifCond .eq 10, 3) := by decide +kernel
theorem dX4_as_7 : decode cX4_as 7 = .ok (.iload_n 2, 1) := by decide +kernel
theorem dX4_as_8 : decode cX4_as 8 = .ok (.invokestatic 81, 3) := by decide +kernel
theorem dX4_as_11 : decode cX4_as 11 = .ok (.ifCond .ne 9, 3) := by decide +kernel
theorem dX4_as_14 : decode cX4_as 14 = .ok (.aload_n 0, 1) := by decide +kernel
theorem dX4_as_15 : decode cX4_as 15 = .ok (.iconst 0, 1) := by decide +kernel
theorem dX4_as_16 : decode cX4_as 16 = .ok (.invokevirtual 64, 3) := by decide +kernel
theorem dX4_as_19 : decode cX4_as 19 = .ok (.ireturn, 1) := by decide +kernel
theorem dX4_as_20 : decode cX4_as 20 = .ok (.aload_n 0, 1) := by decide +kernel
theorem dX4_as_21 : decode cX4_as 21 = .ok (.getfield 10, 3) := by decide +kernel
theorem dX4_as_24 : decode cX4_as 24 = .ok (.getfield 235, 3) := by decide +kernel
theorem dX4_as_27 : decode cX4_as 27 = .ok (.iload_n 1, 1) := by decide +kernel
theorem dX4_as_28 : decode cX4_as 28 = .ok (.iaload, 1) := by decide +kernel
theorem dX4_as_29 : decode cX4_as 29 = .ok (.istore_n 3, 1) := by decide +kernel
theorem dX4_as_30 : decode cX4_as 30 = .ok (.iload_n 3, 1) := by decide +kernel
theorem dX4_as_31 : decode cX4_as 31 = .ok (.invokestatic 56, 3) := by decide +kernel
theorem dX4_as_34 : decode cX4_as 34 = .ok (.ifCond .ne 9, 3) := by decide +kernel
theorem dX4_as_37 : decode cX4_as 37 = .ok (.aload_n 0, 1) := by decide +kernel
theorem dX4_as_38 : decode cX4_as 38 = .ok (.iconst 5, 1) := by decide +kernel
theorem dX4_as_39 : decode cX4_as 39 = .ok (.invokevirtual 64, 3) := by decide +kernel
theorem dX4_as_42 : decode cX4_as 42 = .ok (.ireturn, 1) := by decide +kernel
theorem dX4_as_43 : decode cX4_as 43 = .ok (.aload_n 0, 1) := by decide +kernel
theorem dX4_as_44 : decode cX4_as 44 = .ok (.getfield 10, 3) := by decide +kernel
theorem dX4_as_47 : decode cX4_as 47 = .ok (.getfield 84, 3) := by decide +kernel
theorem dX4_as_50 : decode cX4_as 50 = .ok (.iload_n 3, 1) := by decide +kernel
theorem dX4_as_51 : decode cX4_as 51 = .ok (.iaload, 1) := by decide +kernel
theorem dX4_as_52 : decode cX4_as 52 = .ok (.iload_n 2, 1) := by decide +kernel
theorem dX4_as_53 : decode cX4_as 53 = .ok (.invokestatic 238, 3) := by decide +kernel
theorem dX4_as_56 : decode cX4_as 56 = .ok (.ifCond .eq 7, 3) := by decide +kernel
theorem dX4_as_59 : decode cX4_as 59 = .ok (.iload_n 3, 1) := by decide +kernel
theorem dX4_as_60 : decode cX4_as 60 = .ok (.goto 8, 3) := by decide +kernel
theorem dX4_as_63 : decode cX4_as 63 = .ok (.aload_n 0, 1) := by decide +kernel
theorem dX4_as_64 : decode cX4_as 64 = .ok (.iconst 2, 1) := by decide +kernel
theorem dX4_as_65 : decode cX4_as 65 = .ok (.invokevirtual 64, 3) := by decide +kernel
theorem dX4_as_68 : decode cX4_as 68 = .ok (.ireturn, 1) := by decide +kernel
theorem dX4_blind_0 : decode cX4_blind 0 = .ok (.ldc 203, 2) := by decide +kernel
theorem dX4_blind_2 : decode cX4_blind 2 = .ok (.aload_n 0, 1) := by decide +kernel
theorem dX4_blind_3 : decode cX4_blind 3 = .ok (.getfield 10, 3) := by decide +kernel
theorem dX4_blind_6 : decode cX4_blind 6 = .ok (.invokevirtual 204, 3) := by decide +kernel
theorem dX4_blind_9 : decode cX4_blind 9 = .ok (.iconst (-1), 1) := by decide +kernel
theorem dX4_blind_10 : decode cX4_blind 10 = .ok (.ixor, 1) := by decide +kernel
theorem dX4_blind_11 : decode cX4_blind 11 = .ok (.iand, 1) := by decide +kernel
theorem dX4_blind_12 : decode cX4_blind 12 = .ok (.ireturn, 1) := by decide +kernel
theorem dX4_cell_0 : decode cX4_cell 0 = .ok (.iload_n 1, 1) := by decide +kernel
theorem dX4_cell_1 : decode cX4_cell 1 = .ok (.invokestatic 56, 3) := by decide +kernel
theorem dX4_cell_4 : decode cX4_cell 4 = .ok (.ifCond .eq 22, 3) := by decide +kernel
theorem dX4_cell_7 : decode cX4_cell 7 = .ok (.iload_n 2, 1) := by decide +kernel
theorem dX4_cell_8 : decode cX4_cell 8 = .ok (.iconst 0, 1) := by decide +kernel
theorem dX4_cell_9 : decode cX4_cell 9 = .ok (.iconst 1, 1) := by decide +kernel
theorem dX4_cell_10 : decode cX4_cell 10 = .ok (.invokestatic 60, 3) := by decide +kernel
theorem dX4_cell_13 : decode cX4_cell 13 = .ok (.ifCond .eq 13, 3) := by decide +kernel
theorem dX4_cell_16 : decode cX4_cell 16 = .ok (.iload_n 3, 1) := by decide +kernel
theorem dX4_cell_17 : decode cX4_cell 17 = .ok (.iconst 0, 1) := by decide +kernel
theorem dX4_cell_18 : decode cX4_cell 18 = .ok (.bipush 99, 2) := by decide +kernel
theorem dX4_cell_20 : decode cX4_cell 20 = .ok (.invokestatic 60, 3) := by decide +kernel
theorem dX4_cell_23 : decode cX4_cell 23 = .ok (.ifCond .ne 9, 3) := by decide +kernel
theorem dX4_cell_26 : decode cX4_cell 26 = .ok (.aload_n 0, 1) := by decide +kernel
theorem dX4_cell_27 : decode cX4_cell 27 = .ok (.iconst 0, 1) := by decide +kernel
theorem dX4_cell_28 : decode cX4_cell 28 = .ok (.invokevirtual 64, 3) := by decide +kernel
theorem dX4_cell_31 : decode cX4_cell 31 = .ok (.ireturn, 1) := by decide +kernel
theorem dX4_cell_32 : decode cX4_cell 32 = .ok (.iload_n 2, 1) := by decide +kernel
theorem dX4_cell_33 : decode cX4_cell 33 = .ok (.ifCond .ne 26, 3) := by decide +kernel
theorem dX4_cell_36 : decode cX4_cell 36 = .ok (.aload_n 0, 1) := by decide +kernel
theorem dX4_cell_37 : decode cX4_cell 37 = .ok (.getfield 10, 3) := by decide +kernel
theorem dX4_cell_40 : decode cX4_cell 40 = .ok (.getfield 68, 3) := by decide +kernel
theorem dX4_cell_43 : decode cX4_cell 43 = .ok (.iload_n 1, 1) := by decide +kernel
theorem dX4_cell_44 : decode cX4_cell 44 = .ok (.iaload, 1) := by decide +kernel
theorem dX4_cell_45 : decode cX4_cell 45 = .ok (.istore 4, 2) := by decide +kernel
theorem dX4_cell_47 : decode cX4_cell 47 = .ok (.aload_n 0, 1) := by decide +kernel
theorem dX4_cell_48 : decode cX4_cell 48 = .ok (.getfield 10, 3) := by decide +kernel
theorem dX4_cell_51 : decode cX4_cell 51 = .ok (.iload_n 1, 1) := by decide +kernel
theorem dX4_cell_52 : decode cX4_cell 52 = .ok (.iload_n 3, 1) := by decide +kernel
theorem dX4_cell_53 : decode cX4_cell 53 = .ok (.invokevirtual 71, 3) := by decide +kernel
theorem dX4_cell_56 : decode cX4_cell 56 = .ok (.iload 4, 2) := by decide +kernel
theorem dX4_cell_58 : decode cX4_cell 58 = .ok (.ireturn, 1) := by decide +kernel
theorem dX4_cell_59 : decode cX4_cell 59 = .ok (.aload_n 0, 1) := by decide +kernel
theorem dX4_cell_60 : decode cX4_cell 60 = .ok (.getfield 10, 3) := by decide +kernel
theorem dX4_cell_63 : decode cX4_cell 63 = .ok (.getfield 75, 3) := by decide +kernel
theorem dX4_cell_66 : decode cX4_cell 66 = .ok (.iload_n 1, 1) := by decide +kernel
theorem dX4_cell_67 : decode cX4_cell 67 = .ok (.iaload, 1) := by decide +kernel
theorem dX4_cell_68 : decode cX4_cell 68 = .ok (.istore 4, 2) := by decide +kernel
theorem dX4_cell_70 : decode cX4_cell 70 = .ok (.aload_n 0, 1) := by decide +kernel
theorem dX4_cell_71 : decode cX4_cell 71 = .ok (.getfield 10, 3) := by decide +kernel
theorem dX4_cell_74 : decode cX4_cell 74 = .ok (.iload_n 1, 1) := by decide +kernel
theorem dX4_cell_75 : decode cX4_cell 75 = .ok (.iload_n 3, 1) := by decide +kernel
theorem dX4_cell_76 : decode cX4_cell 76 = .ok (.invokevirtual 78, 3) := by decide +kernel
theorem dX4_cell_79 : decode cX4_cell 79 = .ok (.iload 4, 2) := by decide +kernel
theorem dX4_cell_81 : decode cX4_cell 81 = .ok (.ireturn, 1) := by decide +kernel
theorem dX4_cellOf_0 : decode cX4_cellOf 0 = .ok (.iload_n 1, 1) := by decide +kernel
theorem dX4_cellOf_1 : decode cX4_cellOf 1 = .ok (.invokestatic 56, 3) := by decide +kernel
theorem dX4_cellOf_4 : decode cX4_cellOf 4 = .ok (.ifCond .ne 9, 3) := by decide +kernel
theorem dX4_cellOf_7 : decode cX4_cellOf 7 = .ok (.aload_n 0, 1) := by decide +kernel
theorem dX4_cellOf_8 : decode cX4_cellOf 8 = .ok (.iconst 0, 1) := by decide +kernel
theorem dX4_cellOf_9 : decode cX4_cellOf 9 = .ok (.invokevirtual 64, 3) := by decide +kernel
theorem dX4_cellOf_12 : decode cX4_cellOf 12 = .ok (.ireturn, 1) := by decide +kernel
theorem dX4_cellOf_13 : decode cX4_cellOf 13 = .ok (.iload_n 2, 1) := by decide +kernel
theorem dX4_cellOf_14 : decode cX4_cellOf 14 = .ok (.tableswitch 83 0 4 #[34, 44, 54, 64, 74], 34) := by decide +kernel
theorem dX4_cellOf_48 : decode cX4_cellOf 48 = .ok (.aload_n 0, 1) := by decide +kernel
theorem dX4_cellOf_49 : decode cX4_cellOf 49 = .ok (.getfield 10, 3) := by decide +kernel
theorem dX4_cellOf_52 : decode cX4_cellOf 52 = .ok (.getfield 84, 3) := by decide +kernel
theorem dX4_cellOf_55 : decode cX4_cellOf 55 = .ok (.iload_n 1, 1) := by decide +kernel
theorem dX4_cellOf_56 : decode cX4_cellOf 56 = .ok (.iaload, 1) := by decide +kernel
theorem dX4_cellOf_57 : decode cX4_cellOf 57 = .ok (.ireturn, 1) := by decide +kernel
theorem dX4_cellOf_58 : decode cX4_cellOf 58 = .ok (.aload_n 0, 1) := by decide +kernel
theorem dX4_cellOf_59 : decode cX4_cellOf 59 = .ok (.getfield 10, 3) := by decide +kernel
theorem dX4_cellOf_62 : decode cX4_cellOf 62 = .ok (.getfield 68, 3) := by decide +kernel
theorem dX4_cellOf_65 : decode cX4_cellOf 65 = .ok (.iload_n 1, 1) := by decide +kernel
theorem dX4_cellOf_66 : decode cX4_cellOf 66 = .ok (.iaload, 1) := by decide +kernel
theorem dX4_cellOf_67 : decode cX4_cellOf 67 = .ok (.ireturn, 1) := by decide +kernel
theorem dX4_cellOf_68 : decode cX4_cellOf 68 = .ok (.aload_n 0, 1) := by decide +kernel
theorem dX4_cellOf_69 : decode cX4_cellOf 69 = .ok (.getfield 10, 3) := by decide +kernel
theorem dX4_cellOf_72 : decode cX4_cellOf 72 = .ok (.getfield 75, 3) := by decide +kernel
theorem dX4_cellOf_75 : decode cX4_cellOf 75 = .ok (.iload_n 1, 1) := by decide +kernel
theorem dX4_cellOf_76 : decode cX4_cellOf 76 = .ok (.iaload, 1) := by decide +kernel
theorem dX4_cellOf_77 : decode cX4_cellOf 77 = .ok (.ireturn, 1) := by decide +kernel
theorem dX4_cellOf_78 : decode cX4_cellOf 78 = .ok (.aload_n 0, 1) := by decide +kernel
theorem dX4_cellOf_79 : decode cX4_cellOf 79 = .ok (.getfield 10, 3) := by decide +kernel
theorem dX4_cellOf_82 : decode cX4_cellOf 82 = .ok (.getfield 90, 3) := by decide +kernel
theorem dX4_cellOf_85 : decode cX4_cellOf 85 = .ok (.iload_n 1, 1) := by decide +kernel
theorem dX4_cellOf_86 : decode cX4_cellOf 86 = .ok (.iaload, 1) := by decide +kernel
theorem dX4_cellOf_87 : decode cX4_cellOf 87 = .ok (.ireturn, 1) := by decide +kernel
theorem dX4_cellOf_88 : decode cX4_cellOf 88 = .ok (.aload_n 0, 1) := by decide +kernel
theorem dX4_cellOf_89 : decode cX4_cellOf 89 = .ok (.getfield 10, 3) := by decide +kernel
theorem dX4_cellOf_92 : decode cX4_cellOf 92 = .ok (.iload_n 1, 1) := by decide +kernel
theorem dX4_cellOf_93 : decode cX4_cellOf 93 = .ok (.invokevirtual 93, 3) := by decide +kernel
theorem dX4_cellOf_96 : decode cX4_cellOf 96 = .ok (.ireturn, 1) := by decide +kernel
theorem dX4_cellOf_97 : decode cX4_cellOf 97 = .ok (.aload_n 0, 1) := by decide +kernel
theorem dX4_cellOf_98 : decode cX4_cellOf 98 = .ok (.iconst 0, 1) := by decide +kernel
theorem dX4_cellOf_99 : decode cX4_cellOf 99 = .ok (.invokevirtual 64, 3) := by decide +kernel
theorem dX4_cellOf_102 : decode cX4_cellOf 102 = .ok (.ireturn, 1) := by decide +kernel
theorem dX4_cheapest_0 : decode cX4_cheapest 0 = .ok (.aload_n 0, 1) := by decide +kernel
theorem dX4_cheapest_1 : decode cX4_cheapest 1 = .ok (.iload_n 1, 1) := by decide +kernel
theorem dX4_cheapest_2 : decode cX4_cheapest 2 = .ok (.invokevirtual 111, 3) := by decide +kernel
theorem dX4_cheapest_5 : decode cX4_cheapest 5 = .ok (.ifCond .ne 9, 3) := by decide +kernel
theorem dX4_cheapest_8 : decode cX4_cheapest 8 = .ok (.aload_n 0, 1) := by decide +kernel
theorem dX4_cheapest_9 : decode cX4_cheapest 9 = .ok (.iconst 0, 1) := by decide +kernel
theorem dX4_cheapest_10 : decode cX4_cheapest 10 = .ok (.invokevirtual 64, 3) := by decide +kernel
theorem dX4_cheapest_13 : decode cX4_cheapest 13 = .ok (.ireturn, 1) := by decide +kernel
theorem dX4_cheapest_14 : decode cX4_cheapest 14 = .ok (.aload_n 0, 1) := by decide +kernel
theorem dX4_cheapest_15 : decode cX4_cheapest 15 = .ok (.iload_n 1, 1) := by decide +kernel
theorem dX4_cheapest_16 : decode cX4_cheapest 16 = .ok (.invokevirtual 162, 3) := by decide +kernel
theorem dX4_cheapest_19 : decode cX4_cheapest 19 = .ok (.ireturn, 1) := by decide +kernel
theorem dX4_copy_0 : decode cX4_copy 0 = .ok (.iload_n 1, 1) := by decide +kernel
theorem dX4_copy_1 : decode cX4_copy 1 = .ok (.invokestatic 241, 3) := by decide +kernel
theorem dX4_copy_4 : decode cX4_copy 4 = .ok (.ifCond .eq 10, 3) := by decide +kernel
theorem dX4_copy_7 : decode cX4_copy 7 = .ok (.iload_n 3, 1) := by decide +kernel
theorem dX4_copy_8 : decode cX4_copy 8 = .ok (.invokestatic 241, 3) := by decide +kernel
theorem dX4_copy_11 : decode cX4_copy 11 = .ok (.ifCond .ne 9, 3) := by decide +kernel
theorem dX4_copy_14 : decode cX4_copy 14 = .ok (.aload_n 0, 1) := by decide +kernel
theorem dX4_copy_15 : decode cX4_copy 15 = .ok (.iconst 0, 1) := by decide +kernel
theorem dX4_copy_16 : decode cX4_copy 16 = .ok (.invokevirtual 64, 3) := by decide +kernel
theorem dX4_copy_19 : decode cX4_copy 19 = .ok (.ireturn, 1) := by decide +kernel
theorem dX4_copy_20 : decode cX4_copy 20 = .ok (.aload_n 0, 1) := by decide +kernel
theorem dX4_copy_21 : decode cX4_copy 21 = .ok (.getfield 45, 3) := by decide +kernel
theorem dX4_copy_24 : decode cX4_copy 24 = .ok (.iload_n 1, 1) := by decide +kernel
theorem dX4_copy_25 : decode cX4_copy 25 = .ok (.invokevirtual 250, 3) := by decide +kernel
theorem dX4_copy_28 : decode cX4_copy 28 = .ok (.ifCond .ne 14, 3) := by decide +kernel
theorem dX4_copy_31 : decode cX4_copy 31 = .ok (.aload_n 0, 1) := by decide +kernel
theorem dX4_copy_32 : decode cX4_copy 32 = .ok (.getfield 45, 3) := by decide +kernel
theorem dX4_copy_35 : decode cX4_copy 35 = .ok (.iload_n 3, 1) := by decide +kernel
theorem dX4_copy_36 : decode cX4_copy 36 = .ok (.invokevirtual 250, 3) := by decide +kernel
theorem dX4_copy_39 : decode cX4_copy 39 = .ok (.ifCond .eq 9, 3) := by decide +kernel
theorem dX4_copy_42 : decode cX4_copy 42 = .ok (.aload_n 0, 1) := by decide +kernel
theorem dX4_copy_43 : decode cX4_copy 43 = .ok (.iconst 5, 1) := by decide +kernel
theorem dX4_copy_44 : decode cX4_copy 44 = .ok (.invokevirtual 64, 3) := by decide +kernel
theorem dX4_copy_47 : decode cX4_copy 47 = .ok (.ireturn, 1) := by decide +kernel
theorem dX4_copy_48 : decode cX4_copy 48 = .ok (.aload_n 0, 1) := by decide +kernel
theorem dX4_copy_49 : decode cX4_copy 49 = .ok (.getfield 45, 3) := by decide +kernel
theorem dX4_copy_52 : decode cX4_copy 52 = .ok (.getfield 259, 3) := by decide +kernel
theorem dX4_copy_55 : decode cX4_copy 55 = .ok (.iload_n 1, 1) := by decide +kernel
theorem dX4_copy_56 : decode cX4_copy 56 = .ok (.iaload, 1) := by decide +kernel
theorem dX4_copy_57 : decode cX4_copy 57 = .ok (.aload_n 0, 1) := by decide +kernel
theorem dX4_copy_58 : decode cX4_copy 58 = .ok (.getfield 45, 3) := by decide +kernel
theorem dX4_copy_61 : decode cX4_copy 61 = .ok (.getfield 259, 3) := by decide +kernel
theorem dX4_copy_64 : decode cX4_copy 64 = .ok (.iload_n 3, 1) := by decide +kernel
theorem dX4_copy_65 : decode cX4_copy 65 = .ok (.iaload, 1) := by decide +kernel
theorem dX4_copy_66 : decode cX4_copy 66 = .ok (.if_icmp .eq 9, 3) := by decide +kernel
theorem dX4_copy_69 : decode cX4_copy 69 = .ok (.aload_n 0, 1) := by decide +kernel
theorem dX4_copy_70 : decode cX4_copy 70 = .ok (.iconst 2, 1) := by decide +kernel
theorem dX4_copy_71 : decode cX4_copy 71 = .ok (.invokevirtual 64, 3) := by decide +kernel
theorem dX4_copy_74 : decode cX4_copy 74 = .ok (.ireturn, 1) := by decide +kernel
theorem dX4_copy_75 : decode cX4_copy 75 = .ok (.aload_n 0, 1) := by decide +kernel
theorem dX4_copy_76 : decode cX4_copy 76 = .ok (.getfield 45, 3) := by decide +kernel
theorem dX4_copy_79 : decode cX4_copy 79 = .ok (.iload_n 1, 1) := by decide +kernel
theorem dX4_copy_80 : decode cX4_copy 80 = .ok (.iload_n 2, 1) := by decide +kernel
theorem dX4_copy_81 : decode cX4_copy 81 = .ok (.iload 5, 2) := by decide +kernel
theorem dX4_copy_83 : decode cX4_copy 83 = .ok (.invokevirtual 253, 3) := by decide +kernel
theorem dX4_copy_86 : decode cX4_copy 86 = .ok (.ifCond .eq 18, 3) := by decide +kernel
theorem dX4_copy_89 : decode cX4_copy 89 = .ok (.aload_n 0, 1) := by decide +kernel
theorem dX4_copy_90 : decode cX4_copy 90 = .ok (.getfield 45, 3) := by decide +kernel
theorem dX4_copy_93 : decode cX4_copy 93 = .ok (.iload_n 3, 1) := by decide +kernel
theorem dX4_copy_94 : decode cX4_copy 94 = .ok (.iload 4, 2) := by decide +kernel
theorem dX4_copy_96 : decode cX4_copy 96 = .ok (.iload 5, 2) := by decide +kernel
theorem dX4_copy_98 : decode cX4_copy 98 = .ok (.invokevirtual 253, 3) := by decide +kernel
theorem dX4_copy_101 : decode cX4_copy 101 = .ok (.ifCond .ne 9, 3) := by decide +kernel
theorem dX4_copy_104 : decode cX4_copy 104 = .ok (.aload_n 0, 1) := by decide +kernel
theorem dX4_copy_105 : decode cX4_copy 105 = .ok (.iconst 0, 1) := by decide +kernel
theorem dX4_copy_106 : decode cX4_copy 106 = .ok (.invokevirtual 64, 3) := by decide +kernel
theorem dX4_copy_109 : decode cX4_copy 109 = .ok (.ireturn, 1) := by decide +kernel
theorem dX4_copy_110 : decode cX4_copy 110 = .ok (.aload_n 0, 1) := by decide +kernel
theorem dX4_copy_111 : decode cX4_copy 111 = .ok (.getfield 45, 3) := by decide +kernel
theorem dX4_copy_114 : decode cX4_copy 114 = .ok (.iload_n 1, 1) := by decide +kernel
theorem dX4_copy_115 : decode cX4_copy 115 = .ok (.iload_n 2, 1) := by decide +kernel
theorem dX4_copy_116 : decode cX4_copy 116 = .ok (.iload_n 3, 1) := by decide +kernel
theorem dX4_copy_117 : decode cX4_copy 117 = .ok (.iload 4, 2) := by decide +kernel
theorem dX4_copy_119 : decode cX4_copy 119 = .ok (.iload 5, 2) := by decide +kernel
theorem dX4_copy_121 : decode cX4_copy 121 = .ok (.invokevirtual 262, 3) := by decide +kernel
theorem dX4_copy_124 : decode cX4_copy 124 = .ok (.iload 5, 2) := by decide +kernel
theorem dX4_copy_126 : decode cX4_copy 126 = .ok (.ireturn, 1) := by decide +kernel
theorem dX4_count_0 : decode cX4_count 0 = .ok (.iload_n 1, 1) := by decide +kernel
theorem dX4_count_1 : decode cX4_count 1 = .ok (.tableswitch 102 0 6 #[43, 51, 59, 67, 78, 86, 94], 43) := by decide +kernel
theorem dX4_count_44 : decode cX4_count 44 = .ok (.aload_n 0, 1) := by decide +kernel
theorem dX4_count_45 : decode cX4_count 45 = .ok (.getfield 10, 3) := by decide +kernel
theorem dX4_count_48 : decode cX4_count 48 = .ok (.getfield 210, 3) := by decide +kernel
theorem dX4_count_51 : decode cX4_count 51 = .ok (.ireturn, 1) := by decide +kernel
theorem dX4_count_52 : decode cX4_count 52 = .ok (.aload_n 0, 1) := by decide +kernel
theorem dX4_count_53 : decode cX4_count 53 = .ok (.getfield 10, 3) := by decide +kernel
theorem dX4_count_56 : decode cX4_count 56 = .ok (.getfield 107, 3) := by decide +kernel
theorem dX4_count_59 : decode cX4_count 59 = .ok (.ireturn, 1) := by decide +kernel
theorem dX4_count_60 : decode cX4_count 60 = .ok (.aload_n 0, 1) := by decide +kernel
theorem dX4_count_61 : decode cX4_count 61 = .ok (.getfield 10, 3) := by decide +kernel
theorem dX4_count_64 : decode cX4_count 64 = .ok (.invokevirtual 158, 3) := by decide +kernel
theorem dX4_count_67 : decode cX4_count 67 = .ok (.ireturn, 1) := by decide +kernel
theorem dX4_count_68 : decode cX4_count 68 = .ok (.aload_n 0, 1) := by decide +kernel
theorem dX4_count_69 : decode cX4_count 69 = .ok (.getfield 10, 3) := by decide +kernel
theorem dX4_count_72 : decode cX4_count 72 = .ok (.invokevirtual 204, 3) := by decide +kernel
theorem dX4_count_75 : decode cX4_count 75 = .ok (.invokestatic 169, 3) := by decide +kernel
theorem dX4_count_78 : decode cX4_count 78 = .ok (.ireturn, 1) := by decide +kernel
theorem dX4_count_79 : decode cX4_count 79 = .ok (.aload_n 0, 1) := by decide +kernel
theorem dX4_count_80 : decode cX4_count 80 = .ok (.getfield 29, 3) := by decide +kernel
theorem dX4_count_83 : decode cX4_count 83 = .ok (.getfield 225, 3) := by decide +kernel
theorem dX4_count_86 : decode cX4_count 86 = .ok (.ireturn, 1) := by decide +kernel
theorem dX4_count_87 : decode cX4_count 87 = .ok (.aload_n 0, 1) := by decide +kernel
theorem dX4_count_88 : decode cX4_count 88 = .ok (.getfield 10, 3) := by decide +kernel
theorem dX4_count_91 : decode cX4_count 91 = .ok (.getfield 216, 3) := by decide +kernel
theorem dX4_count_94 : decode cX4_count 94 = .ok (.ireturn, 1) := by decide +kernel
theorem dX4_count_95 : decode cX4_count 95 = .ok (.aload_n 0, 1) := by decide +kernel
theorem dX4_count_96 : decode cX4_count 96 = .ok (.getfield 10, 3) := by decide +kernel
theorem dX4_count_99 : decode cX4_count 99 = .ok (.invokevirtual 269, 3) := by decide +kernel
theorem dX4_count_102 : decode cX4_count 102 = .ok (.ireturn, 1) := by decide +kernel
theorem dX4_count_103 : decode cX4_count 103 = .ok (.aload_n 0, 1) := by decide +kernel
theorem dX4_count_104 : decode cX4_count 104 = .ok (.iconst 0, 1) := by decide +kernel
theorem dX4_count_105 : decode cX4_count 105 = .ok (.invokevirtual 64, 3) := by decide +kernel
theorem dX4_count_108 : decode cX4_count 108 = .ok (.ireturn, 1) := by decide +kernel
theorem dX4_dig_0 : decode cX4_dig 0 = .ok (.iload_n 1, 1) := by decide +kernel
theorem dX4_dig_1 : decode cX4_dig 1 = .ok (.invokestatic 56, 3) := by decide +kernel
theorem dX4_dig_4 : decode cX4_dig 4 = .ok (.ifCond .eq 25, 3) := by decide +kernel
theorem dX4_dig_7 : decode cX4_dig 7 = .ok (.iload_n 2, 1) := by decide +kernel
theorem dX4_dig_8 : decode cX4_dig 8 = .ok (.invokestatic 56, 3) := by decide +kernel
theorem dX4_dig_11 : decode cX4_dig 11 = .ok (.ifCond .eq 18, 3) := by decide +kernel
theorem dX4_dig_14 : decode cX4_dig 14 = .ok (.iload_n 2, 1) := by decide +kernel
theorem dX4_dig_15 : decode cX4_dig 15 = .ok (.iload_n 1, 1) := by decide +kernel
theorem dX4_dig_16 : decode cX4_dig 16 = .ok (.if_icmp .lt 13, 3) := by decide +kernel
theorem dX4_dig_19 : decode cX4_dig 19 = .ok (.iload_n 3, 1) := by decide +kernel
theorem dX4_dig_20 : decode cX4_dig 20 = .ok (.iconst 1, 1) := by decide +kernel
theorem dX4_dig_21 : decode cX4_dig 21 = .ok (.bipush 99, 2) := by decide +kernel
theorem dX4_dig_23 : decode cX4_dig 23 = .ok (.invokestatic 60, 3) := by decide +kernel
theorem dX4_dig_26 : decode cX4_dig 26 = .ok (.ifCond .ne 9, 3) := by decide +kernel
theorem dX4_dig_29 : decode cX4_dig 29 = .ok (.aload_n 0, 1) := by decide +kernel
theorem dX4_dig_30 : decode cX4_dig 30 = .ok (.iconst 0, 1) := by decide +kernel
theorem dX4_dig_31 : decode cX4_dig 31 = .ok (.invokevirtual 64, 3) := by decide +kernel
theorem dX4_dig_34 : decode cX4_dig 34 = .ok (.ireturn, 1) := by decide +kernel
theorem dX4_dig_35 : decode cX4_dig 35 = .ok (.iconst 0, 1) := by decide +kernel
theorem dX4_dig_36 : decode cX4_dig 36 = .ok (.istore 4, 2) := by decide +kernel
theorem dX4_dig_38 : decode cX4_dig 38 = .ok (.iload_n 1, 1) := by decide +kernel
theorem dX4_dig_39 : decode cX4_dig 39 = .ok (.istore 5, 2) := by decide +kernel
theorem dX4_dig_41 : decode cX4_dig 41 = .ok (.iload 5, 2) := by decide +kernel
theorem dX4_dig_43 : decode cX4_dig 43 = .ok (.iload_n 2, 1) := by decide +kernel
theorem dX4_dig_44 : decode cX4_dig 44 = .ok (.if_icmp .gt 35, 3) := by decide +kernel
theorem dX4_dig_47 : decode cX4_dig 47 = .ok (.aload_n 0, 1) := by decide +kernel
theorem dX4_dig_48 : decode cX4_dig 48 = .ok (.getfield 10, 3) := by decide +kernel
theorem dX4_dig_51 : decode cX4_dig 51 = .ok (.iload 5, 2) := by decide +kernel
theorem dX4_dig_53 : decode cX4_dig 53 = .ok (.iload_n 3, 1) := by decide +kernel
theorem dX4_dig_54 : decode cX4_dig 54 = .ok (.invokevirtual 132, 3) := by decide +kernel
theorem dX4_dig_57 : decode cX4_dig 57 = .ok (.aload_n 0, 1) := by decide +kernel
theorem dX4_dig_58 : decode cX4_dig 58 = .ok (.getfield 10, 3) := by decide +kernel
theorem dX4_dig_61 : decode cX4_dig 61 = .ok (.getfield 68, 3) := by decide +kernel
theorem dX4_dig_64 : decode cX4_dig 64 = .ok (.iload 5, 2) := by decide +kernel
theorem dX4_dig_66 : decode cX4_dig 66 = .ok (.iaload, 1) := by decide +kernel
theorem dX4_dig_67 : decode cX4_dig 67 = .ok (.ifCond .ne 6, 3) := by decide +kernel
theorem dX4_dig_70 : decode cX4_dig 70 = .ok (.iinc 4 1, 3) := by decide +kernel
theorem dX4_dig_73 : decode cX4_dig 73 = .ok (.iinc 5 1, 3) := by decide +kernel
theorem dX4_dig_76 : decode cX4_dig 76 = .ok (.goto (-35), 3) := by decide +kernel
theorem dX4_dig_79 : decode cX4_dig 79 = .ok (.iload 4, 2) := by decide +kernel
theorem dX4_dig_81 : decode cX4_dig 81 = .ok (.ireturn, 1) := by decide +kernel
theorem dX4_drain_0 : decode cX4_drain 0 = .ok (.iload_n 1, 1) := by decide +kernel
theorem dX4_drain_1 : decode cX4_drain 1 = .ok (.iconst 0, 1) := by decide +kernel
theorem dX4_drain_2 : decode cX4_drain 2 = .ok (.bipush 20, 2) := by decide +kernel
theorem dX4_drain_4 : decode cX4_drain 4 = .ok (.invokestatic 60, 3) := by decide +kernel
theorem dX4_drain_7 : decode cX4_drain 7 = .ok (.ifCond .ne 9, 3) := by decide +kernel
theorem dX4_drain_10 : decode cX4_drain 10 = .ok (.aload_n 0, 1) := by decide +kernel
theorem dX4_drain_11 : decode cX4_drain 11 = .ok (.iconst 0, 1) := by decide +kernel
theorem dX4_drain_12 : decode cX4_drain 12 = .ok (.invokevirtual 64, 3) := by decide +kernel
theorem dX4_drain_15 : decode cX4_drain 15 = .ok (.ireturn, 1) := by decide +kernel
theorem dX4_drain_16 : decode cX4_drain 16 = .ok (.iconst 0, 1) := by decide +kernel
theorem dX4_drain_17 : decode cX4_drain 17 = .ok (.istore_n 2, 1) := by decide +kernel
theorem dX4_drain_18 : decode cX4_drain 18 = .ok (.iconst 0, 1) := by decide +kernel
theorem dX4_drain_19 : decode cX4_drain 19 = .ok (.istore_n 3, 1) := by decide +kernel
theorem dX4_drain_20 : decode cX4_drain 20 = .ok (.iload_n 3, 1) := by decide +kernel
theorem dX4_drain_21 : decode cX4_drain 21 = .ok (.bipush 24, 2) := by decide +kernel
theorem dX4_drain_23 : decode cX4_drain 23 = .ok (.if_icmp .ge 43, 3) := by decide +kernel
theorem dX4_drain_26 : decode cX4_drain 26 = .ok (.aload_n 0, 1) := by decide +kernel
theorem dX4_drain_27 : decode cX4_drain 27 = .ok (.getfield 10, 3) := by decide +kernel
theorem dX4_drain_30 : decode cX4_drain 30 = .ok (.getfield 84, 3) := by decide +kernel
theorem dX4_drain_33 : decode cX4_drain 33 = .ok (.iload_n 3, 1) := by decide +kernel
theorem dX4_drain_34 : decode cX4_drain 34 = .ok (.iaload, 1) := by decide +kernel
theorem dX4_drain_35 : decode cX4_drain 35 = .ok (.iconst 1, 1) := by decide +kernel
theorem dX4_drain_36 : decode cX4_drain 36 = .ok (.if_icmp .ne 24, 3) := by decide +kernel
theorem dX4_drain_39 : decode cX4_drain 39 = .ok (.aload_n 0, 1) := by decide +kernel
theorem dX4_drain_40 : decode cX4_drain 40 = .ok (.getfield 10, 3) := by decide +kernel
theorem dX4_drain_43 : decode cX4_drain 43 = .ok (.iload_n 3, 1) := by decide +kernel
theorem dX4_drain_44 : decode cX4_drain 44 = .ok (.iconst 2, 1) := by decide +kernel
theorem dX4_drain_45 : decode cX4_drain 45 = .ok (.invokevirtual 135, 3) := by decide +kernel
theorem dX4_drain_48 : decode cX4_drain 48 = .ok (.aload_n 0, 1) := by decide +kernel
theorem dX4_drain_49 : decode cX4_drain 49 = .ok (.getfield 10, 3) := by decide +kernel
theorem dX4_drain_52 : decode cX4_drain 52 = .ok (.iload_n 3, 1) := by decide +kernel
theorem dX4_drain_53 : decode cX4_drain 53 = .ok (.iload_n 1, 1) := by decide +kernel
theorem dX4_drain_54 : decode cX4_drain 54 = .ok (.invokevirtual 132, 3) := by decide +kernel
theorem dX4_drain_57 : decode cX4_drain 57 = .ok (.iinc 2 1, 3) := by decide +kernel
theorem dX4_drain_60 : decode cX4_drain 60 = .ok (.iinc 3 1, 3) := by decide +kernel
theorem dX4_drain_63 : decode cX4_drain 63 = .ok (.goto (-43), 3) := by decide +kernel
theorem dX4_drain_66 : decode cX4_drain 66 = .ok (.iload_n 2, 1) := by decide +kernel
theorem dX4_drain_67 : decode cX4_drain 67 = .ok (.ireturn, 1) := by decide +kernel
theorem dX4_feed_0 : decode cX4_feed 0 = .ok (.iload_n 2, 1) := by decide +kernel
theorem dX4_feed_1 : decode cX4_feed 1 = .ok (.iconst 1, 1) := by decide +kernel
theorem dX4_feed_2 : decode cX4_feed 2 = .ok (.iconst 4, 1) := by decide +kernel
theorem dX4_feed_3 : decode cX4_feed 3 = .ok (.invokestatic 60, 3) := by decide +kernel
theorem dX4_feed_6 : decode cX4_feed 6 = .ok (.ifCond .ne 9, 3) := by decide +kernel
theorem dX4_feed_9 : decode cX4_feed 9 = .ok (.aload_n 0, 1) := by decide +kernel
theorem dX4_feed_10 : decode cX4_feed 10 = .ok (.iconst 0, 1) := by decide +kernel
theorem dX4_feed_11 : decode cX4_feed 11 = .ok (.invokevirtual 64, 3) := by decide +kernel
theorem dX4_feed_14 : decode cX4_feed 14 = .ok (.ireturn, 1) := by decide +kernel
theorem dX4_feed_15 : decode cX4_feed 15 = .ok (.aload_n 0, 1) := by decide +kernel
theorem dX4_feed_16 : decode cX4_feed 16 = .ok (.getfield 29, 3) := by decide +kernel
theorem dX4_feed_19 : decode cX4_feed 19 = .ok (.iload_n 2, 1) := by decide +kernel
theorem dX4_feed_20 : decode cX4_feed 20 = .ok (.invokevirtual 219, 3) := by decide +kernel
theorem dX4_feed_23 : decode cX4_feed 23 = .ok (.ifCond .ne 9, 3) := by decide +kernel
theorem dX4_feed_26 : decode cX4_feed 26 = .ok (.aload_n 0, 1) := by decide +kernel
theorem dX4_feed_27 : decode cX4_feed 27 = .ok (.iconst 1, 1) := by decide +kernel
theorem dX4_feed_28 : decode cX4_feed 28 = .ok (.invokevirtual 64, 3) := by decide +kernel
theorem dX4_feed_31 : decode cX4_feed 31 = .ok (.ireturn, 1) := by decide +kernel
theorem dX4_feed_32 : decode cX4_feed 32 = .ok (.iload_n 2, 1) := by decide +kernel
theorem dX4_feed_33 : decode cX4_feed 33 = .ok (.iconst 1, 1) := by decide +kernel
theorem dX4_feed_34 : decode cX4_feed 34 = .ok (.isub, 1) := by decide +kernel
theorem dX4_feed_35 : decode cX4_feed 35 = .ok (.istore_n 3, 1) := by decide +kernel
theorem dX4_feed_36 : decode cX4_feed 36 = .ok (.iload_n 3, 1) := by decide +kernel
theorem dX4_feed_37 : decode cX4_feed 37 = .ok (.ifCond .lt 22, 3) := by decide +kernel
theorem dX4_feed_40 : decode cX4_feed 40 = .ok (.aload_n 0, 1) := by decide +kernel
theorem dX4_feed_41 : decode cX4_feed 41 = .ok (.getfield 29, 3) := by decide +kernel
theorem dX4_feed_44 : decode cX4_feed 44 = .ok (.iload_n 1, 1) := by decide +kernel
theorem dX4_feed_45 : decode cX4_feed 45 = .ok (.bipush 8, 2) := by decide +kernel
theorem dX4_feed_47 : decode cX4_feed 47 = .ok (.iload_n 3, 1) := by decide +kernel
theorem dX4_feed_48 : decode cX4_feed 48 = .ok (.imul, 1) := by decide +kernel
theorem dX4_feed_49 : decode cX4_feed 49 = .ok (.iushr, 1) := by decide +kernel
theorem dX4_feed_50 : decode cX4_feed 50 = .ok (.invokevirtual 222, 3) := by decide +kernel
theorem dX4_feed_53 : decode cX4_feed 53 = .ok (.iinc 3 (-1), 3) := by decide +kernel
theorem dX4_feed_56 : decode cX4_feed 56 = .ok (.goto (-20), 3) := by decide +kernel
theorem dX4_feed_59 : decode cX4_feed 59 = .ok (.aload_n 0, 1) := by decide +kernel
theorem dX4_feed_60 : decode cX4_feed 60 = .ok (.getfield 29, 3) := by decide +kernel
theorem dX4_feed_63 : decode cX4_feed 63 = .ok (.getfield 225, 3) := by decide +kernel
theorem dX4_feed_66 : decode cX4_feed 66 = .ok (.ireturn, 1) := by decide +kernel
theorem dX4_floor_0 : decode cX4_floor 0 = .ok (.aload_n 0, 1) := by decide +kernel
theorem dX4_floor_1 : decode cX4_floor 1 = .ok (.iload_n 1, 1) := by decide +kernel
theorem dX4_floor_2 : decode cX4_floor 2 = .ok (.invokevirtual 111, 3) := by decide +kernel
theorem dX4_floor_5 : decode cX4_floor 5 = .ok (.ifCond .eq 10, 3) := by decide +kernel
theorem dX4_floor_8 : decode cX4_floor 8 = .ok (.iload_n 2, 1) := by decide +kernel
theorem dX4_floor_9 : decode cX4_floor 9 = .ok (.invokestatic 96, 3) := by decide +kernel
theorem dX4_floor_12 : decode cX4_floor 12 = .ok (.ifCond .ne 9, 3) := by decide +kernel
theorem dX4_floor_15 : decode cX4_floor 15 = .ok (.aload_n 0, 1) := by decide +kernel
theorem dX4_floor_16 : decode cX4_floor 16 = .ok (.iconst 0, 1) := by decide +kernel
theorem dX4_floor_17 : decode cX4_floor 17 = .ok (.invokevirtual 64, 3) := by decide +kernel
theorem dX4_floor_20 : decode cX4_floor 20 = .ok (.ireturn, 1) := by decide +kernel
theorem dX4_floor_21 : decode cX4_floor 21 = .ok (.aload_n 0, 1) := by decide +kernel
theorem dX4_floor_22 : decode cX4_floor 22 = .ok (.getfield 10, 3) := by decide +kernel
theorem dX4_floor_25 : decode cX4_floor 25 = .ok (.getfield 117, 3) := by decide +kernel
theorem dX4_floor_28 : decode cX4_floor 28 = .ok (.iload_n 1, 1) := by decide +kernel
theorem dX4_floor_29 : decode cX4_floor 29 = .ok (.iaload, 1) := by decide +kernel
theorem dX4_floor_30 : decode cX4_floor 30 = .ok (.istore_n 3, 1) := by decide +kernel
theorem dX4_floor_31 : decode cX4_floor 31 = .ok (.aload_n 0, 1) := by decide +kernel
theorem dX4_floor_32 : decode cX4_floor 32 = .ok (.getfield 10, 3) := by decide +kernel
theorem dX4_floor_35 : decode cX4_floor 35 = .ok (.getfield 117, 3) := by decide +kernel
theorem dX4_floor_38 : decode cX4_floor 38 = .ok (.iload_n 1, 1) := by decide +kernel
theorem dX4_floor_39 : decode cX4_floor 39 = .ok (.iload_n 2, 1) := by decide +kernel
theorem dX4_floor_40 : decode cX4_floor 40 = .ok (.iastore, 1) := by decide +kernel
theorem dX4_floor_41 : decode cX4_floor 41 = .ok (.iload_n 3, 1) := by decide +kernel
theorem dX4_floor_42 : decode cX4_floor 42 = .ok (.ireturn, 1) := by decide +kernel
theorem dX4_gains_0 : decode cX4_gains 0 = .ok (.iload_n 1, 1) := by decide +kernel
theorem dX4_gains_1 : decode cX4_gains 1 = .ok (.invokestatic 56, 3) := by decide +kernel
theorem dX4_gains_4 : decode cX4_gains 4 = .ok (.ifCond .eq 17, 3) := by decide +kernel
theorem dX4_gains_7 : decode cX4_gains 7 = .ok (.iload_n 2, 1) := by decide +kernel
theorem dX4_gains_8 : decode cX4_gains 8 = .ok (.invokestatic 81, 3) := by decide +kernel
theorem dX4_gains_11 : decode cX4_gains 11 = .ok (.ifCond .eq 10, 3) := by decide +kernel
theorem dX4_gains_14 : decode cX4_gains 14 = .ok (.iload_n 3, 1) := by decide +kernel
theorem dX4_gains_15 : decode cX4_gains 15 = .ok (.invokestatic 183, 3) := by decide +kernel
theorem dX4_gains_18 : decode cX4_gains 18 = .ok (.ifCond .ne 9, 3) := by decide +kernel
theorem dX4_gains_21 : decode cX4_gains 21 = .ok (.aload_n 0, 1) := by decide +kernel
theorem dX4_gains_22 : decode cX4_gains 22 = .ok (.iconst 0, 1) := by decide +kernel
theorem dX4_gains_23 : decode cX4_gains 23 = .ok (.invokevirtual 64, 3) := by decide +kernel
theorem dX4_gains_26 : decode cX4_gains 26 = .ok (.ireturn, 1) := by decide +kernel
theorem dX4_gains_27 : decode cX4_gains 27 = .ok (.aload_n 0, 1) := by decide +kernel
theorem dX4_gains_28 : decode cX4_gains 28 = .ok (.iload_n 3, 1) := by decide +kernel
theorem dX4_gains_29 : decode cX4_gains 29 = .ok (.invokevirtual 186, 3) := by decide +kernel
theorem dX4_gains_32 : decode cX4_gains 32 = .ok (.ifCond .eq 9, 3) := by decide +kernel
theorem dX4_gains_35 : decode cX4_gains 35 = .ok (.aload_n 0, 1) := by decide +kernel
theorem dX4_gains_36 : decode cX4_gains 36 = .ok (.iconst 4, 1) := by decide +kernel
theorem dX4_gains_37 : decode cX4_gains 37 = .ok (.invokevirtual 64, 3) := by decide +kernel
theorem dX4_gains_40 : decode cX4_gains 40 = .ok (.ireturn, 1) := by decide +kernel
theorem dX4_gains_41 : decode cX4_gains 41 = .ok (.aload_n 0, 1) := by decide +kernel
theorem dX4_gains_42 : decode cX4_gains 42 = .ok (.iload_n 3, 1) := by decide +kernel
theorem dX4_gains_43 : decode cX4_gains 43 = .ok (.invokevirtual 192, 3) := by decide +kernel
theorem dX4_gains_46 : decode cX4_gains 46 = .ok (.iconst 0, 1) := by decide +kernel
theorem dX4_gains_47 : decode cX4_gains 47 = .ok (.istore 4, 2) := by decide +kernel
theorem dX4_gains_49 : decode cX4_gains 49 = .ok (.iload 4, 2) := by decide +kernel
theorem dX4_gains_51 : decode cX4_gains 51 = .ok (.aload_n 0, 1) := by decide +kernel
theorem dX4_gains_52 : decode cX4_gains 52 = .ok (.getfield 10, 3) := by decide +kernel
theorem dX4_gains_55 : decode cX4_gains 55 = .ok (.getfield 107, 3) := by decide +kernel
theorem dX4_gains_58 : decode cX4_gains 58 = .ok (.if_icmp .ge 25, 3) := by decide +kernel
theorem dX4_gains_61 : decode cX4_gains 61 = .ok (.aload_n 0, 1) := by decide +kernel
theorem dX4_gains_62 : decode cX4_gains 62 = .ok (.getfield 53, 3) := by decide +kernel
theorem dX4_gains_65 : decode cX4_gains 65 = .ok (.iload 4, 2) := by decide +kernel
theorem dX4_gains_67 : decode cX4_gains 67 = .ok (.aload_n 0, 1) := by decide +kernel
theorem dX4_gains_68 : decode cX4_gains 68 = .ok (.getfield 16, 3) := by decide +kernel
theorem dX4_gains_71 : decode cX4_gains 71 = .ok (.iload 4, 2) := by decide +kernel
theorem dX4_gains_73 : decode cX4_gains 73 = .ok (.invokevirtual 155, 3) := by decide +kernel
theorem dX4_gains_76 : decode cX4_gains 76 = .ok (.iastore, 1) := by decide +kernel
theorem dX4_gains_77 : decode cX4_gains 77 = .ok (.iinc 4 1, 3) := by decide +kernel
theorem dX4_gains_80 : decode cX4_gains 80 = .ok (.goto (-31), 3) := by decide +kernel
theorem dX4_gains_83 : decode cX4_gains 83 = .ok (.aload_n 0, 1) := by decide +kernel
theorem dX4_gains_84 : decode cX4_gains 84 = .ok (.iload_n 1, 1) := by decide +kernel
theorem dX4_gains_85 : decode cX4_gains 85 = .ok (.iload_n 2, 1) := by decide +kernel
theorem dX4_gains_86 : decode cX4_gains 86 = .ok (.iload_n 3, 1) := by decide +kernel
theorem dX4_gains_87 : decode cX4_gains 87 = .ok (.invokevirtual 189, 3) := by decide +kernel
theorem dX4_gains_90 : decode cX4_gains 90 = .ok (.iconst 0, 1) := by decide +kernel
theorem dX4_gains_91 : decode cX4_gains 91 = .ok (.istore 4, 2) := by decide +kernel
theorem dX4_gains_93 : decode cX4_gains 93 = .ok (.iconst 0, 1) := by decide +kernel
theorem dX4_gains_94 : decode cX4_gains 94 = .ok (.istore 5, 2) := by decide +kernel
theorem dX4_gains_96 : decode cX4_gains 96 = .ok (.iload 5, 2) := by decide +kernel
theorem dX4_gains_98 : decode cX4_gains 98 = .ok (.aload_n 0, 1) := by decide +kernel
theorem dX4_gains_99 : decode cX4_gains 99 = .ok (.getfield 10, 3) := by decide +kernel
theorem dX4_gains_102 : decode cX4_gains 102 = .ok (.getfield 107, 3) := by decide +kernel
theorem dX4_gains_105 : decode cX4_gains 105 = .ok (.if_icmp .ge 37, 3) := by decide +kernel
theorem dX4_gains_108 : decode cX4_gains 108 = .ok (.aload_n 0, 1) := by decide +kernel
theorem dX4_gains_109 : decode cX4_gains 109 = .ok (.getfield 16, 3) := by decide +kernel
theorem dX4_gains_112 : decode cX4_gains 112 = .ok (.iload 5, 2) := by decide +kernel
theorem dX4_gains_114 : decode cX4_gains 114 = .ok (.invokevirtual 155, 3) := by decide +kernel
theorem dX4_gains_117 : decode cX4_gains 117 = .ok (.aload_n 0, 1) := by decide +kernel
theorem dX4_gains_118 : decode cX4_gains 118 = .ok (.getfield 53, 3) := by decide +kernel
theorem dX4_gains_121 : decode cX4_gains 121 = .ok (.iload 5, 2) := by decide +kernel
theorem dX4_gains_123 : decode cX4_gains 123 = .ok (.iaload, 1) := by decide +kernel
theorem dX4_gains_124 : decode cX4_gains 124 = .ok (.if_icmp .ge 12, 3) := by decide +kernel
theorem dX4_gains_127 : decode cX4_gains 127 = .ok (.iload 4, 2) := by decide +kernel
theorem dX4_gains_129 : decode cX4_gains 129 = .ok (.iconst 1, 1) := by decide +kernel
theorem dX4_gains_130 : decode cX4_gains 130 = .ok (.iload 5, 2) := by decide +kernel
theorem dX4_gains_132 : decode cX4_gains 132 = .ok (.ishl, 1) := by decide +kernel
theorem dX4_gains_133 : decode cX4_gains 133 = .ok (.ior, 1) := by decide +kernel
theorem dX4_gains_134 : decode cX4_gains 134 = .ok (.istore 4, 2) := by decide +kernel
theorem dX4_gains_136 : decode cX4_gains 136 = .ok (.iinc 5 1, 3) := by decide +kernel
theorem dX4_gains_139 : decode cX4_gains 139 = .ok (.goto (-43), 3) := by decide +kernel
theorem dX4_gains_142 : decode cX4_gains 142 = .ok (.iload 4, 2) := by decide +kernel
theorem dX4_gains_144 : decode cX4_gains 144 = .ok (.ireturn, 1) := by decide +kernel
theorem dX4_height_0 : decode cX4_height 0 = .ok (.iload_n 1, 1) := by decide +kernel
theorem dX4_height_1 : decode cX4_height 1 = .ok (.invokestatic 56, 3) := by decide +kernel
theorem dX4_height_4 : decode cX4_height 4 = .ok (.ifCond .eq 28, 3) := by decide +kernel
theorem dX4_height_7 : decode cX4_height 7 = .ok (.aload_n 0, 1) := by decide +kernel
theorem dX4_height_8 : decode cX4_height 8 = .ok (.iload_n 2, 1) := by decide +kernel
theorem dX4_height_9 : decode cX4_height 9 = .ok (.invokevirtual 111, 3) := by decide +kernel
theorem dX4_height_12 : decode cX4_height 12 = .ok (.ifCond .eq 20, 3) := by decide +kernel
theorem dX4_height_15 : decode cX4_height 15 = .ok (.iload_n 3, 1) := by decide +kernel
theorem dX4_height_16 : decode cX4_height 16 = .ok (.invokestatic 174, 3) := by decide +kernel
theorem dX4_height_19 : decode cX4_height 19 = .ok (.ifCond .eq 13, 3) := by decide +kernel
theorem dX4_height_22 : decode cX4_height 22 = .ok (.iload 4, 2) := by decide +kernel
theorem dX4_height_24 : decode cX4_height 24 = .ok (.iconst 0, 1) := by decide +kernel
theorem dX4_height_25 : decode cX4_height 25 = .ok (.iconst 1, 1) := by decide +kernel
theorem dX4_height_26 : decode cX4_height 26 = .ok (.invokestatic 60, 3) := by decide +kernel
theorem dX4_height_29 : decode cX4_height 29 = .ok (.ifCond .ne 9, 3) := by decide +kernel
theorem dX4_height_32 : decode cX4_height 32 = .ok (.aload_n 0, 1) := by decide +kernel
theorem dX4_height_33 : decode cX4_height 33 = .ok (.iconst 0, 1) := by decide +kernel
theorem dX4_height_34 : decode cX4_height 34 = .ok (.invokevirtual 64, 3) := by decide +kernel
theorem dX4_height_37 : decode cX4_height 37 = .ok (.ireturn, 1) := by decide +kernel
theorem dX4_height_38 : decode cX4_height 38 = .ok (.aload_n 0, 1) := by decide +kernel
theorem dX4_height_39 : decode cX4_height 39 = .ok (.getfield 16, 3) := by decide +kernel
theorem dX4_height_42 : decode cX4_height 42 = .ok (.aload_n 0, 1) := by decide +kernel
theorem dX4_height_43 : decode cX4_height 43 = .ok (.getfield 10, 3) := by decide +kernel
theorem dX4_height_46 : decode cX4_height 46 = .ok (.invokevirtual 165, 3) := by decide +kernel
theorem dX4_height_49 : decode cX4_height 49 = .ok (.iconst 0, 1) := by decide +kernel
theorem dX4_height_50 : decode cX4_height 50 = .ok (.istore 5, 2) := by decide +kernel
theorem dX4_height_52 : decode cX4_height 52 = .ok (.iload 5, 2) := by decide +kernel
theorem dX4_height_54 : decode cX4_height 54 = .ok (.bipush 99, 2) := by decide +kernel
theorem dX4_height_56 : decode cX4_height 56 = .ok (.if_icmp .gt 51, 3) := by decide +kernel
theorem dX4_height_59 : decode cX4_height 59 = .ok (.iload 4, 2) := by decide +kernel
theorem dX4_height_61 : decode cX4_height 61 = .ok (.ifCond .ne 8, 3) := by decide +kernel
theorem dX4_height_64 : decode cX4_height 64 = .ok (.iload 5, 2) := by decide +kernel
theorem dX4_height_66 : decode cX4_height 66 = .ok (.goto 8, 3) := by decide +kernel
theorem dX4_height_69 : decode cX4_height 69 = .ok (.bipush 99, 2) := by decide +kernel
theorem dX4_height_71 : decode cX4_height 71 = .ok (.iload 5, 2) := by decide +kernel
theorem dX4_height_73 : decode cX4_height 73 = .ok (.isub, 1) := by decide +kernel
theorem dX4_height_74 : decode cX4_height 74 = .ok (.istore 6, 2) := by decide +kernel
theorem dX4_height_76 : decode cX4_height 76 = .ok (.aload_n 0, 1) := by decide +kernel
theorem dX4_height_77 : decode cX4_height 77 = .ok (.getfield 16, 3) := by decide +kernel
theorem dX4_height_80 : decode cX4_height 80 = .ok (.iload_n 1, 1) := by decide +kernel
theorem dX4_height_81 : decode cX4_height 81 = .ok (.iload 6, 2) := by decide +kernel
theorem dX4_height_83 : decode cX4_height 83 = .ok (.invokevirtual 71, 3) := by decide +kernel
theorem dX4_height_86 : decode cX4_height 86 = .ok (.aload_n 0, 1) := by decide +kernel
theorem dX4_height_87 : decode cX4_height 87 = .ok (.getfield 16, 3) := by decide +kernel
theorem dX4_height_90 : decode cX4_height 90 = .ok (.iload_n 2, 1) := by decide +kernel
theorem dX4_height_91 : decode cX4_height 91 = .ok (.invokevirtual 155, 3) := by decide +kernel
theorem dX4_height_94 : decode cX4_height 94 = .ok (.iload_n 3, 1) := by decide +kernel
theorem dX4_height_95 : decode cX4_height 95 = .ok (.if_icmp .ne 6, 3) := by decide +kernel
theorem dX4_height_98 : decode cX4_height 98 = .ok (.iload 6, 2) := by decide +kernel
theorem dX4_height_100 : decode cX4_height 100 = .ok (.ireturn, 1) := by decide +kernel
theorem dX4_height_101 : decode cX4_height 101 = .ok (.iinc 5 1, 3) := by decide +kernel
theorem dX4_height_104 : decode cX4_height 104 = .ok (.goto (-52), 3) := by decide +kernel
theorem dX4_height_107 : decode cX4_height 107 = .ok (.aload_n 0, 1) := by decide +kernel
theorem dX4_height_108 : decode cX4_height 108 = .ok (.iconst 3, 1) := by decide +kernel
theorem dX4_height_109 : decode cX4_height 109 = .ok (.invokevirtual 64, 3) := by decide +kernel
theorem dX4_height_112 : decode cX4_height 112 = .ok (.ireturn, 1) := by decide +kernel
theorem dX4_heights_0 : decode cX4_heights 0 = .ok (.iload_n 1, 1) := by decide +kernel
theorem dX4_heights_1 : decode cX4_heights 1 = .ok (.invokestatic 56, 3) := by decide +kernel
theorem dX4_heights_4 : decode cX4_heights 4 = .ok (.ifCond .eq 18, 3) := by decide +kernel
theorem dX4_heights_7 : decode cX4_heights 7 = .ok (.aload_n 0, 1) := by decide +kernel
theorem dX4_heights_8 : decode cX4_heights 8 = .ok (.iload_n 2, 1) := by decide +kernel
theorem dX4_heights_9 : decode cX4_heights 9 = .ok (.invokevirtual 111, 3) := by decide +kernel
theorem dX4_heights_12 : decode cX4_heights 12 = .ok (.ifCond .eq 10, 3) := by decide +kernel
theorem dX4_heights_15 : decode cX4_heights 15 = .ok (.iload_n 3, 1) := by decide +kernel
theorem dX4_heights_16 : decode cX4_heights 16 = .ok (.invokestatic 174, 3) := by decide +kernel
theorem dX4_heights_19 : decode cX4_heights 19 = .ok (.ifCond .ne 9, 3) := by decide +kernel
theorem dX4_heights_22 : decode cX4_heights 22 = .ok (.aload_n 0, 1) := by decide +kernel
theorem dX4_heights_23 : decode cX4_heights 23 = .ok (.iconst 0, 1) := by decide +kernel
theorem dX4_heights_24 : decode cX4_heights 24 = .ok (.invokevirtual 64, 3) := by decide +kernel
theorem dX4_heights_27 : decode cX4_heights 27 = .ok (.ireturn, 1) := by decide +kernel
theorem dX4_heights_28 : decode cX4_heights 28 = .ok (.aload_n 0, 1) := by decide +kernel
theorem dX4_heights_29 : decode cX4_heights 29 = .ok (.getfield 16, 3) := by decide +kernel
theorem dX4_heights_32 : decode cX4_heights 32 = .ok (.aload_n 0, 1) := by decide +kernel
theorem dX4_heights_33 : decode cX4_heights 33 = .ok (.getfield 10, 3) := by decide +kernel
theorem dX4_heights_36 : decode cX4_heights 36 = .ok (.invokevirtual 165, 3) := by decide +kernel
theorem dX4_heights_39 : decode cX4_heights 39 = .ok (.iconst 0, 1) := by decide +kernel
theorem dX4_heights_40 : decode cX4_heights 40 = .ok (.istore 4, 2) := by decide +kernel
theorem dX4_heights_42 : decode cX4_heights 42 = .ok (.iconst 0, 1) := by decide +kernel
theorem dX4_heights_43 : decode cX4_heights 43 = .ok (.istore 5, 2) := by decide +kernel
theorem dX4_heights_45 : decode cX4_heights 45 = .ok (.iload 5, 2) := by decide +kernel
theorem dX4_heights_47 : decode cX4_heights 47 = .ok (.bipush 99, 2) := by decide +kernel
theorem dX4_heights_49 : decode cX4_heights 49 = .ok (.if_icmp .gt 34, 3) := by decide +kernel
theorem dX4_heights_52 : decode cX4_heights 52 = .ok (.aload_n 0, 1) := by decide +kernel
theorem dX4_heights_53 : decode cX4_heights 53 = .ok (.getfield 16, 3) := by decide +kernel
theorem dX4_heights_56 : decode cX4_heights 56 = .ok (.iload_n 1, 1) := by decide +kernel
theorem dX4_heights_57 : decode cX4_heights 57 = .ok (.iload 5, 2) := by decide +kernel
theorem dX4_heights_59 : decode cX4_heights 59 = .ok (.invokevirtual 71, 3) := by decide +kernel
theorem dX4_heights_62 : decode cX4_heights 62 = .ok (.aload_n 0, 1) := by decide +kernel
theorem dX4_heights_63 : decode cX4_heights 63 = .ok (.getfield 16, 3) := by decide +kernel
theorem dX4_heights_66 : decode cX4_heights 66 = .ok (.iload_n 2, 1) := by decide +kernel
theorem dX4_heights_67 : decode cX4_heights 67 = .ok (.invokevirtual 155, 3) := by decide +kernel
theorem dX4_heights_70 : decode cX4_heights 70 = .ok (.iload_n 3, 1) := by decide +kernel
theorem dX4_heights_71 : decode cX4_heights 71 = .ok (.if_icmp .ne 6, 3) := by decide +kernel
theorem dX4_heights_74 : decode cX4_heights 74 = .ok (.iinc 4 1, 3) := by decide +kernel
theorem dX4_heights_77 : decode cX4_heights 77 = .ok (.iinc 5 1, 3) := by decide +kernel
theorem dX4_heights_80 : decode cX4_heights 80 = .ok (.goto (-35), 3) := by decide +kernel
theorem dX4_heights_83 : decode cX4_heights 83 = .ok (.iload 4, 2) := by decide +kernel
theorem dX4_heights_85 : decode cX4_heights 85 = .ok (.ireturn, 1) := by decide +kernel
theorem dX4_hidden_0 : decode cX4_hidden 0 = .ok (.aload_n 0, 1) := by decide +kernel
theorem dX4_hidden_1 : decode cX4_hidden 1 = .ok (.iload_n 1, 1) := by decide +kernel
theorem dX4_hidden_2 : decode cX4_hidden 2 = .ok (.invokevirtual 111, 3) := by decide +kernel
theorem dX4_hidden_5 : decode cX4_hidden 5 = .ok (.ifCond .eq 10, 3) := by decide +kernel
theorem dX4_hidden_8 : decode cX4_hidden 8 = .ok (.iload_n 2, 1) := by decide +kernel
theorem dX4_hidden_9 : decode cX4_hidden 9 = .ok (.invokestatic 56, 3) := by decide +kernel
theorem dX4_hidden_12 : decode cX4_hidden 12 = .ok (.ifCond .ne 9, 3) := by decide +kernel
theorem dX4_hidden_15 : decode cX4_hidden 15 = .ok (.aload_n 0, 1) := by decide +kernel
theorem dX4_hidden_16 : decode cX4_hidden 16 = .ok (.iconst 0, 1) := by decide +kernel
theorem dX4_hidden_17 : decode cX4_hidden 17 = .ok (.invokevirtual 64, 3) := by decide +kernel
theorem dX4_hidden_20 : decode cX4_hidden 20 = .ok (.ireturn, 1) := by decide +kernel
theorem dX4_hidden_21 : decode cX4_hidden 21 = .ok (.aload_n 0, 1) := by decide +kernel
theorem dX4_hidden_22 : decode cX4_hidden 22 = .ok (.getfield 10, 3) := by decide +kernel
theorem dX4_hidden_25 : decode cX4_hidden 25 = .ok (.iload_n 1, 1) := by decide +kernel
theorem dX4_hidden_26 : decode cX4_hidden 26 = .ok (.iload_n 2, 1) := by decide +kernel
theorem dX4_hidden_27 : decode cX4_hidden 27 = .ok (.invokevirtual 148, 3) := by decide +kernel
theorem dX4_hidden_30 : decode cX4_hidden 30 = .ok (.ifCond .ne 9, 3) := by decide +kernel
theorem dX4_hidden_33 : decode cX4_hidden 33 = .ok (.aload_n 0, 1) := by decide +kernel
theorem dX4_hidden_34 : decode cX4_hidden 34 = .ok (.iconst 4, 1) := by decide +kernel
theorem dX4_hidden_35 : decode cX4_hidden 35 = .ok (.invokevirtual 64, 3) := by decide +kernel
theorem dX4_hidden_38 : decode cX4_hidden 38 = .ok (.ireturn, 1) := by decide +kernel
theorem dX4_hidden_39 : decode cX4_hidden 39 = .ok (.aload_n 0, 1) := by decide +kernel
theorem dX4_hidden_40 : decode cX4_hidden 40 = .ok (.getfield 10, 3) := by decide +kernel
theorem dX4_hidden_43 : decode cX4_hidden 43 = .ok (.iload_n 1, 1) := by decide +kernel
theorem dX4_hidden_44 : decode cX4_hidden 44 = .ok (.iload_n 2, 1) := by decide +kernel
theorem dX4_hidden_45 : decode cX4_hidden 45 = .ok (.invokevirtual 151, 3) := by decide +kernel
theorem dX4_hidden_48 : decode cX4_hidden 48 = .ok (.istore_n 3, 1) := by decide +kernel
theorem dX4_hidden_49 : decode cX4_hidden 49 = .ok (.iload_n 3, 1) := by decide +kernel
theorem dX4_hidden_50 : decode cX4_hidden 50 = .ok (.ifCond .ge 11, 3) := by decide +kernel
theorem dX4_hidden_53 : decode cX4_hidden 53 = .ok (.aload_n 0, 1) := by decide +kernel
theorem dX4_hidden_54 : decode cX4_hidden 54 = .ok (.iconst 3, 1) := by decide +kernel
theorem dX4_hidden_55 : decode cX4_hidden 55 = .ok (.invokevirtual 64, 3) := by decide +kernel
theorem dX4_hidden_58 : decode cX4_hidden 58 = .ok (.goto 4, 3) := by decide +kernel
theorem dX4_hidden_61 : decode cX4_hidden 61 = .ok (.iload_n 3, 1) := by decide +kernel
theorem dX4_hidden_62 : decode cX4_hidden 62 = .ok (.ireturn, 1) := by decide +kernel
theorem dX4_hold_0 : decode cX4_hold 0 = .ok (.iload_n 1, 1) := by decide +kernel
theorem dX4_hold_1 : decode cX4_hold 1 = .ok (.invokestatic 232, 3) := by decide +kernel
theorem dX4_hold_4 : decode cX4_hold 4 = .ok (.ifCond .eq 15, 3) := by decide +kernel
theorem dX4_hold_7 : decode cX4_hold 7 = .ok (.iload_n 2, 1) := by decide +kernel
theorem dX4_hold_8 : decode cX4_hold 8 = .ok (.iconst (-1), 1) := by decide +kernel
theorem dX4_hold_9 : decode cX4_hold 9 = .ok (.if_icmp .eq 16, 3) := by decide +kernel
theorem dX4_hold_12 : decode cX4_hold 12 = .ok (.iload_n 2, 1) := by decide +kernel
theorem dX4_hold_13 : decode cX4_hold 13 = .ok (.invokestatic 56, 3) := by decide +kernel
theorem dX4_hold_16 : decode cX4_hold 16 = .ok (.ifCond .ne 9, 3) := by decide +kernel
theorem dX4_hold_19 : decode cX4_hold 19 = .ok (.aload_n 0, 1) := by decide +kernel
theorem dX4_hold_20 : decode cX4_hold 20 = .ok (.iconst 0, 1) := by decide +kernel
theorem dX4_hold_21 : decode cX4_hold 21 = .ok (.invokevirtual 64, 3) := by decide +kernel
theorem dX4_hold_24 : decode cX4_hold 24 = .ok (.ireturn, 1) := by decide +kernel
theorem dX4_hold_25 : decode cX4_hold 25 = .ok (.aload_n 0, 1) := by decide +kernel
theorem dX4_hold_26 : decode cX4_hold 26 = .ok (.getfield 10, 3) := by decide +kernel
theorem dX4_hold_29 : decode cX4_hold 29 = .ok (.getfield 235, 3) := by decide +kernel
theorem dX4_hold_32 : decode cX4_hold 32 = .ok (.iload_n 1, 1) := by decide +kernel
theorem dX4_hold_33 : decode cX4_hold 33 = .ok (.iload_n 2, 1) := by decide +kernel
theorem dX4_hold_34 : decode cX4_hold 34 = .ok (.iastore, 1) := by decide +kernel
theorem dX4_hold_35 : decode cX4_hold 35 = .ok (.iconst 1, 1) := by decide +kernel
theorem dX4_hold_36 : decode cX4_hold 36 = .ok (.ireturn, 1) := by decide +kernel
theorem dX4_house_0 : decode cX4_house 0 = .ok (.iload_n 1, 1) := by decide +kernel
theorem dX4_house_1 : decode cX4_house 1 = .ok (.invokestatic 56, 3) := by decide +kernel
theorem dX4_house_4 : decode cX4_house 4 = .ok (.ifCond .eq 10, 3) := by decide +kernel
theorem dX4_house_7 : decode cX4_house 7 = .ok (.iload_n 2, 1) := by decide +kernel
theorem dX4_house_8 : decode cX4_house 8 = .ok (.invokestatic 96, 3) := by decide +kernel
theorem dX4_house_11 : decode cX4_house 11 = .ok (.ifCond .ne 9, 3) := by decide +kernel
theorem dX4_house_14 : decode cX4_house 14 = .ok (.aload_n 0, 1) := by decide +kernel
theorem dX4_house_15 : decode cX4_house 15 = .ok (.iconst 0, 1) := by decide +kernel
theorem dX4_house_16 : decode cX4_house 16 = .ok (.invokevirtual 64, 3) := by decide +kernel
theorem dX4_house_19 : decode cX4_house 19 = .ok (.ireturn, 1) := by decide +kernel
theorem dX4_house_20 : decode cX4_house 20 = .ok (.aload_n 0, 1) := by decide +kernel
theorem dX4_house_21 : decode cX4_house 21 = .ok (.getfield 10, 3) := by decide +kernel
theorem dX4_house_24 : decode cX4_house 24 = .ok (.invokevirtual 99, 3) := by decide +kernel
theorem dX4_house_27 : decode cX4_house 27 = .ok (.ifCond .eq 9, 3) := by decide +kernel
theorem dX4_house_30 : decode cX4_house 30 = .ok (.aload_n 0, 1) := by decide +kernel
theorem dX4_house_31 : decode cX4_house 31 = .ok (.iconst 1, 1) := by decide +kernel
theorem dX4_house_32 : decode cX4_house 32 = .ok (.invokevirtual 64, 3) := by decide +kernel
theorem dX4_house_35 : decode cX4_house 35 = .ok (.ireturn, 1) := by decide +kernel
theorem dX4_house_36 : decode cX4_house 36 = .ok (.aload_n 0, 1) := by decide +kernel
theorem dX4_house_37 : decode cX4_house 37 = .ok (.getfield 10, 3) := by decide +kernel
theorem dX4_house_40 : decode cX4_house 40 = .ok (.iload_n 1, 1) := by decide +kernel
theorem dX4_house_41 : decode cX4_house 41 = .ok (.iload_n 2, 1) := by decide +kernel
theorem dX4_house_42 : decode cX4_house 42 = .ok (.iconst 3, 1) := by decide +kernel
theorem dX4_house_43 : decode cX4_house 43 = .ok (.invokevirtual 103, 3) := by decide +kernel
theorem dX4_house_46 : decode cX4_house 46 = .ok (.aload_n 0, 1) := by decide +kernel
theorem dX4_house_47 : decode cX4_house 47 = .ok (.getfield 10, 3) := by decide +kernel
theorem dX4_house_50 : decode cX4_house 50 = .ok (.getfield 107, 3) := by decide +kernel
theorem dX4_house_53 : decode cX4_house 53 = .ok (.iconst 1, 1) := by decide +kernel
theorem dX4_house_54 : decode cX4_house 54 = .ok (.isub, 1) := by decide +kernel
theorem dX4_house_55 : decode cX4_house 55 = .ok (.ireturn, 1) := by decide +kernel
theorem dX4_houseOf_0 : decode cX4_houseOf 0 = .ok (.aload_n 0, 1) := by decide +kernel
theorem dX4_houseOf_1 : decode cX4_houseOf 1 = .ok (.iload_n 1, 1) := by decide +kernel
theorem dX4_houseOf_2 : decode cX4_houseOf 2 = .ok (.invokevirtual 111, 3) := by decide +kernel
theorem dX4_houseOf_5 : decode cX4_houseOf 5 = .ok (.ifCond .ne 9, 3) := by decide +kernel
theorem dX4_houseOf_8 : decode cX4_houseOf 8 = .ok (.aload_n 0, 1) := by decide +kernel
theorem dX4_houseOf_9 : decode cX4_houseOf 9 = .ok (.iconst 0, 1) := by decide +kernel
theorem dX4_houseOf_10 : decode cX4_houseOf 10 = .ok (.invokevirtual 64, 3) := by decide +kernel
theorem dX4_houseOf_13 : decode cX4_houseOf 13 = .ok (.ireturn, 1) := by decide +kernel
theorem dX4_houseOf_14 : decode cX4_houseOf 14 = .ok (.iload_n 2, 1) := by decide +kernel
theorem dX4_houseOf_15 : decode cX4_houseOf 15 = .ok (.tableswitch 68 0 3 #[29, 39, 49, 58], 29) := by decide +kernel
theorem dX4_houseOf_44 : decode cX4_houseOf 44 = .ok (.aload_n 0, 1) := by decide +kernel
theorem dX4_houseOf_45 : decode cX4_houseOf 45 = .ok (.getfield 10, 3) := by decide +kernel
theorem dX4_houseOf_48 : decode cX4_houseOf 48 = .ok (.getfield 114, 3) := by decide +kernel
theorem dX4_houseOf_51 : decode cX4_houseOf 51 = .ok (.iload_n 1, 1) := by decide +kernel
theorem dX4_houseOf_52 : decode cX4_houseOf 52 = .ok (.iaload, 1) := by decide +kernel
theorem dX4_houseOf_53 : decode cX4_houseOf 53 = .ok (.ireturn, 1) := by decide +kernel
theorem dX4_houseOf_54 : decode cX4_houseOf 54 = .ok (.aload_n 0, 1) := by decide +kernel
theorem dX4_houseOf_55 : decode cX4_houseOf 55 = .ok (.getfield 10, 3) := by decide +kernel
theorem dX4_houseOf_58 : decode cX4_houseOf 58 = .ok (.getfield 117, 3) := by decide +kernel
theorem dX4_houseOf_61 : decode cX4_houseOf 61 = .ok (.iload_n 1, 1) := by decide +kernel
theorem dX4_houseOf_62 : decode cX4_houseOf 62 = .ok (.iaload, 1) := by decide +kernel
theorem dX4_houseOf_63 : decode cX4_houseOf 63 = .ok (.ireturn, 1) := by decide +kernel
theorem dX4_houseOf_64 : decode cX4_houseOf 64 = .ok (.aload_n 0, 1) := by decide +kernel
theorem dX4_houseOf_65 : decode cX4_houseOf 65 = .ok (.getfield 10, 3) := by decide +kernel
theorem dX4_houseOf_68 : decode cX4_houseOf 68 = .ok (.iload_n 1, 1) := by decide +kernel
theorem dX4_houseOf_69 : decode cX4_houseOf 69 = .ok (.invokevirtual 120, 3) := by decide +kernel
theorem dX4_houseOf_72 : decode cX4_houseOf 72 = .ok (.ireturn, 1) := by decide +kernel
theorem dX4_houseOf_73 : decode cX4_houseOf 73 = .ok (.aload_n 0, 1) := by decide +kernel
theorem dX4_houseOf_74 : decode cX4_houseOf 74 = .ok (.getfield 10, 3) := by decide +kernel
theorem dX4_houseOf_77 : decode cX4_houseOf 77 = .ok (.getfield 123, 3) := by decide +kernel
theorem dX4_houseOf_80 : decode cX4_houseOf 80 = .ok (.iload_n 1, 1) := by decide +kernel
theorem dX4_houseOf_81 : decode cX4_houseOf 81 = .ok (.iaload, 1) := by decide +kernel
theorem dX4_houseOf_82 : decode cX4_houseOf 82 = .ok (.ireturn, 1) := by decide +kernel
theorem dX4_houseOf_83 : decode cX4_houseOf 83 = .ok (.aload_n 0, 1) := by decide +kernel
theorem dX4_houseOf_84 : decode cX4_houseOf 84 = .ok (.iconst 0, 1) := by decide +kernel
theorem dX4_houseOf_85 : decode cX4_houseOf 85 = .ok (.invokevirtual 64, 3) := by decide +kernel
theorem dX4_houseOf_88 : decode cX4_houseOf 88 = .ok (.ireturn, 1) := by decide +kernel
theorem dX4_image_0 : decode cX4_image 0 = .ok (.aload_n 0, 1) := by decide +kernel
theorem dX4_image_1 : decode cX4_image 1 = .ok (.getfield 19, 3) := by decide +kernel
theorem dX4_image_4 : decode cX4_image 4 = .ok (.aload_n 0, 1) := by decide +kernel
theorem dX4_image_5 : decode cX4_image 5 = .ok (.getfield 10, 3) := by decide +kernel
theorem dX4_image_8 : decode cX4_image 8 = .ok (.invokevirtual 165, 3) := by decide +kernel
theorem dX4_image_11 : decode cX4_image 11 = .ok (.aload_n 0, 1) := by decide +kernel
theorem dX4_image_12 : decode cX4_image 12 = .ok (.iconst 1, 1) := by decide +kernel
theorem dX4_image_13 : decode cX4_image 13 = .ok (.putfield 22, 3) := by decide +kernel
theorem dX4_image_16 : decode cX4_image 16 = .ok (.iconst 1, 1) := by decide +kernel
theorem dX4_image_17 : decode cX4_image 17 = .ok (.ireturn, 1) := by decide +kernel
theorem dX4_isCell_0 : decode cX4_isCell 0 = .ok (.iload_n 0, 1) := by decide +kernel
theorem dX4_isCell_1 : decode cX4_isCell 1 = .ok (.iconst 0, 1) := by decide +kernel
theorem dX4_isCell_2 : decode cX4_isCell 2 = .ok (.bipush 23, 2) := by decide +kernel
theorem dX4_isCell_4 : decode cX4_isCell 4 = .ok (.invokestatic 60, 3) := by decide +kernel
theorem dX4_isCell_7 : decode cX4_isCell 7 = .ok (.ireturn, 1) := by decide +kernel
theorem dX4_isFloor_0 : decode cX4_isFloor 0 = .ok (.iload_n 0, 1) := by decide +kernel
theorem dX4_isFloor_1 : decode cX4_isFloor 1 = .ok (.iconst 1, 1) := by decide +kernel
theorem dX4_isFloor_2 : decode cX4_isFloor 2 = .ok (.bipush 40, 2) := by decide +kernel
theorem dX4_isFloor_4 : decode cX4_isFloor 4 = .ok (.invokestatic 60, 3) := by decide +kernel
theorem dX4_isFloor_7 : decode cX4_isFloor 7 = .ok (.ireturn, 1) := by decide +kernel
theorem dX4_isHouse_0 : decode cX4_isHouse 0 = .ok (.iload_n 1, 1) := by decide +kernel
theorem dX4_isHouse_1 : decode cX4_isHouse 1 = .ok (.iconst 0, 1) := by decide +kernel
theorem dX4_isHouse_2 : decode cX4_isHouse 2 = .ok (.aload_n 0, 1) := by decide +kernel
theorem dX4_isHouse_3 : decode cX4_isHouse 3 = .ok (.getfield 10, 3) := by decide +kernel
theorem dX4_isHouse_6 : decode cX4_isHouse 6 = .ok (.getfield 107, 3) := by decide +kernel
theorem dX4_isHouse_9 : decode cX4_isHouse 9 = .ok (.iconst 1, 1) := by decide +kernel
theorem dX4_isHouse_10 : decode cX4_isHouse 10 = .ok (.isub, 1) := by decide +kernel
theorem dX4_isHouse_11 : decode cX4_isHouse 11 = .ok (.invokestatic 60, 3) := by decide +kernel
theorem dX4_isHouse_14 : decode cX4_isHouse 14 = .ok (.ireturn, 1) := by decide +kernel
theorem dX4_isKind_0 : decode cX4_isKind 0 = .ok (.iload_n 0, 1) := by decide +kernel
theorem dX4_isKind_1 : decode cX4_isKind 1 = .ok (.iconst 0, 1) := by decide +kernel
theorem dX4_isKind_2 : decode cX4_isKind 2 = .ok (.bipush 6, 2) := by decide +kernel
theorem dX4_isKind_4 : decode cX4_isKind 4 = .ok (.invokestatic 60, 3) := by decide +kernel
theorem dX4_isKind_7 : decode cX4_isKind 7 = .ok (.ireturn, 1) := by decide +kernel
theorem dX4_isSpan_0 : decode cX4_isSpan 0 = .ok (.iload_n 0, 1) := by decide +kernel
theorem dX4_isSpan_1 : decode cX4_isSpan 1 = .ok (.iconst 0, 1) := by decide +kernel
theorem dX4_isSpan_2 : decode cX4_isSpan 2 = .ok (.bipush 60, 2) := by decide +kernel
theorem dX4_isSpan_4 : decode cX4_isSpan 4 = .ok (.invokestatic 60, 3) := by decide +kernel
theorem dX4_isSpan_7 : decode cX4_isSpan 7 = .ok (.ireturn, 1) := by decide +kernel
theorem dX4_isSpot_0 : decode cX4_isSpot 0 = .ok (.iload_n 0, 1) := by decide +kernel
theorem dX4_isSpot_1 : decode cX4_isSpot 1 = .ok (.iconst 0, 1) := by decide +kernel
theorem dX4_isSpot_2 : decode cX4_isSpot 2 = .ok (.bipush 9, 2) := by decide +kernel
theorem dX4_isSpot_4 : decode cX4_isSpot 4 = .ok (.invokestatic 60, 3) := by decide +kernel
theorem dX4_isSpot_7 : decode cX4_isSpot 7 = .ok (.ireturn, 1) := by decide +kernel
theorem dX4_isTaxAsked_0 : decode cX4_isTaxAsked 0 = .ok (.iload_n 0, 1) := by decide +kernel
theorem dX4_isTaxAsked_1 : decode cX4_isTaxAsked 1 = .ok (.iconst 0, 1) := by decide +kernel
theorem dX4_isTaxAsked_2 : decode cX4_isTaxAsked 2 = .ok (.ldc_w 273, 3) := by decide +kernel
theorem dX4_isTaxAsked_5 : decode cX4_isTaxAsked 5 = .ok (.invokestatic 60, 3) := by decide +kernel
theorem dX4_isTaxAsked_8 : decode cX4_isTaxAsked 8 = .ok (.ireturn, 1) := by decide +kernel
theorem dX4_isTooLate_0 : decode cX4_isTooLate 0 = .ok (.aload_n 0, 1) := by decide +kernel
theorem dX4_isTooLate_1 : decode cX4_isTooLate 1 = .ok (.getfield 10, 3) := by decide +kernel
theorem dX4_isTooLate_4 : decode cX4_isTooLate 4 = .ok (.getfield 210, 3) := by decide +kernel
theorem dX4_isTooLate_7 : decode cX4_isTooLate 7 = .ok (.iload_n 1, 1) := by decide +kernel
theorem dX4_isTooLate_8 : decode cX4_isTooLate 8 = .ok (.iadd, 1) := by decide +kernel
theorem dX4_isTooLate_9 : decode cX4_isTooLate 9 = .ok (.sipush 999, 3) := by decide +kernel
theorem dX4_isTooLate_12 : decode cX4_isTooLate 12 = .ok (.if_icmp .le 7, 3) := by decide +kernel
theorem dX4_isTooLate_15 : decode cX4_isTooLate 15 = .ok (.iconst 1, 1) := by decide +kernel
theorem dX4_isTooLate_16 : decode cX4_isTooLate 16 = .ok (.goto 4, 3) := by decide +kernel
theorem dX4_isTooLate_19 : decode cX4_isTooLate 19 = .ok (.iconst 0, 1) := by decide +kernel
theorem dX4_isTooLate_20 : decode cX4_isTooLate 20 = .ok (.ireturn, 1) := by decide +kernel
theorem dX4_isWithin_0 : decode cX4_isWithin 0 = .ok (.iload_n 0, 1) := by decide +kernel
theorem dX4_isWithin_1 : decode cX4_isWithin 1 = .ok (.iload_n 1, 1) := by decide +kernel
theorem dX4_isWithin_2 : decode cX4_isWithin 2 = .ok (.if_icmp .lt 12, 3) := by decide +kernel
theorem dX4_isWithin_5 : decode cX4_isWithin 5 = .ok (.iload_n 0, 1) := by decide +kernel
theorem dX4_isWithin_6 : decode cX4_isWithin 6 = .ok (.iload_n 2, 1) := by decide +kernel
theorem dX4_isWithin_7 : decode cX4_isWithin 7 = .ok (.if_icmp .gt 7, 3) := by decide +kernel
theorem dX4_isWithin_10 : decode cX4_isWithin 10 = .ok (.iconst 1, 1) := by decide +kernel
theorem dX4_isWithin_11 : decode cX4_isWithin 11 = .ok (.goto 4, 3) := by decide +kernel
theorem dX4_isWithin_14 : decode cX4_isWithin 14 = .ok (.iconst 0, 1) := by decide +kernel
theorem dX4_isWithin_15 : decode cX4_isWithin 15 = .ok (.ireturn, 1) := by decide +kernel
theorem dX4_judge_0 : decode cX4_judge 0 = .ok (.iload_n 1, 1) := by decide +kernel
theorem dX4_judge_1 : decode cX4_judge 1 = .ok (.invokestatic 241, 3) := by decide +kernel
theorem dX4_judge_4 : decode cX4_judge 4 = .ok (.ifCond .ne 9, 3) := by decide +kernel
theorem dX4_judge_7 : decode cX4_judge 7 = .ok (.aload_n 0, 1) := by decide +kernel
theorem dX4_judge_8 : decode cX4_judge 8 = .ok (.iconst 0, 1) := by decide +kernel
theorem dX4_judge_9 : decode cX4_judge 9 = .ok (.invokevirtual 64, 3) := by decide +kernel
theorem dX4_judge_12 : decode cX4_judge 12 = .ok (.ireturn, 1) := by decide +kernel
theorem dX4_judge_13 : decode cX4_judge 13 = .ok (.aload_n 0, 1) := by decide +kernel
theorem dX4_judge_14 : decode cX4_judge 14 = .ok (.getfield 45, 3) := by decide +kernel
theorem dX4_judge_17 : decode cX4_judge 17 = .ok (.iload_n 1, 1) := by decide +kernel
theorem dX4_judge_18 : decode cX4_judge 18 = .ok (.invokevirtual 250, 3) := by decide +kernel
theorem dX4_judge_21 : decode cX4_judge 21 = .ok (.ifCond .eq 9, 3) := by decide +kernel
theorem dX4_judge_24 : decode cX4_judge 24 = .ok (.aload_n 0, 1) := by decide +kernel
theorem dX4_judge_25 : decode cX4_judge 25 = .ok (.iconst 5, 1) := by decide +kernel
theorem dX4_judge_26 : decode cX4_judge 26 = .ok (.invokevirtual 64, 3) := by decide +kernel
theorem dX4_judge_29 : decode cX4_judge 29 = .ok (.ireturn, 1) := by decide +kernel
theorem dX4_judge_30 : decode cX4_judge 30 = .ok (.iload_n 2, 1) := by decide +kernel
theorem dX4_judge_31 : decode cX4_judge 31 = .ok (.invokestatic 183, 3) := by decide +kernel
theorem dX4_judge_34 : decode cX4_judge 34 = .ok (.ifCond .ne 9, 3) := by decide +kernel
theorem dX4_judge_37 : decode cX4_judge 37 = .ok (.aload_n 0, 1) := by decide +kernel
theorem dX4_judge_38 : decode cX4_judge 38 = .ok (.iconst 0, 1) := by decide +kernel
theorem dX4_judge_39 : decode cX4_judge 39 = .ok (.invokevirtual 64, 3) := by decide +kernel
theorem dX4_judge_42 : decode cX4_judge 42 = .ok (.ireturn, 1) := by decide +kernel
theorem dX4_judge_43 : decode cX4_judge 43 = .ok (.aload_n 0, 1) := by decide +kernel
theorem dX4_judge_44 : decode cX4_judge 44 = .ok (.iload_n 2, 1) := by decide +kernel
theorem dX4_judge_45 : decode cX4_judge 45 = .ok (.invokevirtual 186, 3) := by decide +kernel
theorem dX4_judge_48 : decode cX4_judge 48 = .ok (.ifCond .eq 9, 3) := by decide +kernel
theorem dX4_judge_51 : decode cX4_judge 51 = .ok (.aload_n 0, 1) := by decide +kernel
theorem dX4_judge_52 : decode cX4_judge 52 = .ok (.iconst 4, 1) := by decide +kernel
theorem dX4_judge_53 : decode cX4_judge 53 = .ok (.invokevirtual 64, 3) := by decide +kernel
theorem dX4_judge_56 : decode cX4_judge 56 = .ok (.ireturn, 1) := by decide +kernel
theorem dX4_judge_57 : decode cX4_judge 57 = .ok (.aload_n 0, 1) := by decide +kernel
theorem dX4_judge_58 : decode cX4_judge 58 = .ok (.iload_n 2, 1) := by decide +kernel
theorem dX4_judge_59 : decode cX4_judge 59 = .ok (.invokevirtual 192, 3) := by decide +kernel
theorem dX4_judge_62 : decode cX4_judge 62 = .ok (.iconst 0, 1) := by decide +kernel
theorem dX4_judge_63 : decode cX4_judge 63 = .ok (.istore_n 3, 1) := by decide +kernel
theorem dX4_judge_64 : decode cX4_judge 64 = .ok (.iload_n 3, 1) := by decide +kernel
theorem dX4_judge_65 : decode cX4_judge 65 = .ok (.aload_n 0, 1) := by decide +kernel
theorem dX4_judge_66 : decode cX4_judge 66 = .ok (.getfield 45, 3) := by decide +kernel
theorem dX4_judge_69 : decode cX4_judge 69 = .ok (.getfield 247, 3) := by decide +kernel
theorem dX4_judge_72 : decode cX4_judge 72 = .ok (.iload_n 1, 1) := by decide +kernel
theorem dX4_judge_73 : decode cX4_judge 73 = .ok (.iaload, 1) := by decide +kernel
theorem dX4_judge_74 : decode cX4_judge 74 = .ok (.if_icmp .ge 40, 3) := by decide +kernel
theorem dX4_judge_77 : decode cX4_judge 77 = .ok (.iload_n 3, 1) := by decide +kernel
theorem dX4_judge_78 : decode cX4_judge 78 = .ok (.aload_n 0, 1) := by decide +kernel
theorem dX4_judge_79 : decode cX4_judge 79 = .ok (.getfield 16, 3) := by decide +kernel
theorem dX4_judge_82 : decode cX4_judge 82 = .ok (.getfield 107, 3) := by decide +kernel
theorem dX4_judge_85 : decode cX4_judge 85 = .ok (.if_icmp .ge 29, 3) := by decide +kernel
theorem dX4_judge_88 : decode cX4_judge 88 = .ok (.aload_n 0, 1) := by decide +kernel
theorem dX4_judge_89 : decode cX4_judge 89 = .ok (.getfield 45, 3) := by decide +kernel
theorem dX4_judge_92 : decode cX4_judge 92 = .ok (.iload_n 1, 1) := by decide +kernel
theorem dX4_judge_93 : decode cX4_judge 93 = .ok (.iload_n 3, 1) := by decide +kernel
theorem dX4_judge_94 : decode cX4_judge 94 = .ok (.invokevirtual 266, 3) := by decide +kernel
theorem dX4_judge_97 : decode cX4_judge 97 = .ok (.aload_n 0, 1) := by decide +kernel
theorem dX4_judge_98 : decode cX4_judge 98 = .ok (.getfield 16, 3) := by decide +kernel
theorem dX4_judge_101 : decode cX4_judge 101 = .ok (.iload_n 3, 1) := by decide +kernel
theorem dX4_judge_102 : decode cX4_judge 102 = .ok (.invokevirtual 155, 3) := by decide +kernel
theorem dX4_judge_105 : decode cX4_judge 105 = .ok (.if_icmp .ne 9, 3) := by decide +kernel
theorem dX4_judge_108 : decode cX4_judge 108 = .ok (.iinc 3 1, 3) := by decide +kernel
theorem dX4_judge_111 : decode cX4_judge 111 = .ok (.goto (-47), 3) := by decide +kernel
theorem dX4_judge_114 : decode cX4_judge 114 = .ok (.iload_n 3, 1) := by decide +kernel
theorem dX4_judge_115 : decode cX4_judge 115 = .ok (.aload_n 0, 1) := by decide +kernel
theorem dX4_judge_116 : decode cX4_judge 116 = .ok (.getfield 45, 3) := by decide +kernel
theorem dX4_judge_119 : decode cX4_judge 119 = .ok (.getfield 247, 3) := by decide +kernel
theorem dX4_judge_122 : decode cX4_judge 122 = .ok (.iload_n 1, 1) := by decide +kernel
theorem dX4_judge_123 : decode cX4_judge 123 = .ok (.iaload, 1) := by decide +kernel
theorem dX4_judge_124 : decode cX4_judge 124 = .ok (.if_icmp .ne 18, 3) := by decide +kernel
theorem dX4_judge_127 : decode cX4_judge 127 = .ok (.iload_n 3, 1) := by decide +kernel
theorem dX4_judge_128 : decode cX4_judge 128 = .ok (.aload_n 0, 1) := by decide +kernel
theorem dX4_judge_129 : decode cX4_judge 129 = .ok (.getfield 16, 3) := by decide +kernel
theorem dX4_judge_132 : decode cX4_judge 132 = .ok (.getfield 107, 3) := by decide +kernel
theorem dX4_judge_135 : decode cX4_judge 135 = .ok (.if_icmp .ne 7, 3) := by decide +kernel
theorem dX4_judge_138 : decode cX4_judge 138 = .ok (.iconst 1, 1) := by decide +kernel
theorem dX4_judge_139 : decode cX4_judge 139 = .ok (.goto 4, 3) := by decide +kernel
theorem dX4_judge_142 : decode cX4_judge 142 = .ok (.iconst 0, 1) := by decide +kernel
theorem dX4_judge_143 : decode cX4_judge 143 = .ok (.istore 4, 2) := by decide +kernel
theorem dX4_judge_145 : decode cX4_judge 145 = .ok (.iload 4, 2) := by decide +kernel
theorem dX4_judge_147 : decode cX4_judge 147 = .ok (.ifCond .eq 7, 3) := by decide +kernel
theorem dX4_judge_150 : decode cX4_judge 150 = .ok (.iconst 0, 1) := by decide +kernel
theorem dX4_judge_151 : decode cX4_judge 151 = .ok (.goto 6, 3) := by decide +kernel
theorem dX4_judge_154 : decode cX4_judge 154 = .ok (.iconst 1, 1) := by decide +kernel
theorem dX4_judge_155 : decode cX4_judge 155 = .ok (.iload_n 3, 1) := by decide +kernel
theorem dX4_judge_156 : decode cX4_judge 156 = .ok (.iadd, 1) := by decide +kernel
theorem dX4_judge_157 : decode cX4_judge 157 = .ok (.ireturn, 1) := by decide +kernel
theorem dX4_law_0 : decode cX4_law 0 = .ok (.iload_n 1, 1) := by decide +kernel
theorem dX4_law_1 : decode cX4_law 1 = .ok (.ifCond .ne 31, 3) := by decide +kernel
theorem dX4_law_4 : decode cX4_law 4 = .ok (.iload_n 2, 1) := by decide +kernel
theorem dX4_law_5 : decode cX4_law 5 = .ok (.iconst 1, 1) := by decide +kernel
theorem dX4_law_6 : decode cX4_law 6 = .ok (.bipush 23, 2) := by decide +kernel
theorem dX4_law_8 : decode cX4_law 8 = .ok (.invokestatic 60, 3) := by decide +kernel
theorem dX4_law_11 : decode cX4_law 11 = .ok (.ifCond .eq 21, 3) := by decide +kernel
theorem dX4_law_14 : decode cX4_law 14 = .ok (.aload_n 0, 1) := by decide +kernel
theorem dX4_law_15 : decode cX4_law 15 = .ok (.getfield 10, 3) := by decide +kernel
theorem dX4_law_18 : decode cX4_law 18 = .ok (.getfield 126, 3) := by decide +kernel
theorem dX4_law_21 : decode cX4_law 21 = .ok (.istore_n 3, 1) := by decide +kernel
theorem dX4_law_22 : decode cX4_law 22 = .ok (.aload_n 0, 1) := by decide +kernel
theorem dX4_law_23 : decode cX4_law 23 = .ok (.getfield 10, 3) := by decide +kernel
theorem dX4_law_26 : decode cX4_law 26 = .ok (.iload_n 2, 1) := by decide +kernel
theorem dX4_law_27 : decode cX4_law 27 = .ok (.putfield 126, 3) := by decide +kernel
theorem dX4_law_30 : decode cX4_law 30 = .ok (.iload_n 3, 1) := by decide +kernel
theorem dX4_law_31 : decode cX4_law 31 = .ok (.ireturn, 1) := by decide +kernel
theorem dX4_law_32 : decode cX4_law 32 = .ok (.iload_n 1, 1) := by decide +kernel
theorem dX4_law_33 : decode cX4_law 33 = .ok (.iconst 1, 1) := by decide +kernel
theorem dX4_law_34 : decode cX4_law 34 = .ok (.if_icmp .ne 31, 3) := by decide +kernel
theorem dX4_law_37 : decode cX4_law 37 = .ok (.iload_n 2, 1) := by decide +kernel
theorem dX4_law_38 : decode cX4_law 38 = .ok (.iconst 0, 1) := by decide +kernel
theorem dX4_law_39 : decode cX4_law 39 = .ok (.bipush 99, 2) := by decide +kernel
theorem dX4_law_41 : decode cX4_law 41 = .ok (.invokestatic 60, 3) := by decide +kernel
theorem dX4_law_44 : decode cX4_law 44 = .ok (.ifCond .eq 21, 3) := by decide +kernel
theorem dX4_law_47 : decode cX4_law 47 = .ok (.aload_n 0, 1) := by decide +kernel
theorem dX4_law_48 : decode cX4_law 48 = .ok (.getfield 10, 3) := by decide +kernel
theorem dX4_law_51 : decode cX4_law 51 = .ok (.getfield 129, 3) := by decide +kernel
theorem dX4_law_54 : decode cX4_law 54 = .ok (.istore_n 3, 1) := by decide +kernel
theorem dX4_law_55 : decode cX4_law 55 = .ok (.aload_n 0, 1) := by decide +kernel
theorem dX4_law_56 : decode cX4_law 56 = .ok (.getfield 10, 3) := by decide +kernel
theorem dX4_law_59 : decode cX4_law 59 = .ok (.iload_n 2, 1) := by decide +kernel
theorem dX4_law_60 : decode cX4_law 60 = .ok (.putfield 129, 3) := by decide +kernel
theorem dX4_law_63 : decode cX4_law 63 = .ok (.iload_n 3, 1) := by decide +kernel
theorem dX4_law_64 : decode cX4_law 64 = .ok (.ireturn, 1) := by decide +kernel
theorem dX4_law_65 : decode cX4_law 65 = .ok (.aload_n 0, 1) := by decide +kernel
theorem dX4_law_66 : decode cX4_law 66 = .ok (.iconst 0, 1) := by decide +kernel
theorem dX4_law_67 : decode cX4_law 67 = .ok (.invokevirtual 64, 3) := by decide +kernel
theorem dX4_law_70 : decode cX4_law 70 = .ok (.ireturn, 1) := by decide +kernel
theorem dX4_load_0 : decode cX4_load 0 = .ok (.iload_n 1, 1) := by decide +kernel
theorem dX4_load_1 : decode cX4_load 1 = .ok (.invokestatic 241, 3) := by decide +kernel
theorem dX4_load_4 : decode cX4_load 4 = .ok (.ifCond .ne 9, 3) := by decide +kernel
theorem dX4_load_7 : decode cX4_load 7 = .ok (.aload_n 0, 1) := by decide +kernel
theorem dX4_load_8 : decode cX4_load 8 = .ok (.iconst 0, 1) := by decide +kernel
theorem dX4_load_9 : decode cX4_load 9 = .ok (.invokevirtual 64, 3) := by decide +kernel
theorem dX4_load_12 : decode cX4_load 12 = .ok (.ireturn, 1) := by decide +kernel
theorem dX4_load_13 : decode cX4_load 13 = .ok (.aload_n 0, 1) := by decide +kernel
theorem dX4_load_14 : decode cX4_load 14 = .ok (.getfield 45, 3) := by decide +kernel
theorem dX4_load_17 : decode cX4_load 17 = .ok (.iload_n 1, 1) := by decide +kernel
theorem dX4_load_18 : decode cX4_load 18 = .ok (.invokevirtual 250, 3) := by decide +kernel
theorem dX4_load_21 : decode cX4_load 21 = .ok (.ifCond .eq 9, 3) := by decide +kernel
theorem dX4_load_24 : decode cX4_load 24 = .ok (.aload_n 0, 1) := by decide +kernel
theorem dX4_load_25 : decode cX4_load 25 = .ok (.iconst 5, 1) := by decide +kernel
theorem dX4_load_26 : decode cX4_load 26 = .ok (.invokevirtual 64, 3) := by decide +kernel
theorem dX4_load_29 : decode cX4_load 29 = .ok (.ireturn, 1) := by decide +kernel
theorem dX4_load_30 : decode cX4_load 30 = .ok (.iload_n 2, 1) := by decide +kernel
theorem dX4_load_31 : decode cX4_load 31 = .ok (.invokestatic 56, 3) := by decide +kernel
theorem dX4_load_34 : decode cX4_load 34 = .ok (.ifCond .ne 9, 3) := by decide +kernel
theorem dX4_load_37 : decode cX4_load 37 = .ok (.aload_n 0, 1) := by decide +kernel
theorem dX4_load_38 : decode cX4_load 38 = .ok (.iconst 0, 1) := by decide +kernel
theorem dX4_load_39 : decode cX4_load 39 = .ok (.invokevirtual 64, 3) := by decide +kernel
theorem dX4_load_42 : decode cX4_load 42 = .ok (.ireturn, 1) := by decide +kernel
theorem dX4_load_43 : decode cX4_load 43 = .ok (.iconst 0, 1) := by decide +kernel
theorem dX4_load_44 : decode cX4_load 44 = .ok (.istore_n 3, 1) := by decide +kernel
theorem dX4_load_45 : decode cX4_load 45 = .ok (.iload_n 3, 1) := by decide +kernel
theorem dX4_load_46 : decode cX4_load 46 = .ok (.aload_n 0, 1) := by decide +kernel
theorem dX4_load_47 : decode cX4_load 47 = .ok (.getfield 45, 3) := by decide +kernel
theorem dX4_load_50 : decode cX4_load 50 = .ok (.getfield 247, 3) := by decide +kernel
theorem dX4_load_53 : decode cX4_load 53 = .ok (.iload_n 1, 1) := by decide +kernel
theorem dX4_load_54 : decode cX4_load 54 = .ok (.iaload, 1) := by decide +kernel
theorem dX4_load_55 : decode cX4_load 55 = .ok (.if_icmp .ge 55, 3) := by decide +kernel
theorem dX4_load_58 : decode cX4_load 58 = .ok (.iload_n 2, 1) := by decide +kernel
theorem dX4_load_59 : decode cX4_load 59 = .ok (.iload_n 3, 1) := by decide +kernel
theorem dX4_load_60 : decode cX4_load 60 = .ok (.iadd, 1) := by decide +kernel
theorem dX4_load_61 : decode cX4_load 61 = .ok (.invokestatic 56, 3) := by decide +kernel
theorem dX4_load_64 : decode cX4_load 64 = .ok (.ifCond .eq 46, 3) := by decide +kernel
theorem dX4_load_67 : decode cX4_load 67 = .ok (.aload_n 0, 1) := by decide +kernel
theorem dX4_load_68 : decode cX4_load 68 = .ok (.getfield 45, 3) := by decide +kernel
theorem dX4_load_71 : decode cX4_load 71 = .ok (.iload_n 1, 1) := by decide +kernel
theorem dX4_load_72 : decode cX4_load 72 = .ok (.iload_n 3, 1) := by decide +kernel
theorem dX4_load_73 : decode cX4_load 73 = .ok (.invokevirtual 266, 3) := by decide +kernel
theorem dX4_load_76 : decode cX4_load 76 = .ok (.iconst 0, 1) := by decide +kernel
theorem dX4_load_77 : decode cX4_load 77 = .ok (.bipush 99, 2) := by decide +kernel
theorem dX4_load_79 : decode cX4_load 79 = .ok (.invokestatic 60, 3) := by decide +kernel
theorem dX4_load_82 : decode cX4_load 82 = .ok (.ifCond .eq 28, 3) := by decide +kernel
theorem dX4_load_85 : decode cX4_load 85 = .ok (.aload_n 0, 1) := by decide +kernel
theorem dX4_load_86 : decode cX4_load 86 = .ok (.getfield 10, 3) := by decide +kernel
theorem dX4_load_89 : decode cX4_load 89 = .ok (.iload_n 2, 1) := by decide +kernel
theorem dX4_load_90 : decode cX4_load 90 = .ok (.iload_n 3, 1) := by decide +kernel
theorem dX4_load_91 : decode cX4_load 91 = .ok (.iadd, 1) := by decide +kernel
theorem dX4_load_92 : decode cX4_load 92 = .ok (.aload_n 0, 1) := by decide +kernel
theorem dX4_load_93 : decode cX4_load 93 = .ok (.getfield 45, 3) := by decide +kernel
theorem dX4_load_96 : decode cX4_load 96 = .ok (.iload_n 1, 1) := by decide +kernel
theorem dX4_load_97 : decode cX4_load 97 = .ok (.iload_n 3, 1) := by decide +kernel
theorem dX4_load_98 : decode cX4_load 98 = .ok (.invokevirtual 266, 3) := by decide +kernel
theorem dX4_load_101 : decode cX4_load 101 = .ok (.invokevirtual 71, 3) := by decide +kernel
theorem dX4_load_104 : decode cX4_load 104 = .ok (.iinc 3 1, 3) := by decide +kernel
theorem dX4_load_107 : decode cX4_load 107 = .ok (.goto (-62), 3) := by decide +kernel
theorem dX4_load_110 : decode cX4_load 110 = .ok (.iload_n 3, 1) := by decide +kernel
theorem dX4_load_111 : decode cX4_load 111 = .ok (.ireturn, 1) := by decide +kernel
theorem dX4_lost_0 : decode cX4_lost 0 = .ok (.aload_n 0, 1) := by decide +kernel
theorem dX4_lost_1 : decode cX4_lost 1 = .ok (.iload_n 1, 1) := by decide +kernel
theorem dX4_lost_2 : decode cX4_lost 2 = .ok (.invokevirtual 111, 3) := by decide +kernel
theorem dX4_lost_5 : decode cX4_lost 5 = .ok (.ifCond .eq 10, 3) := by decide +kernel
theorem dX4_lost_8 : decode cX4_lost 8 = .ok (.iload_n 2, 1) := by decide +kernel
theorem dX4_lost_9 : decode cX4_lost 9 = .ok (.invokestatic 56, 3) := by decide +kernel
theorem dX4_lost_12 : decode cX4_lost 12 = .ok (.ifCond .ne 9, 3) := by decide +kernel
theorem dX4_lost_15 : decode cX4_lost 15 = .ok (.aload_n 0, 1) := by decide +kernel
theorem dX4_lost_16 : decode cX4_lost 16 = .ok (.iconst 0, 1) := by decide +kernel
theorem dX4_lost_17 : decode cX4_lost 17 = .ok (.invokevirtual 64, 3) := by decide +kernel
theorem dX4_lost_20 : decode cX4_lost 20 = .ok (.ireturn, 1) := by decide +kernel
theorem dX4_lost_21 : decode cX4_lost 21 = .ok (.aload_n 0, 1) := by decide +kernel
theorem dX4_lost_22 : decode cX4_lost 22 = .ok (.bipush 60, 2) := by decide +kernel
theorem dX4_lost_24 : decode cX4_lost 24 = .ok (.invokevirtual 186, 3) := by decide +kernel
theorem dX4_lost_27 : decode cX4_lost 27 = .ok (.ifCond .eq 9, 3) := by decide +kernel
theorem dX4_lost_30 : decode cX4_lost 30 = .ok (.aload_n 0, 1) := by decide +kernel
theorem dX4_lost_31 : decode cX4_lost 31 = .ok (.iconst 4, 1) := by decide +kernel
theorem dX4_lost_32 : decode cX4_lost 32 = .ok (.invokevirtual 64, 3) := by decide +kernel
theorem dX4_lost_35 : decode cX4_lost 35 = .ok (.ireturn, 1) := by decide +kernel
theorem dX4_lost_36 : decode cX4_lost 36 = .ok (.aload_n 0, 1) := by decide +kernel
theorem dX4_lost_37 : decode cX4_lost 37 = .ok (.getfield 16, 3) := by decide +kernel
theorem dX4_lost_40 : decode cX4_lost 40 = .ok (.aload_n 0, 1) := by decide +kernel
theorem dX4_lost_41 : decode cX4_lost 41 = .ok (.getfield 10, 3) := by decide +kernel
theorem dX4_lost_44 : decode cX4_lost 44 = .ok (.invokevirtual 165, 3) := by decide +kernel
theorem dX4_lost_47 : decode cX4_lost 47 = .ok (.iconst 0, 1) := by decide +kernel
theorem dX4_lost_48 : decode cX4_lost 48 = .ok (.istore_n 3, 1) := by decide +kernel
theorem dX4_lost_49 : decode cX4_lost 49 = .ok (.iload_n 3, 1) := by decide +kernel
theorem dX4_lost_50 : decode cX4_lost 50 = .ok (.bipush 60, 2) := by decide +kernel
theorem dX4_lost_52 : decode cX4_lost 52 = .ok (.if_icmp .gt 31, 3) := by decide +kernel
theorem dX4_lost_55 : decode cX4_lost 55 = .ok (.aload_n 0, 1) := by decide +kernel
theorem dX4_lost_56 : decode cX4_lost 56 = .ok (.getfield 16, 3) := by decide +kernel
theorem dX4_lost_59 : decode cX4_lost 59 = .ok (.iload_n 1, 1) := by decide +kernel
theorem dX4_lost_60 : decode cX4_lost 60 = .ok (.iload_n 2, 1) := by decide +kernel
theorem dX4_lost_61 : decode cX4_lost 61 = .ok (.invokevirtual 141, 3) := by decide +kernel
theorem dX4_lost_64 : decode cX4_lost 64 = .ok (.ifCond .ne 5, 3) := by decide +kernel
theorem dX4_lost_67 : decode cX4_lost 67 = .ok (.iload_n 3, 1) := by decide +kernel
theorem dX4_lost_68 : decode cX4_lost 68 = .ok (.ireturn, 1) := by decide +kernel
theorem dX4_lost_69 : decode cX4_lost 69 = .ok (.aload_n 0, 1) := by decide +kernel
theorem dX4_lost_70 : decode cX4_lost 70 = .ok (.getfield 16, 3) := by decide +kernel
theorem dX4_lost_73 : decode cX4_lost 73 = .ok (.iconst 1, 1) := by decide +kernel
theorem dX4_lost_74 : decode cX4_lost 74 = .ok (.invokevirtual 207, 3) := by decide +kernel
theorem dX4_lost_77 : decode cX4_lost 77 = .ok (.iinc 3 1, 3) := by decide +kernel
theorem dX4_lost_80 : decode cX4_lost 80 = .ok (.goto (-31), 3) := by decide +kernel
theorem dX4_lost_83 : decode cX4_lost 83 = .ok (.aload_n 0, 1) := by decide +kernel
theorem dX4_lost_84 : decode cX4_lost 84 = .ok (.iconst 3, 1) := by decide +kernel
theorem dX4_lost_85 : decode cX4_lost 85 = .ok (.invokevirtual 64, 3) := by decide +kernel
theorem dX4_lost_88 : decode cX4_lost 88 = .ok (.ireturn, 1) := by decide +kernel
theorem dX4_neighbours_0 : decode cX4_neighbours 0 = .ok (.aload_n 0, 1) := by decide +kernel
theorem dX4_neighbours_1 : decode cX4_neighbours 1 = .ok (.iload_n 1, 1) := by decide +kernel
theorem dX4_neighbours_2 : decode cX4_neighbours 2 = .ok (.invokevirtual 111, 3) := by decide +kernel
theorem dX4_neighbours_5 : decode cX4_neighbours 5 = .ok (.ifCond .ne 9, 3) := by decide +kernel
theorem dX4_neighbours_8 : decode cX4_neighbours 8 = .ok (.aload_n 0, 1) := by decide +kernel
theorem dX4_neighbours_9 : decode cX4_neighbours 9 = .ok (.iconst 0, 1) := by decide +kernel
theorem dX4_neighbours_10 : decode cX4_neighbours 10 = .ok (.invokevirtual 64, 3) := by decide +kernel
theorem dX4_neighbours_13 : decode cX4_neighbours 13 = .ok (.ireturn, 1) := by decide +kernel
theorem dX4_neighbours_14 : decode cX4_neighbours 14 = .ok (.aload_n 0, 1) := by decide +kernel
theorem dX4_neighbours_15 : decode cX4_neighbours 15 = .ok (.getfield 10, 3) := by decide +kernel
theorem dX4_neighbours_18 : decode cX4_neighbours 18 = .ok (.iload_n 1, 1) := by decide +kernel
theorem dX4_neighbours_19 : decode cX4_neighbours 19 = .ok (.invokevirtual 138, 3) := by decide +kernel
theorem dX4_neighbours_22 : decode cX4_neighbours 22 = .ok (.istore_n 2, 1) := by decide +kernel
theorem dX4_neighbours_23 : decode cX4_neighbours 23 = .ok (.iconst 0, 1) := by decide +kernel
theorem dX4_neighbours_24 : decode cX4_neighbours 24 = .ok (.istore_n 3, 1) := by decide +kernel
theorem dX4_neighbours_25 : decode cX4_neighbours 25 = .ok (.iconst 0, 1) := by decide +kernel
theorem dX4_neighbours_26 : decode cX4_neighbours 26 = .ok (.istore 4, 2) := by decide +kernel
theorem dX4_neighbours_28 : decode cX4_neighbours 28 = .ok (.iload 4, 2) := by decide +kernel
theorem dX4_neighbours_30 : decode cX4_neighbours 30 = .ok (.aload_n 0, 1) := by decide +kernel
theorem dX4_neighbours_31 : decode cX4_neighbours 31 = .ok (.getfield 10, 3) := by decide +kernel
theorem dX4_neighbours_34 : decode cX4_neighbours 34 = .ok (.getfield 107, 3) := by decide +kernel
theorem dX4_neighbours_37 : decode cX4_neighbours 37 = .ok (.if_icmp .ge 39, 3) := by decide +kernel
theorem dX4_neighbours_40 : decode cX4_neighbours 40 = .ok (.iload 4, 2) := by decide +kernel
theorem dX4_neighbours_42 : decode cX4_neighbours 42 = .ok (.iload_n 1, 1) := by decide +kernel
theorem dX4_neighbours_43 : decode cX4_neighbours 43 = .ok (.if_icmp .eq 27, 3) := by decide +kernel
theorem dX4_neighbours_46 : decode cX4_neighbours 46 = .ok (.aload_n 0, 1) := by decide +kernel
theorem dX4_neighbours_47 : decode cX4_neighbours 47 = .ok (.getfield 10, 3) := by decide +kernel
theorem dX4_neighbours_50 : decode cX4_neighbours 50 = .ok (.getfield 114, 3) := by decide +kernel
theorem dX4_neighbours_53 : decode cX4_neighbours 53 = .ok (.iload 4, 2) := by decide +kernel
theorem dX4_neighbours_55 : decode cX4_neighbours 55 = .ok (.iaload, 1) := by decide +kernel
theorem dX4_neighbours_56 : decode cX4_neighbours 56 = .ok (.iload_n 2, 1) := by decide +kernel
theorem dX4_neighbours_57 : decode cX4_neighbours 57 = .ok (.invokestatic 145, 3) := by decide +kernel
theorem dX4_neighbours_60 : decode cX4_neighbours 60 = .ok (.ifCond .eq 10, 3) := by decide +kernel
theorem dX4_neighbours_63 : decode cX4_neighbours 63 = .ok (.iload_n 3, 1) := by decide +kernel
theorem dX4_neighbours_64 : decode cX4_neighbours 64 = .ok (.iconst 1, 1) := by decide +kernel
theorem dX4_neighbours_65 : decode cX4_neighbours 65 = .ok (.iload 4, 2) := by decide +kernel
theorem dX4_neighbours_67 : decode cX4_neighbours 67 = .ok (.ishl, 1) := by decide +kernel
theorem dX4_neighbours_68 : decode cX4_neighbours 68 = .ok (.ior, 1) := by decide +kernel
theorem dX4_neighbours_69 : decode cX4_neighbours 69 = .ok (.istore_n 3, 1) := by decide +kernel
theorem dX4_neighbours_70 : decode cX4_neighbours 70 = .ok (.iinc 4 1, 3) := by decide +kernel
theorem dX4_neighbours_73 : decode cX4_neighbours 73 = .ok (.goto (-45), 3) := by decide +kernel
theorem dX4_neighbours_76 : decode cX4_neighbours 76 = .ok (.iload_n 3, 1) := by decide +kernel
theorem dX4_neighbours_77 : decode cX4_neighbours 77 = .ok (.ireturn, 1) := by decide +kernel
theorem dX4_plant_0 : decode cX4_plant 0 = .ok (.iload_n 1, 1) := by decide +kernel
theorem dX4_plant_1 : decode cX4_plant 1 = .ok (.invokestatic 81, 3) := by decide +kernel
theorem dX4_plant_4 : decode cX4_plant 4 = .ok (.ifCond .ne 9, 3) := by decide +kernel
theorem dX4_plant_7 : decode cX4_plant 7 = .ok (.aload_n 0, 1) := by decide +kernel
theorem dX4_plant_8 : decode cX4_plant 8 = .ok (.iconst 0, 1) := by decide +kernel
theorem dX4_plant_9 : decode cX4_plant 9 = .ok (.invokevirtual 64, 3) := by decide +kernel
theorem dX4_plant_12 : decode cX4_plant 12 = .ok (.ireturn, 1) := by decide +kernel
theorem dX4_plant_13 : decode cX4_plant 13 = .ok (.iconst (-1), 1) := by decide +kernel
theorem dX4_plant_14 : decode cX4_plant 14 = .ok (.istore_n 2, 1) := by decide +kernel
theorem dX4_plant_15 : decode cX4_plant 15 = .ok (.iconst 0, 1) := by decide +kernel
theorem dX4_plant_16 : decode cX4_plant 16 = .ok (.istore_n 3, 1) := by decide +kernel
theorem dX4_plant_17 : decode cX4_plant 17 = .ok (.iconst 0, 1) := by decide +kernel
theorem dX4_plant_18 : decode cX4_plant 18 = .ok (.istore 4, 2) := by decide +kernel
theorem dX4_plant_20 : decode cX4_plant 20 = .ok (.iload 4, 2) := by decide +kernel
theorem dX4_plant_22 : decode cX4_plant 22 = .ok (.bipush 24, 2) := by decide +kernel
theorem dX4_plant_24 : decode cX4_plant 24 = .ok (.if_icmp .ge 42, 3) := by decide +kernel
theorem dX4_plant_27 : decode cX4_plant 27 = .ok (.aload_n 0, 1) := by decide +kernel
theorem dX4_plant_28 : decode cX4_plant 28 = .ok (.iload 4, 2) := by decide +kernel
theorem dX4_plant_30 : decode cX4_plant 30 = .ok (.iload_n 1, 1) := by decide +kernel
theorem dX4_plant_31 : decode cX4_plant 31 = .ok (.iconst 0, 1) := by decide +kernel
theorem dX4_plant_32 : decode cX4_plant 32 = .ok (.invokevirtual 189, 3) := by decide +kernel
theorem dX4_plant_35 : decode cX4_plant 35 = .ok (.aload_n 0, 1) := by decide +kernel
theorem dX4_plant_36 : decode cX4_plant 36 = .ok (.getfield 16, 3) := by decide +kernel
theorem dX4_plant_39 : decode cX4_plant 39 = .ok (.invokevirtual 158, 3) := by decide +kernel
theorem dX4_plant_42 : decode cX4_plant 42 = .ok (.istore 5, 2) := by decide +kernel
theorem dX4_plant_44 : decode cX4_plant 44 = .ok (.iload_n 2, 1) := by decide +kernel
theorem dX4_plant_45 : decode cX4_plant 45 = .ok (.ifCond .lt 9, 3) := by decide +kernel
theorem dX4_plant_48 : decode cX4_plant 48 = .ok (.iload 5, 2) := by decide +kernel
theorem dX4_plant_50 : decode cX4_plant 50 = .ok (.iload_n 3, 1) := by decide +kernel
theorem dX4_plant_51 : decode cX4_plant 51 = .ok (.if_icmp .le 9, 3) := by decide +kernel
theorem dX4_plant_54 : decode cX4_plant 54 = .ok (.iload 5, 2) := by decide +kernel
theorem dX4_plant_56 : decode cX4_plant 56 = .ok (.istore_n 3, 1) := by decide +kernel
theorem dX4_plant_57 : decode cX4_plant 57 = .ok (.iload 4, 2) := by decide +kernel
theorem dX4_plant_59 : decode cX4_plant 59 = .ok (.istore_n 2, 1) := by decide +kernel
theorem dX4_plant_60 : decode cX4_plant 60 = .ok (.iinc 4 1, 3) := by decide +kernel
theorem dX4_plant_63 : decode cX4_plant 63 = .ok (.goto (-43), 3) := by decide +kernel
theorem dX4_plant_66 : decode cX4_plant 66 = .ok (.iload_n 2, 1) := by decide +kernel
theorem dX4_plant_67 : decode cX4_plant 67 = .ok (.ireturn, 1) := by decide +kernel
theorem dX4_quake_0 : decode cX4_quake 0 = .ok (.iload_n 1, 1) := by decide +kernel
theorem dX4_quake_1 : decode cX4_quake 1 = .ok (.iconst 1, 1) := by decide +kernel
theorem dX4_quake_2 : decode cX4_quake 2 = .ok (.bipush 10, 2) := by decide +kernel
theorem dX4_quake_4 : decode cX4_quake 4 = .ok (.invokestatic 60, 3) := by decide +kernel
theorem dX4_quake_7 : decode cX4_quake 7 = .ok (.ifCond .ne 9, 3) := by decide +kernel
theorem dX4_quake_10 : decode cX4_quake 10 = .ok (.aload_n 0, 1) := by decide +kernel
theorem dX4_quake_11 : decode cX4_quake 11 = .ok (.iconst 0, 1) := by decide +kernel
theorem dX4_quake_12 : decode cX4_quake 12 = .ok (.invokevirtual 64, 3) := by decide +kernel
theorem dX4_quake_15 : decode cX4_quake 15 = .ok (.ireturn, 1) := by decide +kernel
theorem dX4_quake_16 : decode cX4_quake 16 = .ok (.iconst 0, 1) := by decide +kernel
theorem dX4_quake_17 : decode cX4_quake 17 = .ok (.istore_n 2, 1) := by decide +kernel
theorem dX4_quake_18 : decode cX4_quake 18 = .ok (.iload_n 2, 1) := by decide +kernel
theorem dX4_quake_19 : decode cX4_quake 19 = .ok (.iload_n 1, 1) := by decide +kernel
theorem dX4_quake_20 : decode cX4_quake 20 = .ok (.if_icmp .ge 38, 3) := by decide +kernel
theorem dX4_quake_23 : decode cX4_quake 23 = .ok (.aload_n 0, 1) := by decide +kernel
theorem dX4_quake_24 : decode cX4_quake 24 = .ok (.getfield 10, 3) := by decide +kernel
theorem dX4_quake_27 : decode cX4_quake 27 = .ok (.invokevirtual 213, 3) := by decide +kernel
theorem dX4_quake_30 : decode cX4_quake 30 = .ok (.bipush 24, 2) := by decide +kernel
theorem dX4_quake_32 : decode cX4_quake 32 = .ok (.irem, 1) := by decide +kernel
theorem dX4_quake_33 : decode cX4_quake 33 = .ok (.istore_n 3, 1) := by decide +kernel
theorem dX4_quake_34 : decode cX4_quake 34 = .ok (.aload_n 0, 1) := by decide +kernel
theorem dX4_quake_35 : decode cX4_quake 35 = .ok (.getfield 10, 3) := by decide +kernel
theorem dX4_quake_38 : decode cX4_quake 38 = .ok (.iload_n 3, 1) := by decide +kernel
theorem dX4_quake_39 : decode cX4_quake 39 = .ok (.aload_n 0, 1) := by decide +kernel
theorem dX4_quake_40 : decode cX4_quake 40 = .ok (.getfield 10, 3) := by decide +kernel
theorem dX4_quake_43 : decode cX4_quake 43 = .ok (.invokevirtual 213, 3) := by decide +kernel
theorem dX4_quake_46 : decode cX4_quake 46 = .ok (.bipush 100, 2) := by decide +kernel
theorem dX4_quake_48 : decode cX4_quake 48 = .ok (.irem, 1) := by decide +kernel
theorem dX4_quake_49 : decode cX4_quake 49 = .ok (.invokevirtual 71, 3) := by decide +kernel
theorem dX4_quake_52 : decode cX4_quake 52 = .ok (.iinc 2 1, 3) := by decide +kernel
theorem dX4_quake_55 : decode cX4_quake 55 = .ok (.goto (-37), 3) := by decide +kernel
theorem dX4_quake_58 : decode cX4_quake 58 = .ok (.iconst 0, 1) := by decide +kernel
theorem dX4_quake_59 : decode cX4_quake 59 = .ok (.istore_n 2, 1) := by decide +kernel
theorem dX4_quake_60 : decode cX4_quake 60 = .ok (.iconst 0, 1) := by decide +kernel
theorem dX4_quake_61 : decode cX4_quake 61 = .ok (.istore_n 3, 1) := by decide +kernel
theorem dX4_quake_62 : decode cX4_quake 62 = .ok (.iload_n 3, 1) := by decide +kernel
theorem dX4_quake_63 : decode cX4_quake 63 = .ok (.bipush 24, 2) := by decide +kernel
theorem dX4_quake_65 : decode cX4_quake 65 = .ok (.if_icmp .ge 21, 3) := by decide +kernel
theorem dX4_quake_68 : decode cX4_quake 68 = .ok (.iload_n 2, 1) := by decide +kernel
theorem dX4_quake_69 : decode cX4_quake 69 = .ok (.aload_n 0, 1) := by decide +kernel
theorem dX4_quake_70 : decode cX4_quake 70 = .ok (.getfield 10, 3) := by decide +kernel
theorem dX4_quake_73 : decode cX4_quake 73 = .ok (.getfield 68, 3) := by decide +kernel
theorem dX4_quake_76 : decode cX4_quake 76 = .ok (.iload_n 3, 1) := by decide +kernel
theorem dX4_quake_77 : decode cX4_quake 77 = .ok (.iaload, 1) := by decide +kernel
theorem dX4_quake_78 : decode cX4_quake 78 = .ok (.iadd, 1) := by decide +kernel
theorem dX4_quake_79 : decode cX4_quake 79 = .ok (.istore_n 2, 1) := by decide +kernel
theorem dX4_quake_80 : decode cX4_quake 80 = .ok (.iinc 3 1, 3) := by decide +kernel
theorem dX4_quake_83 : decode cX4_quake 83 = .ok (.goto (-21), 3) := by decide +kernel
theorem dX4_quake_86 : decode cX4_quake 86 = .ok (.iload_n 2, 1) := by decide +kernel
theorem dX4_quake_87 : decode cX4_quake 87 = .ok (.ireturn, 1) := by decide +kernel
theorem dX4_rateFor_0 : decode cX4_rateFor 0 = .ok (.iload_n 1, 1) := by decide +kernel
theorem dX4_rateFor_1 : decode cX4_rateFor 1 = .ok (.invokestatic 174, 3) := by decide +kernel
theorem dX4_rateFor_4 : decode cX4_rateFor 4 = .ok (.ifCond .ne 9, 3) := by decide +kernel
theorem dX4_rateFor_7 : decode cX4_rateFor 7 = .ok (.aload_n 0, 1) := by decide +kernel
theorem dX4_rateFor_8 : decode cX4_rateFor 8 = .ok (.iconst 0, 1) := by decide +kernel
theorem dX4_rateFor_9 : decode cX4_rateFor 9 = .ok (.invokevirtual 64, 3) := by decide +kernel
theorem dX4_rateFor_12 : decode cX4_rateFor 12 = .ok (.ireturn, 1) := by decide +kernel
theorem dX4_rateFor_13 : decode cX4_rateFor 13 = .ok (.iconst 0, 1) := by decide +kernel
theorem dX4_rateFor_14 : decode cX4_rateFor 14 = .ok (.istore_n 2, 1) := by decide +kernel
theorem dX4_rateFor_15 : decode cX4_rateFor 15 = .ok (.iload_n 2, 1) := by decide +kernel
theorem dX4_rateFor_16 : decode cX4_rateFor 16 = .ok (.aload_n 0, 1) := by decide +kernel
theorem dX4_rateFor_17 : decode cX4_rateFor 17 = .ok (.getfield 10, 3) := by decide +kernel
theorem dX4_rateFor_20 : decode cX4_rateFor 20 = .ok (.getfield 107, 3) := by decide +kernel
theorem dX4_rateFor_23 : decode cX4_rateFor 23 = .ok (.if_icmp .ge 23, 3) := by decide +kernel
theorem dX4_rateFor_26 : decode cX4_rateFor 26 = .ok (.aload_n 0, 1) := by decide +kernel
theorem dX4_rateFor_27 : decode cX4_rateFor 27 = .ok (.getfield 53, 3) := by decide +kernel
theorem dX4_rateFor_30 : decode cX4_rateFor 30 = .ok (.iload_n 2, 1) := by decide +kernel
theorem dX4_rateFor_31 : decode cX4_rateFor 31 = .ok (.aload_n 0, 1) := by decide +kernel
theorem dX4_rateFor_32 : decode cX4_rateFor 32 = .ok (.getfield 10, 3) := by decide +kernel
theorem dX4_rateFor_35 : decode cX4_rateFor 35 = .ok (.iload_n 2, 1) := by decide +kernel
theorem dX4_rateFor_36 : decode cX4_rateFor 36 = .ok (.invokevirtual 177, 3) := by decide +kernel
theorem dX4_rateFor_39 : decode cX4_rateFor 39 = .ok (.iastore, 1) := by decide +kernel
theorem dX4_rateFor_40 : decode cX4_rateFor 40 = .ok (.iinc 2 1, 3) := by decide +kernel
theorem dX4_rateFor_43 : decode cX4_rateFor 43 = .ok (.goto (-28), 3) := by decide +kernel
theorem dX4_rateFor_46 : decode cX4_rateFor 46 = .ok (.iconst 0, 1) := by decide +kernel
theorem dX4_rateFor_47 : decode cX4_rateFor 47 = .ok (.istore_n 2, 1) := by decide +kernel
theorem dX4_rateFor_48 : decode cX4_rateFor 48 = .ok (.iload_n 2, 1) := by decide +kernel
theorem dX4_rateFor_49 : decode cX4_rateFor 49 = .ok (.bipush 99, 2) := by decide +kernel
theorem dX4_rateFor_51 : decode cX4_rateFor 51 = .ok (.if_icmp .gt 53, 3) := by decide +kernel
theorem dX4_rateFor_54 : decode cX4_rateFor 54 = .ok (.iconst 0, 1) := by decide +kernel
theorem dX4_rateFor_55 : decode cX4_rateFor 55 = .ok (.istore_n 3, 1) := by decide +kernel
theorem dX4_rateFor_56 : decode cX4_rateFor 56 = .ok (.iconst 0, 1) := by decide +kernel
theorem dX4_rateFor_57 : decode cX4_rateFor 57 = .ok (.istore 4, 2) := by decide +kernel
theorem dX4_rateFor_59 : decode cX4_rateFor 59 = .ok (.iload 4, 2) := by decide +kernel
theorem dX4_rateFor_61 : decode cX4_rateFor 61 = .ok (.aload_n 0, 1) := by decide +kernel
theorem dX4_rateFor_62 : decode cX4_rateFor 62 = .ok (.getfield 10, 3) := by decide +kernel
theorem dX4_rateFor_65 : decode cX4_rateFor 65 = .ok (.getfield 107, 3) := by decide +kernel
theorem dX4_rateFor_68 : decode cX4_rateFor 68 = .ok (.if_icmp .ge 23, 3) := by decide +kernel
theorem dX4_rateFor_71 : decode cX4_rateFor 71 = .ok (.iload_n 3, 1) := by decide +kernel
theorem dX4_rateFor_72 : decode cX4_rateFor 72 = .ok (.aload_n 0, 1) := by decide +kernel
theorem dX4_rateFor_73 : decode cX4_rateFor 73 = .ok (.getfield 53, 3) := by decide +kernel
theorem dX4_rateFor_76 : decode cX4_rateFor 76 = .ok (.iload 4, 2) := by decide +kernel
theorem dX4_rateFor_78 : decode cX4_rateFor 78 = .ok (.iaload, 1) := by decide +kernel
theorem dX4_rateFor_79 : decode cX4_rateFor 79 = .ok (.iload_n 2, 1) := by decide +kernel
theorem dX4_rateFor_80 : decode cX4_rateFor 80 = .ok (.invokestatic 180, 3) := by decide +kernel
theorem dX4_rateFor_83 : decode cX4_rateFor 83 = .ok (.iadd, 1) := by decide +kernel
theorem dX4_rateFor_84 : decode cX4_rateFor 84 = .ok (.istore_n 3, 1) := by decide +kernel
theorem dX4_rateFor_85 : decode cX4_rateFor 85 = .ok (.iinc 4 1, 3) := by decide +kernel
theorem dX4_rateFor_88 : decode cX4_rateFor 88 = .ok (.goto (-29), 3) := by decide +kernel
theorem dX4_rateFor_91 : decode cX4_rateFor 91 = .ok (.iload_n 3, 1) := by decide +kernel
theorem dX4_rateFor_92 : decode cX4_rateFor 92 = .ok (.iload_n 1, 1) := by decide +kernel
theorem dX4_rateFor_93 : decode cX4_rateFor 93 = .ok (.if_icmp .lt 5, 3) := by decide +kernel
theorem dX4_rateFor_96 : decode cX4_rateFor 96 = .ok (.iload_n 2, 1) := by decide +kernel
theorem dX4_rateFor_97 : decode cX4_rateFor 97 = .ok (.ireturn, 1) := by decide +kernel
theorem dX4_rateFor_98 : decode cX4_rateFor 98 = .ok (.iinc 2 1, 3) := by decide +kernel
theorem dX4_rateFor_101 : decode cX4_rateFor 101 = .ok (.goto (-53), 3) := by decide +kernel
theorem dX4_rateFor_104 : decode cX4_rateFor 104 = .ok (.aload_n 0, 1) := by decide +kernel
theorem dX4_rateFor_105 : decode cX4_rateFor 105 = .ok (.iconst 3, 1) := by decide +kernel
theorem dX4_rateFor_106 : decode cX4_rateFor 106 = .ok (.invokevirtual 64, 3) := by decide +kernel
theorem dX4_rateFor_109 : decode cX4_rateFor 109 = .ok (.ireturn, 1) := by decide +kernel
theorem dX4_restless_0 : decode cX4_restless 0 = .ok (.iconst 0, 1) := by decide +kernel
theorem dX4_restless_1 : decode cX4_restless 1 = .ok (.istore_n 1, 1) := by decide +kernel
theorem dX4_restless_2 : decode cX4_restless 2 = .ok (.iconst 0, 1) := by decide +kernel
theorem dX4_restless_3 : decode cX4_restless 3 = .ok (.istore_n 2, 1) := by decide +kernel
theorem dX4_restless_4 : decode cX4_restless 4 = .ok (.iload_n 2, 1) := by decide +kernel
theorem dX4_restless_5 : decode cX4_restless 5 = .ok (.aload_n 0, 1) := by decide +kernel
theorem dX4_restless_6 : decode cX4_restless 6 = .ok (.getfield 10, 3) := by decide +kernel
theorem dX4_restless_9 : decode cX4_restless 9 = .ok (.getfield 107, 3) := by decide +kernel
theorem dX4_restless_12 : decode cX4_restless 12 = .ok (.if_icmp .ge 47, 3) := by decide +kernel
theorem dX4_restless_15 : decode cX4_restless 15 = .ok (.aload_n 0, 1) := by decide +kernel
theorem dX4_restless_16 : decode cX4_restless 16 = .ok (.iload_n 2, 1) := by decide +kernel
theorem dX4_restless_17 : decode cX4_restless 17 = .ok (.invokevirtual 162, 3) := by decide +kernel
theorem dX4_restless_20 : decode cX4_restless 20 = .ok (.istore_n 3, 1) := by decide +kernel
theorem dX4_restless_21 : decode cX4_restless 21 = .ok (.aload_n 0, 1) := by decide +kernel
theorem dX4_restless_22 : decode cX4_restless 22 = .ok (.getfield 16, 3) := by decide +kernel
theorem dX4_restless_25 : decode cX4_restless 25 = .ok (.getfield 117, 3) := by decide +kernel
theorem dX4_restless_28 : decode cX4_restless 28 = .ok (.iload_n 2, 1) := by decide +kernel
theorem dX4_restless_29 : decode cX4_restless 29 = .ok (.iload_n 3, 1) := by decide +kernel
theorem dX4_restless_30 : decode cX4_restless 30 = .ok (.iastore, 1) := by decide +kernel
theorem dX4_restless_31 : decode cX4_restless 31 = .ok (.aload_n 0, 1) := by decide +kernel
theorem dX4_restless_32 : decode cX4_restless 32 = .ok (.getfield 16, 3) := by decide +kernel
theorem dX4_restless_35 : decode cX4_restless 35 = .ok (.iload_n 2, 1) := by decide +kernel
theorem dX4_restless_36 : decode cX4_restless 36 = .ok (.invokevirtual 155, 3) := by decide +kernel
theorem dX4_restless_39 : decode cX4_restless 39 = .ok (.aload_n 0, 1) := by decide +kernel
theorem dX4_restless_40 : decode cX4_restless 40 = .ok (.getfield 10, 3) := by decide +kernel
theorem dX4_restless_43 : decode cX4_restless 43 = .ok (.iload_n 2, 1) := by decide +kernel
theorem dX4_restless_44 : decode cX4_restless 44 = .ok (.invokevirtual 155, 3) := by decide +kernel
theorem dX4_restless_47 : decode cX4_restless 47 = .ok (.if_icmp .ge 6, 3) := by decide +kernel
theorem dX4_restless_50 : decode cX4_restless 50 = .ok (.iinc 1 1, 3) := by decide +kernel
theorem dX4_restless_53 : decode cX4_restless 53 = .ok (.iinc 2 1, 3) := by decide +kernel
theorem dX4_restless_56 : decode cX4_restless 56 = .ok (.goto (-52), 3) := by decide +kernel
theorem dX4_restless_59 : decode cX4_restless 59 = .ok (.iload_n 1, 1) := by decide +kernel
theorem dX4_restless_60 : decode cX4_restless 60 = .ok (.ireturn, 1) := by decide +kernel
theorem dX4_seed_0 : decode cX4_seed 0 = .ok (.aload_n 0, 1) := by decide +kernel
theorem dX4_seed_1 : decode cX4_seed 1 = .ok (.getfield 10, 3) := by decide +kernel
theorem dX4_seed_4 : decode cX4_seed 4 = .ok (.getfield 216, 3) := by decide +kernel
theorem dX4_seed_7 : decode cX4_seed 7 = .ok (.istore_n 2, 1) := by decide +kernel
theorem dX4_seed_8 : decode cX4_seed 8 = .ok (.aload_n 0, 1) := by decide +kernel
theorem dX4_seed_9 : decode cX4_seed 9 = .ok (.getfield 10, 3) := by decide +kernel
theorem dX4_seed_12 : decode cX4_seed 12 = .ok (.iload_n 1, 1) := by decide +kernel
theorem dX4_seed_13 : decode cX4_seed 13 = .ok (.putfield 216, 3) := by decide +kernel
theorem dX4_seed_16 : decode cX4_seed 16 = .ok (.iload_n 2, 1) := by decide +kernel
theorem dX4_seed_17 : decode cX4_seed 17 = .ok (.ireturn, 1) := by decide +kernel
theorem dX4_seenBy_0 : decode cX4_seenBy 0 = .ok (.iload_n 1, 1) := by decide +kernel
theorem dX4_seenBy_1 : decode cX4_seenBy 1 = .ok (.invokestatic 56, 3) := by decide +kernel
theorem dX4_seenBy_4 : decode cX4_seenBy 4 = .ok (.ifCond .ne 9, 3) := by decide +kernel
theorem dX4_seenBy_7 : decode cX4_seenBy 7 = .ok (.aload_n 0, 1) := by decide +kernel
theorem dX4_seenBy_8 : decode cX4_seenBy 8 = .ok (.iconst 0, 1) := by decide +kernel
theorem dX4_seenBy_9 : decode cX4_seenBy 9 = .ok (.invokevirtual 64, 3) := by decide +kernel
theorem dX4_seenBy_12 : decode cX4_seenBy 12 = .ok (.ireturn, 1) := by decide +kernel
theorem dX4_seenBy_13 : decode cX4_seenBy 13 = .ok (.iconst 0, 1) := by decide +kernel
theorem dX4_seenBy_14 : decode cX4_seenBy 14 = .ok (.istore_n 2, 1) := by decide +kernel
theorem dX4_seenBy_15 : decode cX4_seenBy 15 = .ok (.iconst 0, 1) := by decide +kernel
theorem dX4_seenBy_16 : decode cX4_seenBy 16 = .ok (.istore_n 3, 1) := by decide +kernel
theorem dX4_seenBy_17 : decode cX4_seenBy 17 = .ok (.iload_n 3, 1) := by decide +kernel
theorem dX4_seenBy_18 : decode cX4_seenBy 18 = .ok (.aload_n 0, 1) := by decide +kernel
theorem dX4_seenBy_19 : decode cX4_seenBy 19 = .ok (.getfield 10, 3) := by decide +kernel
theorem dX4_seenBy_22 : decode cX4_seenBy 22 = .ok (.getfield 107, 3) := by decide +kernel
theorem dX4_seenBy_25 : decode cX4_seenBy 25 = .ok (.if_icmp .ge 27, 3) := by decide +kernel
theorem dX4_seenBy_28 : decode cX4_seenBy 28 = .ok (.aload_n 0, 1) := by decide +kernel
theorem dX4_seenBy_29 : decode cX4_seenBy 29 = .ok (.getfield 10, 3) := by decide +kernel
theorem dX4_seenBy_32 : decode cX4_seenBy 32 = .ok (.iload_n 3, 1) := by decide +kernel
theorem dX4_seenBy_33 : decode cX4_seenBy 33 = .ok (.iload_n 1, 1) := by decide +kernel
theorem dX4_seenBy_34 : decode cX4_seenBy 34 = .ok (.invokevirtual 141, 3) := by decide +kernel
theorem dX4_seenBy_37 : decode cX4_seenBy 37 = .ok (.ifCond .eq 9, 3) := by decide +kernel
theorem dX4_seenBy_40 : decode cX4_seenBy 40 = .ok (.iload_n 2, 1) := by decide +kernel
theorem dX4_seenBy_41 : decode cX4_seenBy 41 = .ok (.iconst 1, 1) := by decide +kernel
theorem dX4_seenBy_42 : decode cX4_seenBy 42 = .ok (.iload_n 3, 1) := by decide +kernel
theorem dX4_seenBy_43 : decode cX4_seenBy 43 = .ok (.ishl, 1) := by decide +kernel
theorem dX4_seenBy_44 : decode cX4_seenBy 44 = .ok (.ior, 1) := by decide +kernel
theorem dX4_seenBy_45 : decode cX4_seenBy 45 = .ok (.istore_n 2, 1) := by decide +kernel
theorem dX4_seenBy_46 : decode cX4_seenBy 46 = .ok (.iinc 3 1, 3) := by decide +kernel
theorem dX4_seenBy_49 : decode cX4_seenBy 49 = .ok (.goto (-32), 3) := by decide +kernel
theorem dX4_seenBy_52 : decode cX4_seenBy 52 = .ok (.iload_n 2, 1) := by decide +kernel
theorem dX4_seenBy_53 : decode cX4_seenBy 53 = .ok (.ireturn, 1) := by decide +kernel
theorem dX4_sees_0 : decode cX4_sees 0 = .ok (.aload_n 0, 1) := by decide +kernel
theorem dX4_sees_1 : decode cX4_sees 1 = .ok (.iload_n 1, 1) := by decide +kernel
theorem dX4_sees_2 : decode cX4_sees 2 = .ok (.invokevirtual 111, 3) := by decide +kernel
theorem dX4_sees_5 : decode cX4_sees 5 = .ok (.ifCond .eq 10, 3) := by decide +kernel
theorem dX4_sees_8 : decode cX4_sees 8 = .ok (.iload_n 2, 1) := by decide +kernel
theorem dX4_sees_9 : decode cX4_sees 9 = .ok (.invokestatic 56, 3) := by decide +kernel
theorem dX4_sees_12 : decode cX4_sees 12 = .ok (.ifCond .ne 9, 3) := by decide +kernel
theorem dX4_sees_15 : decode cX4_sees 15 = .ok (.aload_n 0, 1) := by decide +kernel
theorem dX4_sees_16 : decode cX4_sees 16 = .ok (.iconst 0, 1) := by decide +kernel
theorem dX4_sees_17 : decode cX4_sees 17 = .ok (.invokevirtual 64, 3) := by decide +kernel
theorem dX4_sees_20 : decode cX4_sees 20 = .ok (.ireturn, 1) := by decide +kernel
theorem dX4_sees_21 : decode cX4_sees 21 = .ok (.aload_n 0, 1) := by decide +kernel
theorem dX4_sees_22 : decode cX4_sees 22 = .ok (.getfield 10, 3) := by decide +kernel
theorem dX4_sees_25 : decode cX4_sees 25 = .ok (.iload_n 1, 1) := by decide +kernel
theorem dX4_sees_26 : decode cX4_sees 26 = .ok (.iload_n 2, 1) := by decide +kernel
theorem dX4_sees_27 : decode cX4_sees 27 = .ok (.invokevirtual 141, 3) := by decide +kernel
theorem dX4_sees_30 : decode cX4_sees 30 = .ok (.ifCond .eq 7, 3) := by decide +kernel
theorem dX4_sees_33 : decode cX4_sees 33 = .ok (.iconst 1, 1) := by decide +kernel
theorem dX4_sees_34 : decode cX4_sees 34 = .ok (.goto 4, 3) := by decide +kernel
theorem dX4_sees_37 : decode cX4_sees 37 = .ok (.iconst 0, 1) := by decide +kernel
theorem dX4_sees_38 : decode cX4_sees 38 = .ok (.ireturn, 1) := by decide +kernel
theorem dX4_set_0 : decode cX4_set 0 = .ok (.iload_n 1, 1) := by decide +kernel
theorem dX4_set_1 : decode cX4_set 1 = .ok (.invokestatic 56, 3) := by decide +kernel
theorem dX4_set_4 : decode cX4_set 4 = .ok (.ifCond .eq 10, 3) := by decide +kernel
theorem dX4_set_7 : decode cX4_set 7 = .ok (.iload_n 2, 1) := by decide +kernel
theorem dX4_set_8 : decode cX4_set 8 = .ok (.invokestatic 81, 3) := by decide +kernel
theorem dX4_set_11 : decode cX4_set 11 = .ok (.ifCond .ne 9, 3) := by decide +kernel
theorem dX4_set_14 : decode cX4_set 14 = .ok (.aload_n 0, 1) := by decide +kernel
theorem dX4_set_15 : decode cX4_set 15 = .ok (.iconst 0, 1) := by decide +kernel
theorem dX4_set_16 : decode cX4_set 16 = .ok (.invokevirtual 64, 3) := by decide +kernel
theorem dX4_set_19 : decode cX4_set 19 = .ok (.ireturn, 1) := by decide +kernel
theorem dX4_set_20 : decode cX4_set 20 = .ok (.aload_n 0, 1) := by decide +kernel
theorem dX4_set_21 : decode cX4_set 21 = .ok (.getfield 10, 3) := by decide +kernel
theorem dX4_set_24 : decode cX4_set 24 = .ok (.getfield 84, 3) := by decide +kernel
theorem dX4_set_27 : decode cX4_set 27 = .ok (.iload_n 1, 1) := by decide +kernel
theorem dX4_set_28 : decode cX4_set 28 = .ok (.iaload, 1) := by decide +kernel
theorem dX4_set_29 : decode cX4_set 29 = .ok (.istore_n 3, 1) := by decide +kernel
theorem dX4_set_30 : decode cX4_set 30 = .ok (.aload_n 0, 1) := by decide +kernel
theorem dX4_set_31 : decode cX4_set 31 = .ok (.getfield 10, 3) := by decide +kernel
theorem dX4_set_34 : decode cX4_set 34 = .ok (.iload_n 1, 1) := by decide +kernel
theorem dX4_set_35 : decode cX4_set 35 = .ok (.iload_n 2, 1) := by decide +kernel
theorem dX4_set_36 : decode cX4_set 36 = .ok (.invokevirtual 87, 3) := by decide +kernel
theorem dX4_set_39 : decode cX4_set 39 = .ok (.iload_n 3, 1) := by decide +kernel
theorem dX4_set_40 : decode cX4_set 40 = .ok (.ireturn, 1) := by decide +kernel
theorem dX4_shade_0 : decode cX4_shade 0 = .ok (.aload_n 0, 1) := by decide +kernel
theorem dX4_shade_1 : decode cX4_shade 1 = .ok (.iload_n 1, 1) := by decide +kernel
theorem dX4_shade_2 : decode cX4_shade 2 = .ok (.invokevirtual 111, 3) := by decide +kernel
theorem dX4_shade_5 : decode cX4_shade 5 = .ok (.ifCond .eq 17, 3) := by decide +kernel
theorem dX4_shade_8 : decode cX4_shade 8 = .ok (.iload_n 2, 1) := by decide +kernel
theorem dX4_shade_9 : decode cX4_shade 9 = .ok (.invokestatic 81, 3) := by decide +kernel
theorem dX4_shade_12 : decode cX4_shade 12 = .ok (.ifCond .eq 10, 3) := by decide +kernel
theorem dX4_shade_15 : decode cX4_shade 15 = .ok (.iload_n 3, 1) := by decide +kernel
theorem dX4_shade_16 : decode cX4_shade 16 = .ok (.invokestatic 183, 3) := by decide +kernel
theorem dX4_shade_19 : decode cX4_shade 19 = .ok (.ifCond .ne 9, 3) := by decide +kernel
theorem dX4_shade_22 : decode cX4_shade 22 = .ok (.aload_n 0, 1) := by decide +kernel
theorem dX4_shade_23 : decode cX4_shade 23 = .ok (.iconst 0, 1) := by decide +kernel
theorem dX4_shade_24 : decode cX4_shade 24 = .ok (.invokevirtual 64, 3) := by decide +kernel
theorem dX4_shade_27 : decode cX4_shade 27 = .ok (.ireturn, 1) := by decide +kernel
theorem dX4_shade_28 : decode cX4_shade 28 = .ok (.aload_n 0, 1) := by decide +kernel
theorem dX4_shade_29 : decode cX4_shade 29 = .ok (.iload_n 3, 1) := by decide +kernel
theorem dX4_shade_30 : decode cX4_shade 30 = .ok (.invokevirtual 186, 3) := by decide +kernel
theorem dX4_shade_33 : decode cX4_shade 33 = .ok (.ifCond .eq 9, 3) := by decide +kernel
theorem dX4_shade_36 : decode cX4_shade 36 = .ok (.aload_n 0, 1) := by decide +kernel
theorem dX4_shade_37 : decode cX4_shade 37 = .ok (.iconst 4, 1) := by decide +kernel
theorem dX4_shade_38 : decode cX4_shade 38 = .ok (.invokevirtual 64, 3) := by decide +kernel
theorem dX4_shade_41 : decode cX4_shade 41 = .ok (.ireturn, 1) := by decide +kernel
theorem dX4_shade_42 : decode cX4_shade 42 = .ok (.iconst (-1), 1) := by decide +kernel
theorem dX4_shade_43 : decode cX4_shade 43 = .ok (.istore 4, 2) := by decide +kernel
theorem dX4_shade_45 : decode cX4_shade 45 = .ok (.iconst 0, 1) := by decide +kernel
theorem dX4_shade_46 : decode cX4_shade 46 = .ok (.istore 5, 2) := by decide +kernel
theorem dX4_shade_48 : decode cX4_shade 48 = .ok (.iconst 0, 1) := by decide +kernel
theorem dX4_shade_49 : decode cX4_shade 49 = .ok (.istore 6, 2) := by decide +kernel
theorem dX4_shade_51 : decode cX4_shade 51 = .ok (.iload 6, 2) := by decide +kernel
theorem dX4_shade_53 : decode cX4_shade 53 = .ok (.bipush 24, 2) := by decide +kernel
theorem dX4_shade_55 : decode cX4_shade 55 = .ok (.if_icmp .ge 47, 3) := by decide +kernel
theorem dX4_shade_58 : decode cX4_shade 58 = .ok (.aload_n 0, 1) := by decide +kernel
theorem dX4_shade_59 : decode cX4_shade 59 = .ok (.iload 6, 2) := by decide +kernel
theorem dX4_shade_61 : decode cX4_shade 61 = .ok (.iload_n 2, 1) := by decide +kernel
theorem dX4_shade_62 : decode cX4_shade 62 = .ok (.iload_n 3, 1) := by decide +kernel
theorem dX4_shade_63 : decode cX4_shade 63 = .ok (.invokevirtual 189, 3) := by decide +kernel
theorem dX4_shade_66 : decode cX4_shade 66 = .ok (.aload_n 0, 1) := by decide +kernel
theorem dX4_shade_67 : decode cX4_shade 67 = .ok (.getfield 16, 3) := by decide +kernel
theorem dX4_shade_70 : decode cX4_shade 70 = .ok (.iload_n 1, 1) := by decide +kernel
theorem dX4_shade_71 : decode cX4_shade 71 = .ok (.invokevirtual 155, 3) := by decide +kernel
theorem dX4_shade_74 : decode cX4_shade 74 = .ok (.istore 7, 2) := by decide +kernel
theorem dX4_shade_76 : decode cX4_shade 76 = .ok (.iload 4, 2) := by decide +kernel
theorem dX4_shade_78 : decode cX4_shade 78 = .ok (.ifCond .lt 10, 3) := by decide +kernel
theorem dX4_shade_81 : decode cX4_shade 81 = .ok (.iload 7, 2) := by decide +kernel
theorem dX4_shade_83 : decode cX4_shade 83 = .ok (.iload 5, 2) := by decide +kernel
theorem dX4_shade_85 : decode cX4_shade 85 = .ok (.if_icmp .ge 11, 3) := by decide +kernel
theorem dX4_shade_88 : decode cX4_shade 88 = .ok (.iload 7, 2) := by decide +kernel
theorem dX4_shade_90 : decode cX4_shade 90 = .ok (.istore 5, 2) := by decide +kernel
theorem dX4_shade_92 : decode cX4_shade 92 = .ok (.iload 6, 2) := by decide +kernel
theorem dX4_shade_94 : decode cX4_shade 94 = .ok (.istore 4, 2) := by decide +kernel
theorem dX4_shade_96 : decode cX4_shade 96 = .ok (.iinc 6 1, 3) := by decide +kernel
theorem dX4_shade_99 : decode cX4_shade 99 = .ok (.goto (-48), 3) := by decide +kernel
theorem dX4_shade_102 : decode cX4_shade 102 = .ok (.iload 4, 2) := by decide +kernel
theorem dX4_shade_104 : decode cX4_shade 104 = .ok (.ireturn, 1) := by decide +kernel
theorem dX4_sheet_0 : decode cX4_sheet 0 = .ok (.iload_n 1, 1) := by decide +kernel
theorem dX4_sheet_1 : decode cX4_sheet 1 = .ok (.invokestatic 241, 3) := by decide +kernel
theorem dX4_sheet_4 : decode cX4_sheet 4 = .ok (.ifCond .eq 25, 3) := by decide +kernel
theorem dX4_sheet_7 : decode cX4_sheet 7 = .ok (.iload_n 2, 1) := by decide +kernel
theorem dX4_sheet_8 : decode cX4_sheet 8 = .ok (.ifCond .eq 27, 3) := by decide +kernel
theorem dX4_sheet_11 : decode cX4_sheet 11 = .ok (.iload_n 2, 1) := by decide +kernel
theorem dX4_sheet_12 : decode cX4_sheet 12 = .ok (.bipush 8, 2) := by decide +kernel
theorem dX4_sheet_14 : decode cX4_sheet 14 = .ok (.if_icmp .eq 21, 3) := by decide +kernel
theorem dX4_sheet_17 : decode cX4_sheet 17 = .ok (.iload_n 2, 1) := by decide +kernel
theorem dX4_sheet_18 : decode cX4_sheet 18 = .ok (.bipush 16, 2) := by decide +kernel
theorem dX4_sheet_20 : decode cX4_sheet 20 = .ok (.if_icmp .eq 15, 3) := by decide +kernel
theorem dX4_sheet_23 : decode cX4_sheet 23 = .ok (.iload_n 2, 1) := by decide +kernel
theorem dX4_sheet_24 : decode cX4_sheet 24 = .ok (.bipush 32, 2) := by decide +kernel
theorem dX4_sheet_26 : decode cX4_sheet 26 = .ok (.if_icmp .eq 9, 3) := by decide +kernel
theorem dX4_sheet_29 : decode cX4_sheet 29 = .ok (.aload_n 0, 1) := by decide +kernel
theorem dX4_sheet_30 : decode cX4_sheet 30 = .ok (.iconst 0, 1) := by decide +kernel
theorem dX4_sheet_31 : decode cX4_sheet 31 = .ok (.invokevirtual 64, 3) := by decide +kernel
theorem dX4_sheet_34 : decode cX4_sheet 34 = .ok (.ireturn, 1) := by decide +kernel
theorem dX4_sheet_35 : decode cX4_sheet 35 = .ok (.iload_n 3, 1) := by decide +kernel
theorem dX4_sheet_36 : decode cX4_sheet 36 = .ok (.ifCond .ge 10, 3) := by decide +kernel
theorem dX4_sheet_39 : decode cX4_sheet 39 = .ok (.aload_n 0, 1) := by decide +kernel
theorem dX4_sheet_40 : decode cX4_sheet 40 = .ok (.bipush 6, 2) := by decide +kernel
theorem dX4_sheet_42 : decode cX4_sheet 42 = .ok (.invokevirtual 64, 3) := by decide +kernel
theorem dX4_sheet_45 : decode cX4_sheet 45 = .ok (.ireturn, 1) := by decide +kernel
theorem dX4_sheet_46 : decode cX4_sheet 46 = .ok (.iload_n 3, 1) := by decide +kernel
theorem dX4_sheet_47 : decode cX4_sheet 47 = .ok (.bipush 40, 2) := by decide +kernel
theorem dX4_sheet_49 : decode cX4_sheet 49 = .ok (.if_icmp .le 9, 3) := by decide +kernel
theorem dX4_sheet_52 : decode cX4_sheet 52 = .ok (.aload_n 0, 1) := by decide +kernel
theorem dX4_sheet_53 : decode cX4_sheet 53 = .ok (.iconst 0, 1) := by decide +kernel
theorem dX4_sheet_54 : decode cX4_sheet 54 = .ok (.invokevirtual 64, 3) := by decide +kernel
theorem dX4_sheet_57 : decode cX4_sheet 57 = .ok (.ireturn, 1) := by decide +kernel
theorem dX4_sheet_58 : decode cX4_sheet 58 = .ok (.aload_n 0, 1) := by decide +kernel
theorem dX4_sheet_59 : decode cX4_sheet 59 = .ok (.getfield 45, 3) := by decide +kernel
theorem dX4_sheet_62 : decode cX4_sheet 62 = .ok (.iload_n 1, 1) := by decide +kernel
theorem dX4_sheet_63 : decode cX4_sheet 63 = .ok (.iload_n 2, 1) := by decide +kernel
theorem dX4_sheet_64 : decode cX4_sheet 64 = .ok (.iload_n 2, 1) := by decide +kernel
theorem dX4_sheet_65 : decode cX4_sheet 65 = .ok (.ifCond .ne 7, 3) := by decide +kernel
theorem dX4_sheet_68 : decode cX4_sheet 68 = .ok (.iconst 0, 1) := by decide +kernel
theorem dX4_sheet_69 : decode cX4_sheet 69 = .ok (.goto 4, 3) := by decide +kernel
theorem dX4_sheet_72 : decode cX4_sheet 72 = .ok (.iload_n 3, 1) := by decide +kernel
theorem dX4_sheet_73 : decode cX4_sheet 73 = .ok (.invokevirtual 244, 3) := by decide +kernel
theorem dX4_sheet_76 : decode cX4_sheet 76 = .ok (.aload_n 0, 1) := by decide +kernel
theorem dX4_sheet_77 : decode cX4_sheet 77 = .ok (.getfield 45, 3) := by decide +kernel
theorem dX4_sheet_80 : decode cX4_sheet 80 = .ok (.getfield 247, 3) := by decide +kernel
theorem dX4_sheet_83 : decode cX4_sheet 83 = .ok (.iload_n 1, 1) := by decide +kernel
theorem dX4_sheet_84 : decode cX4_sheet 84 = .ok (.iaload, 1) := by decide +kernel
theorem dX4_sheet_85 : decode cX4_sheet 85 = .ok (.ireturn, 1) := by decide +kernel
theorem dX4_sight_0 : decode cX4_sight 0 = .ok (.aload_n 0, 1) := by decide +kernel
theorem dX4_sight_1 : decode cX4_sight 1 = .ok (.iload_n 1, 1) := by decide +kernel
theorem dX4_sight_2 : decode cX4_sight 2 = .ok (.invokevirtual 111, 3) := by decide +kernel
theorem dX4_sight_5 : decode cX4_sight 5 = .ok (.ifCond .ne 9, 3) := by decide +kernel
theorem dX4_sight_8 : decode cX4_sight 8 = .ok (.aload_n 0, 1) := by decide +kernel
theorem dX4_sight_9 : decode cX4_sight 9 = .ok (.iconst 0, 1) := by decide +kernel
theorem dX4_sight_10 : decode cX4_sight 10 = .ok (.invokevirtual 64, 3) := by decide +kernel
theorem dX4_sight_13 : decode cX4_sight 13 = .ok (.ireturn, 1) := by decide +kernel
theorem dX4_sight_14 : decode cX4_sight 14 = .ok (.aload_n 0, 1) := by decide +kernel
theorem dX4_sight_15 : decode cX4_sight 15 = .ok (.getfield 10, 3) := by decide +kernel
theorem dX4_sight_18 : decode cX4_sight 18 = .ok (.iload_n 1, 1) := by decide +kernel
theorem dX4_sight_19 : decode cX4_sight 19 = .ok (.invokevirtual 138, 3) := by decide +kernel
theorem dX4_sight_22 : decode cX4_sight 22 = .ok (.ireturn, 1) := by decide +kernel
theorem dX4_sightsOf_0 : decode cX4_sightsOf 0 = .ok (.iconst 0, 1) := by decide +kernel
theorem dX4_sightsOf_1 : decode cX4_sightsOf 1 = .ok (.istore_n 2, 1) := by decide +kernel
theorem dX4_sightsOf_2 : decode cX4_sightsOf 2 = .ok (.iconst 0, 1) := by decide +kernel
theorem dX4_sightsOf_3 : decode cX4_sightsOf 3 = .ok (.istore_n 3, 1) := by decide +kernel
theorem dX4_sightsOf_4 : decode cX4_sightsOf 4 = .ok (.iload_n 3, 1) := by decide +kernel
theorem dX4_sightsOf_5 : decode cX4_sightsOf 5 = .ok (.aload_n 0, 1) := by decide +kernel
theorem dX4_sightsOf_6 : decode cX4_sightsOf 6 = .ok (.getfield 10, 3) := by decide +kernel
theorem dX4_sightsOf_9 : decode cX4_sightsOf 9 = .ok (.getfield 107, 3) := by decide +kernel
theorem dX4_sightsOf_12 : decode cX4_sightsOf 12 = .ok (.if_icmp .ge 26, 3) := by decide +kernel
theorem dX4_sightsOf_15 : decode cX4_sightsOf 15 = .ok (.iload_n 3, 1) := by decide +kernel
theorem dX4_sightsOf_16 : decode cX4_sightsOf 16 = .ok (.iload_n 1, 1) := by decide +kernel
theorem dX4_sightsOf_17 : decode cX4_sightsOf 17 = .ok (.invokestatic 145, 3) := by decide +kernel
theorem dX4_sightsOf_20 : decode cX4_sightsOf 20 = .ok (.ifCond .eq 12, 3) := by decide +kernel
theorem dX4_sightsOf_23 : decode cX4_sightsOf 23 = .ok (.iload_n 2, 1) := by decide +kernel
theorem dX4_sightsOf_24 : decode cX4_sightsOf 24 = .ok (.aload_n 0, 1) := by decide +kernel
theorem dX4_sightsOf_25 : decode cX4_sightsOf 25 = .ok (.getfield 53, 3) := by decide +kernel
theorem dX4_sightsOf_28 : decode cX4_sightsOf 28 = .ok (.iload_n 3, 1) := by decide +kernel
theorem dX4_sightsOf_29 : decode cX4_sightsOf 29 = .ok (.iaload, 1) := by decide +kernel
theorem dX4_sightsOf_30 : decode cX4_sightsOf 30 = .ok (.ior, 1) := by decide +kernel
theorem dX4_sightsOf_31 : decode cX4_sightsOf 31 = .ok (.istore_n 2, 1) := by decide +kernel
theorem dX4_sightsOf_32 : decode cX4_sightsOf 32 = .ok (.iinc 3 1, 3) := by decide +kernel
theorem dX4_sightsOf_35 : decode cX4_sightsOf 35 = .ok (.goto (-31), 3) := by decide +kernel
theorem dX4_sightsOf_38 : decode cX4_sightsOf 38 = .ok (.iload_n 2, 1) := by decide +kernel
theorem dX4_sightsOf_39 : decode cX4_sightsOf 39 = .ok (.ireturn, 1) := by decide +kernel
theorem dX4_status_0 : decode cX4_status 0 = .ok (.iload_n 1, 1) := by decide +kernel
theorem dX4_status_1 : decode cX4_status 1 = .ok (.iconst (-1), 1) := by decide +kernel
theorem dX4_status_2 : decode cX4_status 2 = .ok (.if_icmp .ne 30, 3) := by decide +kernel
theorem dX4_status_5 : decode cX4_status 5 = .ok (.iconst 0, 1) := by decide +kernel
theorem dX4_status_6 : decode cX4_status 6 = .ok (.istore_n 2, 1) := by decide +kernel
theorem dX4_status_7 : decode cX4_status 7 = .ok (.iconst 0, 1) := by decide +kernel
theorem dX4_status_8 : decode cX4_status 8 = .ok (.istore_n 3, 1) := by decide +kernel
theorem dX4_status_9 : decode cX4_status 9 = .ok (.iload_n 3, 1) := by decide +kernel
theorem dX4_status_10 : decode cX4_status 10 = .ok (.bipush 6, 2) := by decide +kernel
theorem dX4_status_12 : decode cX4_status 12 = .ok (.if_icmp .gt 18, 3) := by decide +kernel
theorem dX4_status_15 : decode cX4_status 15 = .ok (.iload_n 2, 1) := by decide +kernel
theorem dX4_status_16 : decode cX4_status 16 = .ok (.aload_n 0, 1) := by decide +kernel
theorem dX4_status_17 : decode cX4_status 17 = .ok (.getfield 49, 3) := by decide +kernel
theorem dX4_status_20 : decode cX4_status 20 = .ok (.iload_n 3, 1) := by decide +kernel
theorem dX4_status_21 : decode cX4_status 21 = .ok (.iaload, 1) := by decide +kernel
theorem dX4_status_22 : decode cX4_status 22 = .ok (.iadd, 1) := by decide +kernel
theorem dX4_status_23 : decode cX4_status 23 = .ok (.istore_n 2, 1) := by decide +kernel
theorem dX4_status_24 : decode cX4_status 24 = .ok (.iinc 3 1, 3) := by decide +kernel
theorem dX4_status_27 : decode cX4_status 27 = .ok (.goto (-18), 3) := by decide +kernel
theorem dX4_status_30 : decode cX4_status 30 = .ok (.iload_n 2, 1) := by decide +kernel
theorem dX4_status_31 : decode cX4_status 31 = .ok (.ireturn, 1) := by decide +kernel
theorem dX4_status_32 : decode cX4_status 32 = .ok (.iload_n 1, 1) := by decide +kernel
theorem dX4_status_33 : decode cX4_status 33 = .ok (.iconst 0, 1) := by decide +kernel
theorem dX4_status_34 : decode cX4_status 34 = .ok (.bipush 6, 2) := by decide +kernel
theorem dX4_status_36 : decode cX4_status 36 = .ok (.invokestatic 60, 3) := by decide +kernel
theorem dX4_status_39 : decode cX4_status 39 = .ok (.ifCond .ne 9, 3) := by decide +kernel
theorem dX4_status_42 : decode cX4_status 42 = .ok (.aload_n 0, 1) := by decide +kernel
theorem dX4_status_43 : decode cX4_status 43 = .ok (.iconst 0, 1) := by decide +kernel
theorem dX4_status_44 : decode cX4_status 44 = .ok (.invokevirtual 64, 3) := by decide +kernel
theorem dX4_status_47 : decode cX4_status 47 = .ok (.ireturn, 1) := by decide +kernel
theorem dX4_status_48 : decode cX4_status 48 = .ok (.aload_n 0, 1) := by decide +kernel
theorem dX4_status_49 : decode cX4_status 49 = .ok (.getfield 49, 3) := by decide +kernel
theorem dX4_status_52 : decode cX4_status 52 = .ok (.iload_n 1, 1) := by decide +kernel
theorem dX4_status_53 : decode cX4_status 53 = .ok (.iaload, 1) := by decide +kernel
theorem dX4_status_54 : decode cX4_status 54 = .ok (.ireturn, 1) := by decide +kernel
theorem dX4_tax_0 : decode cX4_tax 0 = .ok (.aload_n 0, 1) := by decide +kernel
theorem dX4_tax_1 : decode cX4_tax 1 = .ok (.iload_n 1, 1) := by decide +kernel
theorem dX4_tax_2 : decode cX4_tax 2 = .ok (.invokevirtual 111, 3) := by decide +kernel
theorem dX4_tax_5 : decode cX4_tax 5 = .ok (.ifCond .ne 9, 3) := by decide +kernel
theorem dX4_tax_8 : decode cX4_tax 8 = .ok (.aload_n 0, 1) := by decide +kernel
theorem dX4_tax_9 : decode cX4_tax 9 = .ok (.iconst 0, 1) := by decide +kernel
theorem dX4_tax_10 : decode cX4_tax 10 = .ok (.invokevirtual 64, 3) := by decide +kernel
theorem dX4_tax_13 : decode cX4_tax 13 = .ok (.ireturn, 1) := by decide +kernel
theorem dX4_tax_14 : decode cX4_tax 14 = .ok (.aload_n 0, 1) := by decide +kernel
theorem dX4_tax_15 : decode cX4_tax 15 = .ok (.getfield 10, 3) := by decide +kernel
theorem dX4_tax_18 : decode cX4_tax 18 = .ok (.iload_n 1, 1) := by decide +kernel
theorem dX4_tax_19 : decode cX4_tax 19 = .ok (.invokevirtual 155, 3) := by decide +kernel
theorem dX4_tax_22 : decode cX4_tax 22 = .ok (.ireturn, 1) := by decide +kernel
theorem dX4_tear_0 : decode cX4_tear 0 = .ok (.aload_n 0, 1) := by decide +kernel
theorem dX4_tear_1 : decode cX4_tear 1 = .ok (.getfield 22, 3) := by decide +kernel
theorem dX4_tear_4 : decode cX4_tear 4 = .ok (.ifCond .eq 7, 3) := by decide +kernel
theorem dX4_tear_7 : decode cX4_tear 7 = .ok (.iconst 1, 1) := by decide +kernel
theorem dX4_tear_8 : decode cX4_tear 8 = .ok (.goto 4, 3) := by decide +kernel
theorem dX4_tear_11 : decode cX4_tear 11 = .ok (.iconst 0, 1) := by decide +kernel
theorem dX4_tear_12 : decode cX4_tear 12 = .ok (.istore_n 1, 1) := by decide +kernel
theorem dX4_tear_13 : decode cX4_tear 13 = .ok (.aload_n 0, 1) := by decide +kernel
theorem dX4_tear_14 : decode cX4_tear 14 = .ok (.iconst 0, 1) := by decide +kernel
theorem dX4_tear_15 : decode cX4_tear 15 = .ok (.putfield 22, 3) := by decide +kernel
theorem dX4_tear_18 : decode cX4_tear 18 = .ok (.iload_n 1, 1) := by decide +kernel
theorem dX4_tear_19 : decode cX4_tear 19 = .ok (.ireturn, 1) := by decide +kernel
theorem dX4_tell_0 : decode cX4_tell 0 = .ok (.aload_n 0, 1) := by decide +kernel
theorem dX4_tell_1 : decode cX4_tell 1 = .ok (.getfield 49, 3) := by decide +kernel
theorem dX4_tell_4 : decode cX4_tell 4 = .ok (.iload_n 1, 1) := by decide +kernel
theorem dX4_tell_5 : decode cX4_tell 5 = .ok (.dup2, 1) := by decide +kernel
theorem dX4_tell_6 : decode cX4_tell 6 = .ok (.iaload, 1) := by decide +kernel
theorem dX4_tell_7 : decode cX4_tell 7 = .ok (.iconst 1, 1) := by decide +kernel
theorem dX4_tell_8 : decode cX4_tell 8 = .ok (.iadd, 1) := by decide +kernel
theorem dX4_tell_9 : decode cX4_tell 9 = .ok (.iastore, 1) := by decide +kernel
theorem dX4_tell_10 : decode cX4_tell 10 = .ok (.ldc_w 272, 3) := by decide +kernel
theorem dX4_tell_13 : decode cX4_tell 13 = .ok (.iload_n 1, 1) := by decide +kernel
theorem dX4_tell_14 : decode cX4_tell 14 = .ok (.isub, 1) := by decide +kernel
theorem dX4_tell_15 : decode cX4_tell 15 = .ok (.ireturn, 1) := by decide +kernel
theorem dX4_text_0 : decode cX4_text 0 = .ok (.aload_n 0, 1) := by decide +kernel
theorem dX4_text_1 : decode cX4_text 1 = .ok (.getfield 16, 3) := by decide +kernel
theorem dX4_text_4 : decode cX4_text 4 = .ok (.aload_n 0, 1) := by decide +kernel
theorem dX4_text_5 : decode cX4_text 5 = .ok (.getfield 10, 3) := by decide +kernel
theorem dX4_text_8 : decode cX4_text 8 = .ok (.invokevirtual 165, 3) := by decide +kernel
theorem dX4_text_11 : decode cX4_text 11 = .ok (.aload_n 0, 1) := by decide +kernel
theorem dX4_text_12 : decode cX4_text 12 = .ok (.getfield 38, 3) := by decide +kernel
theorem dX4_text_15 : decode cX4_text 15 = .ok (.aload_n 0, 1) := by decide +kernel
theorem dX4_text_16 : decode cX4_text 16 = .ok (.getfield 16, 3) := by decide +kernel
theorem dX4_text_19 : decode cX4_text 19 = .ok (.invokevirtual 228, 3) := by decide +kernel
theorem dX4_text_22 : decode cX4_text 22 = .ok (.istore_n 1, 1) := by decide +kernel
theorem dX4_text_23 : decode cX4_text 23 = .ok (.iload_n 1, 1) := by decide +kernel
theorem dX4_text_24 : decode cX4_text 24 = .ok (.ifCond .lt 14, 3) := by decide +kernel
theorem dX4_text_27 : decode cX4_text 27 = .ok (.aload_n 0, 1) := by decide +kernel
theorem dX4_text_28 : decode cX4_text 28 = .ok (.getfield 10, 3) := by decide +kernel
theorem dX4_text_31 : decode cX4_text 31 = .ok (.aload_n 0, 1) := by decide +kernel
theorem dX4_text_32 : decode cX4_text 32 = .ok (.getfield 16, 3) := by decide +kernel
theorem dX4_text_35 : decode cX4_text 35 = .ok (.invokevirtual 165, 3) := by decide +kernel
theorem dX4_text_38 : decode cX4_text 38 = .ok (.aload_n 0, 1) := by decide +kernel
theorem dX4_text_39 : decode cX4_text 39 = .ok (.getfield 29, 3) := by decide +kernel
theorem dX4_text_42 : decode cX4_text 42 = .ok (.iconst 0, 1) := by decide +kernel
theorem dX4_text_43 : decode cX4_text 43 = .ok (.putfield 225, 3) := by decide +kernel
theorem dX4_text_46 : decode cX4_text 46 = .ok (.iload_n 1, 1) := by decide +kernel
theorem dX4_text_47 : decode cX4_text 47 = .ok (.ireturn, 1) := by decide +kernel
theorem dX4_thriftyFloor_0 : decode cX4_thriftyFloor 0 = .ok (.aload_n 0, 1) := by decide +kernel
theorem dX4_thriftyFloor_1 : decode cX4_thriftyFloor 1 = .ok (.getfield 16, 3) := by decide +kernel
theorem dX4_thriftyFloor_4 : decode cX4_thriftyFloor 4 = .ok (.aload_n 0, 1) := by decide +kernel
theorem dX4_thriftyFloor_5 : decode cX4_thriftyFloor 5 = .ok (.getfield 10, 3) := by decide +kernel
theorem dX4_thriftyFloor_8 : decode cX4_thriftyFloor 8 = .ok (.invokevirtual 165, 3) := by decide +kernel
theorem dX4_thriftyFloor_11 : decode cX4_thriftyFloor 11 = .ok (.iconst (-1), 1) := by decide +kernel
theorem dX4_thriftyFloor_12 : decode cX4_thriftyFloor 12 = .ok (.istore_n 2, 1) := by decide +kernel
theorem dX4_thriftyFloor_13 : decode cX4_thriftyFloor 13 = .ok (.iconst 0, 1) := by decide +kernel
theorem dX4_thriftyFloor_14 : decode cX4_thriftyFloor 14 = .ok (.istore_n 3, 1) := by decide +kernel
theorem dX4_thriftyFloor_15 : decode cX4_thriftyFloor 15 = .ok (.iconst 1, 1) := by decide +kernel
theorem dX4_thriftyFloor_16 : decode cX4_thriftyFloor 16 = .ok (.istore 4, 2) := by decide +kernel
theorem dX4_thriftyFloor_18 : decode cX4_thriftyFloor 18 = .ok (.iload 4, 2) := by decide +kernel
theorem dX4_thriftyFloor_20 : decode cX4_thriftyFloor 20 = .ok (.bipush 40, 2) := by decide +kernel
theorem dX4_thriftyFloor_22 : decode cX4_thriftyFloor 22 = .ok (.if_icmp .gt 46, 3) := by decide +kernel
theorem dX4_thriftyFloor_25 : decode cX4_thriftyFloor 25 = .ok (.aload_n 0, 1) := by decide +kernel
theorem dX4_thriftyFloor_26 : decode cX4_thriftyFloor 26 = .ok (.getfield 16, 3) := by decide +kernel
theorem dX4_thriftyFloor_29 : decode cX4_thriftyFloor 29 = .ok (.getfield 117, 3) := by decide +kernel
theorem dX4_thriftyFloor_32 : decode cX4_thriftyFloor 32 = .ok (.iload_n 1, 1) := by decide +kernel
theorem dX4_thriftyFloor_33 : decode cX4_thriftyFloor 33 = .ok (.iload 4, 2) := by decide +kernel
theorem dX4_thriftyFloor_35 : decode cX4_thriftyFloor 35 = .ok (.iastore, 1) := by decide +kernel
theorem dX4_thriftyFloor_36 : decode cX4_thriftyFloor 36 = .ok (.aload_n 0, 1) := by decide +kernel
theorem dX4_thriftyFloor_37 : decode cX4_thriftyFloor 37 = .ok (.getfield 16, 3) := by decide +kernel
theorem dX4_thriftyFloor_40 : decode cX4_thriftyFloor 40 = .ok (.iload_n 1, 1) := by decide +kernel
theorem dX4_thriftyFloor_41 : decode cX4_thriftyFloor 41 = .ok (.invokevirtual 155, 3) := by decide +kernel
theorem dX4_thriftyFloor_44 : decode cX4_thriftyFloor 44 = .ok (.istore 5, 2) := by decide +kernel
theorem dX4_thriftyFloor_46 : decode cX4_thriftyFloor 46 = .ok (.iload_n 2, 1) := by decide +kernel
theorem dX4_thriftyFloor_47 : decode cX4_thriftyFloor 47 = .ok (.ifCond .lt 9, 3) := by decide +kernel
theorem dX4_thriftyFloor_50 : decode cX4_thriftyFloor 50 = .ok (.iload 5, 2) := by decide +kernel
theorem dX4_thriftyFloor_52 : decode cX4_thriftyFloor 52 = .ok (.iload_n 3, 1) := by decide +kernel
theorem dX4_thriftyFloor_53 : decode cX4_thriftyFloor 53 = .ok (.if_icmp .ge 9, 3) := by decide +kernel
theorem dX4_thriftyFloor_56 : decode cX4_thriftyFloor 56 = .ok (.iload 5, 2) := by decide +kernel
theorem dX4_thriftyFloor_58 : decode cX4_thriftyFloor 58 = .ok (.istore_n 3, 1) := by decide +kernel
theorem dX4_thriftyFloor_59 : decode cX4_thriftyFloor 59 = .ok (.iload 4, 2) := by decide +kernel
theorem dX4_thriftyFloor_61 : decode cX4_thriftyFloor 61 = .ok (.istore_n 2, 1) := by decide +kernel
theorem dX4_thriftyFloor_62 : decode cX4_thriftyFloor 62 = .ok (.iinc 4 1, 3) := by decide +kernel
theorem dX4_thriftyFloor_65 : decode cX4_thriftyFloor 65 = .ok (.goto (-47), 3) := by decide +kernel
theorem dX4_thriftyFloor_68 : decode cX4_thriftyFloor 68 = .ok (.iload_n 2, 1) := by decide +kernel
theorem dX4_thriftyFloor_69 : decode cX4_thriftyFloor 69 = .ok (.ireturn, 1) := by decide +kernel
theorem dX4_tryThing_0 : decode cX4_tryThing 0 = .ok (.aload_n 0, 1) := by decide +kernel
theorem dX4_tryThing_1 : decode cX4_tryThing 1 = .ok (.getfield 16, 3) := by decide +kernel
theorem dX4_tryThing_4 : decode cX4_tryThing 4 = .ok (.aload_n 0, 1) := by decide +kernel
theorem dX4_tryThing_5 : decode cX4_tryThing 5 = .ok (.getfield 10, 3) := by decide +kernel
theorem dX4_tryThing_8 : decode cX4_tryThing 8 = .ok (.invokevirtual 165, 3) := by decide +kernel
theorem dX4_tryThing_11 : decode cX4_tryThing 11 = .ok (.aload_n 0, 1) := by decide +kernel
theorem dX4_tryThing_12 : decode cX4_tryThing 12 = .ok (.getfield 16, 3) := by decide +kernel
theorem dX4_tryThing_15 : decode cX4_tryThing 15 = .ok (.iload_n 1, 1) := by decide +kernel
theorem dX4_tryThing_16 : decode cX4_tryThing 16 = .ok (.iload_n 2, 1) := by decide +kernel
theorem dX4_tryThing_17 : decode cX4_tryThing 17 = .ok (.invokevirtual 87, 3) := by decide +kernel
theorem dX4_tryThing_20 : decode cX4_tryThing 20 = .ok (.aload_n 0, 1) := by decide +kernel
theorem dX4_tryThing_21 : decode cX4_tryThing 21 = .ok (.getfield 16, 3) := by decide +kernel
theorem dX4_tryThing_24 : decode cX4_tryThing 24 = .ok (.iload_n 3, 1) := by decide +kernel
theorem dX4_tryThing_25 : decode cX4_tryThing 25 = .ok (.invokevirtual 207, 3) := by decide +kernel
theorem dX4_tryThing_28 : decode cX4_tryThing 28 = .ok (.return_, 1) := by decide +kernel
theorem dX4_tryYears_0 : decode cX4_tryYears 0 = .ok (.aload_n 0, 1) := by decide +kernel
theorem dX4_tryYears_1 : decode cX4_tryYears 1 = .ok (.getfield 16, 3) := by decide +kernel
theorem dX4_tryYears_4 : decode cX4_tryYears 4 = .ok (.aload_n 0, 1) := by decide +kernel
theorem dX4_tryYears_5 : decode cX4_tryYears 5 = .ok (.getfield 10, 3) := by decide +kernel
theorem dX4_tryYears_8 : decode cX4_tryYears 8 = .ok (.invokevirtual 165, 3) := by decide +kernel
theorem dX4_tryYears_11 : decode cX4_tryYears 11 = .ok (.aload_n 0, 1) := by decide +kernel
theorem dX4_tryYears_12 : decode cX4_tryYears 12 = .ok (.getfield 16, 3) := by decide +kernel
theorem dX4_tryYears_15 : decode cX4_tryYears 15 = .ok (.iload_n 1, 1) := by decide +kernel
theorem dX4_tryYears_16 : decode cX4_tryYears 16 = .ok (.invokevirtual 207, 3) := by decide +kernel
theorem dX4_tryYears_19 : decode cX4_tryYears 19 = .ok (.return_, 1) := by decide +kernel
theorem dX4_two_0 : decode cX4_two 0 = .ok (.iload_n 1, 1) := by decide +kernel
theorem dX4_two_1 : decode cX4_two 1 = .ok (.invokestatic 81, 3) := by decide +kernel
theorem dX4_two_4 : decode cX4_two 4 = .ok (.ifCond .ne 9, 3) := by decide +kernel
theorem dX4_two_7 : decode cX4_two 7 = .ok (.aload_n 0, 1) := by decide +kernel
theorem dX4_two_8 : decode cX4_two 8 = .ok (.iconst 0, 1) := by decide +kernel
theorem dX4_two_9 : decode cX4_two 9 = .ok (.invokevirtual 64, 3) := by decide +kernel
theorem dX4_two_12 : decode cX4_two 12 = .ok (.ireturn, 1) := by decide +kernel
theorem dX4_two_13 : decode cX4_two 13 = .ok (.iconst (-1), 1) := by decide +kernel
theorem dX4_two_14 : decode cX4_two 14 = .ok (.istore_n 2, 1) := by decide +kernel
theorem dX4_two_15 : decode cX4_two 15 = .ok (.iconst 0, 1) := by decide +kernel
theorem dX4_two_16 : decode cX4_two 16 = .ok (.istore_n 3, 1) := by decide +kernel
theorem dX4_two_17 : decode cX4_two 17 = .ok (.aload_n 0, 1) := by decide +kernel
theorem dX4_two_18 : decode cX4_two 18 = .ok (.getfield 16, 3) := by decide +kernel
theorem dX4_two_21 : decode cX4_two 21 = .ok (.aload_n 0, 1) := by decide +kernel
theorem dX4_two_22 : decode cX4_two 22 = .ok (.getfield 10, 3) := by decide +kernel
theorem dX4_two_25 : decode cX4_two 25 = .ok (.invokevirtual 165, 3) := by decide +kernel
theorem dX4_two_28 : decode cX4_two 28 = .ok (.iconst 0, 1) := by decide +kernel
theorem dX4_two_29 : decode cX4_two 29 = .ok (.istore 4, 2) := by decide +kernel
theorem dX4_two_31 : decode cX4_two 31 = .ok (.iload 4, 2) := by decide +kernel
theorem dX4_two_33 : decode cX4_two 33 = .ok (.bipush 24, 2) := by decide +kernel
theorem dX4_two_35 : decode cX4_two 35 = .ok (.if_icmp .ge 105, 3) := by decide +kernel
theorem dX4_two_38 : decode cX4_two 38 = .ok (.aload_n 0, 1) := by decide +kernel
theorem dX4_two_39 : decode cX4_two 39 = .ok (.getfield 16, 3) := by decide +kernel
theorem dX4_two_42 : decode cX4_two 42 = .ok (.iload 4, 2) := by decide +kernel
theorem dX4_two_44 : decode cX4_two 44 = .ok (.iload_n 1, 1) := by decide +kernel
theorem dX4_two_45 : decode cX4_two 45 = .ok (.invokevirtual 87, 3) := by decide +kernel
theorem dX4_two_48 : decode cX4_two 48 = .ok (.iload 4, 2) := by decide +kernel
theorem dX4_two_50 : decode cX4_two 50 = .ok (.iconst 1, 1) := by decide +kernel
theorem dX4_two_51 : decode cX4_two 51 = .ok (.iadd, 1) := by decide +kernel
theorem dX4_two_52 : decode cX4_two 52 = .ok (.istore 5, 2) := by decide +kernel
theorem dX4_two_54 : decode cX4_two 54 = .ok (.iload 5, 2) := by decide +kernel
theorem dX4_two_56 : decode cX4_two 56 = .ok (.bipush 24, 2) := by decide +kernel
theorem dX4_two_58 : decode cX4_two 58 = .ok (.if_icmp .ge 63, 3) := by decide +kernel
theorem dX4_two_61 : decode cX4_two 61 = .ok (.aload_n 0, 1) := by decide +kernel
theorem dX4_two_62 : decode cX4_two 62 = .ok (.getfield 16, 3) := by decide +kernel
theorem dX4_two_65 : decode cX4_two 65 = .ok (.iload 5, 2) := by decide +kernel
theorem dX4_two_67 : decode cX4_two 67 = .ok (.iload_n 1, 1) := by decide +kernel
theorem dX4_two_68 : decode cX4_two 68 = .ok (.invokevirtual 87, 3) := by decide +kernel
theorem dX4_two_71 : decode cX4_two 71 = .ok (.aload_n 0, 1) := by decide +kernel
theorem dX4_two_72 : decode cX4_two 72 = .ok (.getfield 16, 3) := by decide +kernel
theorem dX4_two_75 : decode cX4_two 75 = .ok (.invokevirtual 158, 3) := by decide +kernel
theorem dX4_two_78 : decode cX4_two 78 = .ok (.istore 6, 2) := by decide +kernel
theorem dX4_two_80 : decode cX4_two 80 = .ok (.iload_n 2, 1) := by decide +kernel
theorem dX4_two_81 : decode cX4_two 81 = .ok (.ifCond .lt 9, 3) := by decide +kernel
theorem dX4_two_84 : decode cX4_two 84 = .ok (.iload 6, 2) := by decide +kernel
theorem dX4_two_86 : decode cX4_two 86 = .ok (.iload_n 3, 1) := by decide +kernel
theorem dX4_two_87 : decode cX4_two 87 = .ok (.if_icmp .ge 15, 3) := by decide +kernel
theorem dX4_two_90 : decode cX4_two 90 = .ok (.iload 6, 2) := by decide +kernel
theorem dX4_two_92 : decode cX4_two 92 = .ok (.istore_n 3, 1) := by decide +kernel
theorem dX4_two_93 : decode cX4_two 93 = .ok (.bipush 100, 2) := by decide +kernel
theorem dX4_two_95 : decode cX4_two 95 = .ok (.iload 4, 2) := by decide +kernel
theorem dX4_two_97 : decode cX4_two 97 = .ok (.imul, 1) := by decide +kernel
theorem dX4_two_98 : decode cX4_two 98 = .ok (.iload 5, 2) := by decide +kernel
theorem dX4_two_100 : decode cX4_two 100 = .ok (.iadd, 1) := by decide +kernel
theorem dX4_two_101 : decode cX4_two 101 = .ok (.istore_n 2, 1) := by decide +kernel
theorem dX4_two_102 : decode cX4_two 102 = .ok (.aload_n 0, 1) := by decide +kernel
theorem dX4_two_103 : decode cX4_two 103 = .ok (.getfield 16, 3) := by decide +kernel
theorem dX4_two_106 : decode cX4_two 106 = .ok (.aload_n 0, 1) := by decide +kernel
theorem dX4_two_107 : decode cX4_two 107 = .ok (.getfield 10, 3) := by decide +kernel
theorem dX4_two_110 : decode cX4_two 110 = .ok (.iload 5, 2) := by decide +kernel
theorem dX4_two_112 : decode cX4_two 112 = .ok (.invokevirtual 196, 3) := by decide +kernel
theorem dX4_two_115 : decode cX4_two 115 = .ok (.iinc 5 1, 3) := by decide +kernel
theorem dX4_two_118 : decode cX4_two 118 = .ok (.goto (-64), 3) := by decide +kernel
theorem dX4_two_121 : decode cX4_two 121 = .ok (.aload_n 0, 1) := by decide +kernel
theorem dX4_two_122 : decode cX4_two 122 = .ok (.getfield 16, 3) := by decide +kernel
theorem dX4_two_125 : decode cX4_two 125 = .ok (.aload_n 0, 1) := by decide +kernel
theorem dX4_two_126 : decode cX4_two 126 = .ok (.getfield 10, 3) := by decide +kernel
theorem dX4_two_129 : decode cX4_two 129 = .ok (.iload 4, 2) := by decide +kernel
theorem dX4_two_131 : decode cX4_two 131 = .ok (.invokevirtual 196, 3) := by decide +kernel
theorem dX4_two_134 : decode cX4_two 134 = .ok (.iinc 4 1, 3) := by decide +kernel
theorem dX4_two_137 : decode cX4_two 137 = .ok (.goto (-106), 3) := by decide +kernel
theorem dX4_two_140 : decode cX4_two 140 = .ok (.iload_n 2, 1) := by decide +kernel
theorem dX4_two_141 : decode cX4_two 141 = .ok (.ireturn, 1) := by decide +kernel
theorem dX4_undo_0 : decode cX4_undo 0 = .ok (.aload_n 0, 1) := by decide +kernel
theorem dX4_undo_1 : decode cX4_undo 1 = .ok (.getfield 22, 3) := by decide +kernel
theorem dX4_undo_4 : decode cX4_undo 4 = .ok (.ifCond .ne 9, 3) := by decide +kernel
theorem dX4_undo_7 : decode cX4_undo 7 = .ok (.aload_n 0, 1) := by decide +kernel
theorem dX4_undo_8 : decode cX4_undo 8 = .ok (.iconst 3, 1) := by decide +kernel
theorem dX4_undo_9 : decode cX4_undo 9 = .ok (.invokevirtual 64, 3) := by decide +kernel
theorem dX4_undo_12 : decode cX4_undo 12 = .ok (.ireturn, 1) := by decide +kernel
theorem dX4_undo_13 : decode cX4_undo 13 = .ok (.aload_n 0, 1) := by decide +kernel
theorem dX4_undo_14 : decode cX4_undo 14 = .ok (.getfield 10, 3) := by decide +kernel
theorem dX4_undo_17 : decode cX4_undo 17 = .ok (.aload_n 0, 1) := by decide +kernel
theorem dX4_undo_18 : decode cX4_undo 18 = .ok (.getfield 19, 3) := by decide +kernel
theorem dX4_undo_21 : decode cX4_undo 21 = .ok (.invokevirtual 165, 3) := by decide +kernel
theorem dX4_undo_24 : decode cX4_undo 24 = .ok (.aload_n 0, 1) := by decide +kernel
theorem dX4_undo_25 : decode cX4_undo 25 = .ok (.getfield 10, 3) := by decide +kernel
theorem dX4_undo_28 : decode cX4_undo 28 = .ok (.getfield 210, 3) := by decide +kernel
theorem dX4_undo_31 : decode cX4_undo 31 = .ok (.ireturn, 1) := by decide +kernel
theorem dX4_walk_0 : decode cX4_walk 0 = .ok (.iconst 0, 1) := by decide +kernel
theorem dX4_walk_1 : decode cX4_walk 1 = .ok (.istore_n 1, 1) := by decide +kernel
theorem dX4_walk_2 : decode cX4_walk 2 = .ok (.iload_n 1, 1) := by decide +kernel
theorem dX4_walk_3 : decode cX4_walk 3 = .ok (.aload_n 0, 1) := by decide +kernel
theorem dX4_walk_4 : decode cX4_walk 4 = .ok (.getfield 10, 3) := by decide +kernel
theorem dX4_walk_7 : decode cX4_walk 7 = .ok (.getfield 107, 3) := by decide +kernel
theorem dX4_walk_10 : decode cX4_walk 10 = .ok (.if_icmp .ge 23, 3) := by decide +kernel
theorem dX4_walk_13 : decode cX4_walk 13 = .ok (.aload_n 0, 1) := by decide +kernel
theorem dX4_walk_14 : decode cX4_walk 14 = .ok (.getfield 53, 3) := by decide +kernel
theorem dX4_walk_17 : decode cX4_walk 17 = .ok (.iload_n 1, 1) := by decide +kernel
theorem dX4_walk_18 : decode cX4_walk 18 = .ok (.aload_n 0, 1) := by decide +kernel
theorem dX4_walk_19 : decode cX4_walk 19 = .ok (.getfield 10, 3) := by decide +kernel
theorem dX4_walk_22 : decode cX4_walk 22 = .ok (.iload_n 1, 1) := by decide +kernel
theorem dX4_walk_23 : decode cX4_walk 23 = .ok (.invokevirtual 138, 3) := by decide +kernel
theorem dX4_walk_26 : decode cX4_walk 26 = .ok (.iastore, 1) := by decide +kernel
theorem dX4_walk_27 : decode cX4_walk 27 = .ok (.iinc 1 1, 3) := by decide +kernel
theorem dX4_walk_30 : decode cX4_walk 30 = .ok (.goto (-28), 3) := by decide +kernel
theorem dX4_walk_33 : decode cX4_walk 33 = .ok (.aload_n 0, 1) := by decide +kernel
theorem dX4_walk_34 : decode cX4_walk 34 = .ok (.iconst 1, 1) := by decide +kernel
theorem dX4_walk_35 : decode cX4_walk 35 = .ok (.aload_n 0, 1) := by decide +kernel
theorem dX4_walk_36 : decode cX4_walk 36 = .ok (.getfield 10, 3) := by decide +kernel
theorem dX4_walk_39 : decode cX4_walk 39 = .ok (.getfield 107, 3) := by decide +kernel
theorem dX4_walk_42 : decode cX4_walk 42 = .ok (.ishl, 1) := by decide +kernel
theorem dX4_walk_43 : decode cX4_walk 43 = .ok (.iconst 1, 1) := by decide +kernel
theorem dX4_walk_44 : decode cX4_walk 44 = .ok (.isub, 1) := by decide +kernel
theorem dX4_walk_45 : decode cX4_walk 45 = .ok (.invokevirtual 200, 3) := by decide +kernel
theorem dX4_walk_48 : decode cX4_walk 48 = .ok (.istore_n 1, 1) := by decide +kernel
theorem dX4_walk_49 : decode cX4_walk 49 = .ok (.iconst 0, 1) := by decide +kernel
theorem dX4_walk_50 : decode cX4_walk 50 = .ok (.istore_n 2, 1) := by decide +kernel
theorem dX4_walk_51 : decode cX4_walk 51 = .ok (.aload_n 0, 1) := by decide +kernel
theorem dX4_walk_52 : decode cX4_walk 52 = .ok (.getfield 10, 3) := by decide +kernel
theorem dX4_walk_55 : decode cX4_walk 55 = .ok (.getfield 107, 3) := by decide +kernel
theorem dX4_walk_58 : decode cX4_walk 58 = .ok (.iconst 1, 1) := by decide +kernel
theorem dX4_walk_59 : decode cX4_walk 59 = .ok (.iadd, 1) := by decide +kernel
theorem dX4_walk_60 : decode cX4_walk 60 = .ok (.istore_n 3, 1) := by decide +kernel
theorem dX4_walk_61 : decode cX4_walk 61 = .ok (.iconst 0, 1) := by decide +kernel
theorem dX4_walk_62 : decode cX4_walk 62 = .ok (.istore 4, 2) := by decide +kernel
theorem dX4_walk_64 : decode cX4_walk 64 = .ok (.iload 4, 2) := by decide +kernel
theorem dX4_walk_66 : decode cX4_walk 66 = .ok (.iconst 1, 1) := by decide +kernel
theorem dX4_walk_67 : decode cX4_walk 67 = .ok (.aload_n 0, 1) := by decide +kernel
theorem dX4_walk_68 : decode cX4_walk 68 = .ok (.getfield 10, 3) := by decide +kernel
theorem dX4_walk_71 : decode cX4_walk 71 = .ok (.getfield 107, 3) := by decide +kernel
theorem dX4_walk_74 : decode cX4_walk 74 = .ok (.ishl, 1) := by decide +kernel
theorem dX4_walk_75 : decode cX4_walk 75 = .ok (.if_icmp .ge 38, 3) := by decide +kernel
theorem dX4_walk_78 : decode cX4_walk 78 = .ok (.iload 4, 2) := by decide +kernel
theorem dX4_walk_80 : decode cX4_walk 80 = .ok (.invokestatic 169, 3) := by decide +kernel
theorem dX4_walk_83 : decode cX4_walk 83 = .ok (.istore 5, 2) := by decide +kernel
theorem dX4_walk_85 : decode cX4_walk 85 = .ok (.iload 5, 2) := by decide +kernel
theorem dX4_walk_87 : decode cX4_walk 87 = .ok (.iload_n 3, 1) := by decide +kernel
theorem dX4_walk_88 : decode cX4_walk 88 = .ok (.if_icmp .ge 19, 3) := by decide +kernel
theorem dX4_walk_91 : decode cX4_walk 91 = .ok (.aload_n 0, 1) := by decide +kernel
theorem dX4_walk_92 : decode cX4_walk 92 = .ok (.iload 4, 2) := by decide +kernel
theorem dX4_walk_94 : decode cX4_walk 94 = .ok (.invokevirtual 200, 3) := by decide +kernel
theorem dX4_walk_97 : decode cX4_walk 97 = .ok (.iload_n 1, 1) := by decide +kernel
theorem dX4_walk_98 : decode cX4_walk 98 = .ok (.if_icmp .ne 9, 3) := by decide +kernel
theorem dX4_walk_101 : decode cX4_walk 101 = .ok (.iload 5, 2) := by decide +kernel
theorem dX4_walk_103 : decode cX4_walk 103 = .ok (.istore_n 3, 1) := by decide +kernel
theorem dX4_walk_104 : decode cX4_walk 104 = .ok (.iload 4, 2) := by decide +kernel
theorem dX4_walk_106 : decode cX4_walk 106 = .ok (.istore_n 2, 1) := by decide +kernel
theorem dX4_walk_107 : decode cX4_walk 107 = .ok (.iinc 4 1, 3) := by decide +kernel
theorem dX4_walk_110 : decode cX4_walk 110 = .ok (.goto (-46), 3) := by decide +kernel
theorem dX4_walk_113 : decode cX4_walk 113 = .ok (.iload_n 2, 1) := by decide +kernel
theorem dX4_walk_114 : decode cX4_walk 114 = .ok (.ireturn, 1) := by decide +kernel
theorem dX4_wall_0 : decode cX4_wall 0 = .ok (.aload_n 0, 1) := by decide +kernel
theorem dX4_wall_1 : decode cX4_wall 1 = .ok (.iload_n 1, 1) := by decide +kernel
theorem dX4_wall_2 : decode cX4_wall 2 = .ok (.invokevirtual 111, 3) := by decide +kernel
theorem dX4_wall_5 : decode cX4_wall 5 = .ok (.ifCond .eq 10, 3) := by decide +kernel
theorem dX4_wall_8 : decode cX4_wall 8 = .ok (.iload_n 2, 1) := by decide +kernel
theorem dX4_wall_9 : decode cX4_wall 9 = .ok (.invokestatic 56, 3) := by decide +kernel
theorem dX4_wall_12 : decode cX4_wall 12 = .ok (.ifCond .ne 9, 3) := by decide +kernel
theorem dX4_wall_15 : decode cX4_wall 15 = .ok (.aload_n 0, 1) := by decide +kernel
theorem dX4_wall_16 : decode cX4_wall 16 = .ok (.iconst 0, 1) := by decide +kernel
theorem dX4_wall_17 : decode cX4_wall 17 = .ok (.invokevirtual 64, 3) := by decide +kernel
theorem dX4_wall_20 : decode cX4_wall 20 = .ok (.ireturn, 1) := by decide +kernel
theorem dX4_wall_21 : decode cX4_wall 21 = .ok (.aload_n 0, 1) := by decide +kernel
theorem dX4_wall_22 : decode cX4_wall 22 = .ok (.getfield 16, 3) := by decide +kernel
theorem dX4_wall_25 : decode cX4_wall 25 = .ok (.aload_n 0, 1) := by decide +kernel
theorem dX4_wall_26 : decode cX4_wall 26 = .ok (.getfield 10, 3) := by decide +kernel
theorem dX4_wall_29 : decode cX4_wall 29 = .ok (.invokevirtual 165, 3) := by decide +kernel
theorem dX4_wall_32 : decode cX4_wall 32 = .ok (.iconst (-1), 1) := by decide +kernel
theorem dX4_wall_33 : decode cX4_wall 33 = .ok (.istore_n 3, 1) := by decide +kernel
theorem dX4_wall_34 : decode cX4_wall 34 = .ok (.iconst 0, 1) := by decide +kernel
theorem dX4_wall_35 : decode cX4_wall 35 = .ok (.istore 4, 2) := by decide +kernel
theorem dX4_wall_37 : decode cX4_wall 37 = .ok (.iconst 0, 1) := by decide +kernel
theorem dX4_wall_38 : decode cX4_wall 38 = .ok (.istore 5, 2) := by decide +kernel
theorem dX4_wall_40 : decode cX4_wall 40 = .ok (.iload 5, 2) := by decide +kernel
theorem dX4_wall_42 : decode cX4_wall 42 = .ok (.iconst 3, 1) := by decide +kernel
theorem dX4_wall_43 : decode cX4_wall 43 = .ok (.if_icmp .gt 60, 3) := by decide +kernel
theorem dX4_wall_46 : decode cX4_wall 46 = .ok (.aload_n 0, 1) := by decide +kernel
theorem dX4_wall_47 : decode cX4_wall 47 = .ok (.getfield 16, 3) := by decide +kernel
theorem dX4_wall_50 : decode cX4_wall 50 = .ok (.getfield 123, 3) := by decide +kernel
theorem dX4_wall_53 : decode cX4_wall 53 = .ok (.iload_n 1, 1) := by decide +kernel
theorem dX4_wall_54 : decode cX4_wall 54 = .ok (.iload 5, 2) := by decide +kernel
theorem dX4_wall_56 : decode cX4_wall 56 = .ok (.iastore, 1) := by decide +kernel
theorem dX4_wall_57 : decode cX4_wall 57 = .ok (.aload_n 0, 1) := by decide +kernel
theorem dX4_wall_58 : decode cX4_wall 58 = .ok (.getfield 16, 3) := by decide +kernel
theorem dX4_wall_61 : decode cX4_wall 61 = .ok (.iload_n 1, 1) := by decide +kernel
theorem dX4_wall_62 : decode cX4_wall 62 = .ok (.invokevirtual 155, 3) := by decide +kernel
theorem dX4_wall_65 : decode cX4_wall 65 = .ok (.istore 6, 2) := by decide +kernel
theorem dX4_wall_67 : decode cX4_wall 67 = .ok (.aload_n 0, 1) := by decide +kernel
theorem dX4_wall_68 : decode cX4_wall 68 = .ok (.getfield 16, 3) := by decide +kernel
theorem dX4_wall_71 : decode cX4_wall 71 = .ok (.iload_n 1, 1) := by decide +kernel
theorem dX4_wall_72 : decode cX4_wall 72 = .ok (.iload_n 2, 1) := by decide +kernel
theorem dX4_wall_73 : decode cX4_wall 73 = .ok (.invokevirtual 141, 3) := by decide +kernel
theorem dX4_wall_76 : decode cX4_wall 76 = .ok (.ifCond .eq 21, 3) := by decide +kernel
theorem dX4_wall_79 : decode cX4_wall 79 = .ok (.iload_n 3, 1) := by decide +kernel
theorem dX4_wall_80 : decode cX4_wall 80 = .ok (.ifCond .lt 10, 3) := by decide +kernel
theorem dX4_wall_83 : decode cX4_wall 83 = .ok (.iload 6, 2) := by decide +kernel
theorem dX4_wall_85 : decode cX4_wall 85 = .ok (.iload 4, 2) := by decide +kernel
theorem dX4_wall_87 : decode cX4_wall 87 = .ok (.if_icmp .ge 10, 3) := by decide +kernel
theorem dX4_wall_90 : decode cX4_wall 90 = .ok (.iload 6, 2) := by decide +kernel
theorem dX4_wall_92 : decode cX4_wall 92 = .ok (.istore 4, 2) := by decide +kernel
theorem dX4_wall_94 : decode cX4_wall 94 = .ok (.iload 5, 2) := by decide +kernel
theorem dX4_wall_96 : decode cX4_wall 96 = .ok (.istore_n 3, 1) := by decide +kernel
theorem dX4_wall_97 : decode cX4_wall 97 = .ok (.iinc 5 1, 3) := by decide +kernel
theorem dX4_wall_100 : decode cX4_wall 100 = .ok (.goto (-60), 3) := by decide +kernel
theorem dX4_wall_103 : decode cX4_wall 103 = .ok (.iload_n 3, 1) := by decide +kernel
theorem dX4_wall_104 : decode cX4_wall 104 = .ok (.ifCond .ge 11, 3) := by decide +kernel
theorem dX4_wall_107 : decode cX4_wall 107 = .ok (.aload_n 0, 1) := by decide +kernel
theorem dX4_wall_108 : decode cX4_wall 108 = .ok (.iconst 3, 1) := by decide +kernel
theorem dX4_wall_109 : decode cX4_wall 109 = .ok (.invokevirtual 64, 3) := by decide +kernel
theorem dX4_wall_112 : decode cX4_wall 112 = .ok (.goto 4, 3) := by decide +kernel
theorem dX4_wall_115 : decode cX4_wall 115 = .ok (.iload_n 3, 1) := by decide +kernel
theorem dX4_wall_116 : decode cX4_wall 116 = .ok (.ireturn, 1) := by decide +kernel
theorem dX4_when_0 : decode cX4_when 0 = .ok (.aload_n 0, 1) := by decide +kernel
theorem dX4_when_1 : decode cX4_when 1 = .ok (.iload_n 1, 1) := by decide +kernel
theorem dX4_when_2 : decode cX4_when 2 = .ok (.invokevirtual 111, 3) := by decide +kernel
theorem dX4_when_5 : decode cX4_when 5 = .ok (.ifCond .ne 9, 3) := by decide +kernel
theorem dX4_when_8 : decode cX4_when 8 = .ok (.aload_n 0, 1) := by decide +kernel
theorem dX4_when_9 : decode cX4_when 9 = .ok (.iconst 0, 1) := by decide +kernel
theorem dX4_when_10 : decode cX4_when 10 = .ok (.invokevirtual 64, 3) := by decide +kernel
theorem dX4_when_13 : decode cX4_when 13 = .ok (.ireturn, 1) := by decide +kernel
theorem dX4_when_14 : decode cX4_when 14 = .ok (.aload_n 0, 1) := by decide +kernel
theorem dX4_when_15 : decode cX4_when 15 = .ok (.bipush 60, 2) := by decide +kernel
theorem dX4_when_17 : decode cX4_when 17 = .ok (.invokevirtual 186, 3) := by decide +kernel
theorem dX4_when_20 : decode cX4_when 20 = .ok (.ifCond .eq 9, 3) := by decide +kernel
theorem dX4_when_23 : decode cX4_when 23 = .ok (.aload_n 0, 1) := by decide +kernel
theorem dX4_when_24 : decode cX4_when 24 = .ok (.iconst 4, 1) := by decide +kernel
theorem dX4_when_25 : decode cX4_when 25 = .ok (.invokevirtual 64, 3) := by decide +kernel
theorem dX4_when_28 : decode cX4_when 28 = .ok (.ireturn, 1) := by decide +kernel
theorem dX4_when_29 : decode cX4_when 29 = .ok (.aload_n 0, 1) := by decide +kernel
theorem dX4_when_30 : decode cX4_when 30 = .ok (.getfield 16, 3) := by decide +kernel
theorem dX4_when_33 : decode cX4_when 33 = .ok (.aload_n 0, 1) := by decide +kernel
theorem dX4_when_34 : decode cX4_when 34 = .ok (.getfield 10, 3) := by decide +kernel
theorem dX4_when_37 : decode cX4_when 37 = .ok (.invokevirtual 165, 3) := by decide +kernel
theorem dX4_when_40 : decode cX4_when 40 = .ok (.iconst (-1), 1) := by decide +kernel
theorem dX4_when_41 : decode cX4_when 41 = .ok (.istore_n 2, 1) := by decide +kernel
theorem dX4_when_42 : decode cX4_when 42 = .ok (.iconst 0, 1) := by decide +kernel
theorem dX4_when_43 : decode cX4_when 43 = .ok (.istore_n 3, 1) := by decide +kernel
theorem dX4_when_44 : decode cX4_when 44 = .ok (.iconst 0, 1) := by decide +kernel
theorem dX4_when_45 : decode cX4_when 45 = .ok (.istore 4, 2) := by decide +kernel
theorem dX4_when_47 : decode cX4_when 47 = .ok (.iload 4, 2) := by decide +kernel
theorem dX4_when_49 : decode cX4_when 49 = .ok (.bipush 60, 2) := by decide +kernel
theorem dX4_when_51 : decode cX4_when 51 = .ok (.if_icmp .gt 43, 3) := by decide +kernel
theorem dX4_when_54 : decode cX4_when 54 = .ok (.aload_n 0, 1) := by decide +kernel
theorem dX4_when_55 : decode cX4_when 55 = .ok (.getfield 16, 3) := by decide +kernel
theorem dX4_when_58 : decode cX4_when 58 = .ok (.iload_n 1, 1) := by decide +kernel
theorem dX4_when_59 : decode cX4_when 59 = .ok (.invokevirtual 155, 3) := by decide +kernel
theorem dX4_when_62 : decode cX4_when 62 = .ok (.istore 5, 2) := by decide +kernel
theorem dX4_when_64 : decode cX4_when 64 = .ok (.iload_n 2, 1) := by decide +kernel
theorem dX4_when_65 : decode cX4_when 65 = .ok (.ifCond .lt 9, 3) := by decide +kernel
theorem dX4_when_68 : decode cX4_when 68 = .ok (.iload 5, 2) := by decide +kernel
theorem dX4_when_70 : decode cX4_when 70 = .ok (.iload_n 3, 1) := by decide +kernel
theorem dX4_when_71 : decode cX4_when 71 = .ok (.if_icmp .ge 9, 3) := by decide +kernel
theorem dX4_when_74 : decode cX4_when 74 = .ok (.iload 5, 2) := by decide +kernel
theorem dX4_when_76 : decode cX4_when 76 = .ok (.istore_n 3, 1) := by decide +kernel
theorem dX4_when_77 : decode cX4_when 77 = .ok (.iload 4, 2) := by decide +kernel
theorem dX4_when_79 : decode cX4_when 79 = .ok (.istore_n 2, 1) := by decide +kernel
theorem dX4_when_80 : decode cX4_when 80 = .ok (.aload_n 0, 1) := by decide +kernel
theorem dX4_when_81 : decode cX4_when 81 = .ok (.getfield 16, 3) := by decide +kernel
theorem dX4_when_84 : decode cX4_when 84 = .ok (.iconst 1, 1) := by decide +kernel
theorem dX4_when_85 : decode cX4_when 85 = .ok (.invokevirtual 207, 3) := by decide +kernel
theorem dX4_when_88 : decode cX4_when 88 = .ok (.iinc 4 1, 3) := by decide +kernel
theorem dX4_when_91 : decode cX4_when 91 = .ok (.goto (-44), 3) := by decide +kernel
theorem dX4_when_94 : decode cX4_when 94 = .ok (.iload_n 2, 1) := by decide +kernel
theorem dX4_when_95 : decode cX4_when 95 = .ok (.ireturn, 1) := by decide +kernel
theorem dX4_which_0 : decode cX4_which 0 = .ok (.iload_n 1, 1) := by decide +kernel
theorem dX4_which_1 : decode cX4_which 1 = .ok (.invokestatic 56, 3) := by decide +kernel
theorem dX4_which_4 : decode cX4_which 4 = .ok (.ifCond .eq 10, 3) := by decide +kernel
theorem dX4_which_7 : decode cX4_which 7 = .ok (.iload_n 2, 1) := by decide +kernel
theorem dX4_which_8 : decode cX4_which 8 = .ok (.invokestatic 174, 3) := by decide +kernel
theorem dX4_which_11 : decode cX4_which 11 = .ok (.ifCond .ne 9, 3) := by decide +kernel
theorem dX4_which_14 : decode cX4_which 14 = .ok (.aload_n 0, 1) := by decide +kernel
theorem dX4_which_15 : decode cX4_which 15 = .ok (.iconst 0, 1) := by decide +kernel
theorem dX4_which_16 : decode cX4_which 16 = .ok (.invokevirtual 64, 3) := by decide +kernel
theorem dX4_which_19 : decode cX4_which 19 = .ok (.ireturn, 1) := by decide +kernel
theorem dX4_which_20 : decode cX4_which 20 = .ok (.aload_n 0, 1) := by decide +kernel
theorem dX4_which_21 : decode cX4_which 21 = .ok (.getfield 16, 3) := by decide +kernel
theorem dX4_which_24 : decode cX4_which 24 = .ok (.aload_n 0, 1) := by decide +kernel
theorem dX4_which_25 : decode cX4_which 25 = .ok (.getfield 10, 3) := by decide +kernel
theorem dX4_which_28 : decode cX4_which 28 = .ok (.invokevirtual 165, 3) := by decide +kernel
theorem dX4_which_31 : decode cX4_which 31 = .ok (.iconst 0, 1) := by decide +kernel
theorem dX4_which_32 : decode cX4_which 32 = .ok (.istore_n 3, 1) := by decide +kernel
theorem dX4_which_33 : decode cX4_which 33 = .ok (.iload_n 3, 1) := by decide +kernel
theorem dX4_which_34 : decode cX4_which 34 = .ok (.aload_n 0, 1) := by decide +kernel
theorem dX4_which_35 : decode cX4_which 35 = .ok (.getfield 10, 3) := by decide +kernel
theorem dX4_which_38 : decode cX4_which 38 = .ok (.getfield 107, 3) := by decide +kernel
theorem dX4_which_41 : decode cX4_which 41 = .ok (.if_icmp .ge 33, 3) := by decide +kernel
theorem dX4_which_44 : decode cX4_which 44 = .ok (.aload_n 0, 1) := by decide +kernel
theorem dX4_which_45 : decode cX4_which 45 = .ok (.getfield 16, 3) := by decide +kernel
theorem dX4_which_48 : decode cX4_which 48 = .ok (.getfield 114, 3) := by decide +kernel
theorem dX4_which_51 : decode cX4_which 51 = .ok (.iload_n 3, 1) := by decide +kernel
theorem dX4_which_52 : decode cX4_which 52 = .ok (.iload_n 1, 1) := by decide +kernel
theorem dX4_which_53 : decode cX4_which 53 = .ok (.iastore, 1) := by decide +kernel
theorem dX4_which_54 : decode cX4_which 54 = .ok (.aload_n 0, 1) := by decide +kernel
theorem dX4_which_55 : decode cX4_which 55 = .ok (.getfield 16, 3) := by decide +kernel
theorem dX4_which_58 : decode cX4_which 58 = .ok (.iload_n 3, 1) := by decide +kernel
theorem dX4_which_59 : decode cX4_which 59 = .ok (.invokevirtual 155, 3) := by decide +kernel
theorem dX4_which_62 : decode cX4_which 62 = .ok (.iload_n 2, 1) := by decide +kernel
theorem dX4_which_63 : decode cX4_which 63 = .ok (.if_icmp .ne 5, 3) := by decide +kernel
theorem dX4_which_66 : decode cX4_which 66 = .ok (.iload_n 3, 1) := by decide +kernel
theorem dX4_which_67 : decode cX4_which 67 = .ok (.ireturn, 1) := by decide +kernel
theorem dX4_which_68 : decode cX4_which 68 = .ok (.iinc 3 1, 3) := by decide +kernel
theorem dX4_which_71 : decode cX4_which 71 = .ok (.goto (-38), 3) := by decide +kernel
theorem dX4_which_74 : decode cX4_which 74 = .ok (.aload_n 0, 1) := by decide +kernel
theorem dX4_which_75 : decode cX4_which 75 = .ok (.iconst 3, 1) := by decide +kernel
theorem dX4_which_76 : decode cX4_which 76 = .ok (.invokevirtual 64, 3) := by decide +kernel
theorem dX4_which_79 : decode cX4_which 79 = .ok (.ireturn, 1) := by decide +kernel
theorem dX4_widest_0 : decode cX4_widest 0 = .ok (.aload_n 0, 1) := by decide +kernel
theorem dX4_widest_1 : decode cX4_widest 1 = .ok (.iload_n 1, 1) := by decide +kernel
theorem dX4_widest_2 : decode cX4_widest 2 = .ok (.invokevirtual 111, 3) := by decide +kernel
theorem dX4_widest_5 : decode cX4_widest 5 = .ok (.ifCond .ne 9, 3) := by decide +kernel
theorem dX4_widest_8 : decode cX4_widest 8 = .ok (.aload_n 0, 1) := by decide +kernel
theorem dX4_widest_9 : decode cX4_widest 9 = .ok (.iconst 0, 1) := by decide +kernel
theorem dX4_widest_10 : decode cX4_widest 10 = .ok (.invokevirtual 64, 3) := by decide +kernel
theorem dX4_widest_13 : decode cX4_widest 13 = .ok (.ireturn, 1) := by decide +kernel
theorem dX4_widest_14 : decode cX4_widest 14 = .ok (.aload_n 0, 1) := by decide +kernel
theorem dX4_widest_15 : decode cX4_widest 15 = .ok (.getfield 16, 3) := by decide +kernel
theorem dX4_widest_18 : decode cX4_widest 18 = .ok (.aload_n 0, 1) := by decide +kernel
theorem dX4_widest_19 : decode cX4_widest 19 = .ok (.getfield 10, 3) := by decide +kernel
theorem dX4_widest_22 : decode cX4_widest 22 = .ok (.invokevirtual 165, 3) := by decide +kernel
theorem dX4_widest_25 : decode cX4_widest 25 = .ok (.iconst 1, 1) := by decide +kernel
theorem dX4_widest_26 : decode cX4_widest 26 = .ok (.istore_n 2, 1) := by decide +kernel
theorem dX4_widest_27 : decode cX4_widest 27 = .ok (.iconst 0, 1) := by decide +kernel
theorem dX4_widest_28 : decode cX4_widest 28 = .ok (.istore_n 3, 1) := by decide +kernel
theorem dX4_widest_29 : decode cX4_widest 29 = .ok (.iconst 1, 1) := by decide +kernel
theorem dX4_widest_30 : decode cX4_widest 30 = .ok (.istore 4, 2) := by decide +kernel
theorem dX4_widest_32 : decode cX4_widest 32 = .ok (.iload 4, 2) := by decide +kernel
theorem dX4_widest_34 : decode cX4_widest 34 = .ok (.bipush 40, 2) := by decide +kernel
theorem dX4_widest_36 : decode cX4_widest 36 = .ok (.if_icmp .gt 45, 3) := by decide +kernel
theorem dX4_widest_39 : decode cX4_widest 39 = .ok (.aload_n 0, 1) := by decide +kernel
theorem dX4_widest_40 : decode cX4_widest 40 = .ok (.getfield 16, 3) := by decide +kernel
theorem dX4_widest_43 : decode cX4_widest 43 = .ok (.getfield 117, 3) := by decide +kernel
theorem dX4_widest_46 : decode cX4_widest 46 = .ok (.iload_n 1, 1) := by decide +kernel
theorem dX4_widest_47 : decode cX4_widest 47 = .ok (.iload 4, 2) := by decide +kernel
theorem dX4_widest_49 : decode cX4_widest 49 = .ok (.iastore, 1) := by decide +kernel
theorem dX4_widest_50 : decode cX4_widest 50 = .ok (.aload_n 0, 1) := by decide +kernel
theorem dX4_widest_51 : decode cX4_widest 51 = .ok (.getfield 16, 3) := by decide +kernel
theorem dX4_widest_54 : decode cX4_widest 54 = .ok (.iload_n 1, 1) := by decide +kernel
theorem dX4_widest_55 : decode cX4_widest 55 = .ok (.invokevirtual 138, 3) := by decide +kernel
theorem dX4_widest_58 : decode cX4_widest 58 = .ok (.invokestatic 169, 3) := by decide +kernel
theorem dX4_widest_61 : decode cX4_widest 61 = .ok (.istore 5, 2) := by decide +kernel
theorem dX4_widest_63 : decode cX4_widest 63 = .ok (.iload 5, 2) := by decide +kernel
theorem dX4_widest_65 : decode cX4_widest 65 = .ok (.iload_n 3, 1) := by decide +kernel
theorem dX4_widest_66 : decode cX4_widest 66 = .ok (.if_icmp .le 9, 3) := by decide +kernel
theorem dX4_widest_69 : decode cX4_widest 69 = .ok (.iload 5, 2) := by decide +kernel
theorem dX4_widest_71 : decode cX4_widest 71 = .ok (.istore_n 3, 1) := by decide +kernel
theorem dX4_widest_72 : decode cX4_widest 72 = .ok (.iload 4, 2) := by decide +kernel
theorem dX4_widest_74 : decode cX4_widest 74 = .ok (.istore_n 2, 1) := by decide +kernel
theorem dX4_widest_75 : decode cX4_widest 75 = .ok (.iinc 4 1, 3) := by decide +kernel
theorem dX4_widest_78 : decode cX4_widest 78 = .ok (.goto (-46), 3) := by decide +kernel
theorem dX4_widest_81 : decode cX4_widest 81 = .ok (.iload_n 2, 1) := by decide +kernel
theorem dX4_widest_82 : decode cX4_widest 82 = .ok (.ireturn, 1) := by decide +kernel
theorem dX4_windows_0 : decode cX4_windows 0 = .ok (.aload_n 0, 1) := by decide +kernel
theorem dX4_windows_1 : decode cX4_windows 1 = .ok (.iload_n 1, 1) := by decide +kernel
theorem dX4_windows_2 : decode cX4_windows 2 = .ok (.invokevirtual 111, 3) := by decide +kernel
theorem dX4_windows_5 : decode cX4_windows 5 = .ok (.ifCond .eq 12, 3) := by decide +kernel
theorem dX4_windows_8 : decode cX4_windows 8 = .ok (.iload_n 2, 1) := by decide +kernel
theorem dX4_windows_9 : decode cX4_windows 9 = .ok (.iconst 0, 1) := by decide +kernel
theorem dX4_windows_10 : decode cX4_windows 10 = .ok (.iconst 3, 1) := by decide +kernel
theorem dX4_windows_11 : decode cX4_windows 11 = .ok (.invokestatic 60, 3) := by decide +kernel
theorem dX4_windows_14 : decode cX4_windows 14 = .ok (.ifCond .ne 9, 3) := by decide +kernel
theorem dX4_windows_17 : decode cX4_windows 17 = .ok (.aload_n 0, 1) := by decide +kernel
theorem dX4_windows_18 : decode cX4_windows 18 = .ok (.iconst 0, 1) := by decide +kernel
theorem dX4_windows_19 : decode cX4_windows 19 = .ok (.invokevirtual 64, 3) := by decide +kernel
theorem dX4_windows_22 : decode cX4_windows 22 = .ok (.ireturn, 1) := by decide +kernel
theorem dX4_windows_23 : decode cX4_windows 23 = .ok (.aload_n 0, 1) := by decide +kernel
theorem dX4_windows_24 : decode cX4_windows 24 = .ok (.getfield 10, 3) := by decide +kernel
theorem dX4_windows_27 : decode cX4_windows 27 = .ok (.getfield 123, 3) := by decide +kernel
theorem dX4_windows_30 : decode cX4_windows 30 = .ok (.iload_n 1, 1) := by decide +kernel
theorem dX4_windows_31 : decode cX4_windows 31 = .ok (.iaload, 1) := by decide +kernel
theorem dX4_windows_32 : decode cX4_windows 32 = .ok (.istore_n 3, 1) := by decide +kernel
theorem dX4_windows_33 : decode cX4_windows 33 = .ok (.aload_n 0, 1) := by decide +kernel
theorem dX4_windows_34 : decode cX4_windows 34 = .ok (.getfield 10, 3) := by decide +kernel
theorem dX4_windows_37 : decode cX4_windows 37 = .ok (.getfield 123, 3) := by decide +kernel
theorem dX4_windows_40 : decode cX4_windows 40 = .ok (.iload_n 1, 1) := by decide +kernel
theorem dX4_windows_41 : decode cX4_windows 41 = .ok (.iload_n 2, 1) := by decide +kernel
theorem dX4_windows_42 : decode cX4_windows 42 = .ok (.iastore, 1) := by decide +kernel
theorem dX4_windows_43 : decode cX4_windows 43 = .ok (.iload_n 3, 1) := by decide +kernel
theorem dX4_windows_44 : decode cX4_windows 44 = .ok (.ireturn, 1) := by decide +kernel
theorem dX4_wipe_0 : decode cX4_wipe 0 = .ok (.aload_n 0, 1) := by decide +kernel
theorem dX4_wipe_1 : decode cX4_wipe 1 = .ok (.getfield 29, 3) := by decide +kernel
theorem dX4_wipe_4 : decode cX4_wipe 4 = .ok (.getfield 225, 3) := by decide +kernel
theorem dX4_wipe_7 : decode cX4_wipe 7 = .ok (.istore_n 1, 1) := by decide +kernel
theorem dX4_wipe_8 : decode cX4_wipe 8 = .ok (.aload_n 0, 1) := by decide +kernel
theorem dX4_wipe_9 : decode cX4_wipe 9 = .ok (.getfield 29, 3) := by decide +kernel
theorem dX4_wipe_12 : decode cX4_wipe 12 = .ok (.iconst 0, 1) := by decide +kernel
theorem dX4_wipe_13 : decode cX4_wipe 13 = .ok (.putfield 225, 3) := by decide +kernel
theorem dX4_wipe_16 : decode cX4_wipe 16 = .ok (.iload_n 1, 1) := by decide +kernel
theorem dX4_wipe_17 : decode cX4_wipe 17 = .ok (.ireturn, 1) := by decide +kernel
theorem dX4_write_0 : decode cX4_write 0 = .ok (.iload_n 1, 1) := by decide +kernel
theorem dX4_write_1 : decode cX4_write 1 = .ok (.invokestatic 241, 3) := by decide +kernel
theorem dX4_write_4 : decode cX4_write 4 = .ok (.ifCond .ne 9, 3) := by decide +kernel
theorem dX4_write_7 : decode cX4_write 7 = .ok (.aload_n 0, 1) := by decide +kernel
theorem dX4_write_8 : decode cX4_write 8 = .ok (.iconst 0, 1) := by decide +kernel
theorem dX4_write_9 : decode cX4_write 9 = .ok (.invokevirtual 64, 3) := by decide +kernel
theorem dX4_write_12 : decode cX4_write 12 = .ok (.ireturn, 1) := by decide +kernel
theorem dX4_write_13 : decode cX4_write 13 = .ok (.aload_n 0, 1) := by decide +kernel
theorem dX4_write_14 : decode cX4_write 14 = .ok (.getfield 45, 3) := by decide +kernel
theorem dX4_write_17 : decode cX4_write 17 = .ok (.iload_n 1, 1) := by decide +kernel
theorem dX4_write_18 : decode cX4_write 18 = .ok (.invokevirtual 250, 3) := by decide +kernel
theorem dX4_write_21 : decode cX4_write 21 = .ok (.ifCond .eq 9, 3) := by decide +kernel
theorem dX4_write_24 : decode cX4_write 24 = .ok (.aload_n 0, 1) := by decide +kernel
theorem dX4_write_25 : decode cX4_write 25 = .ok (.iconst 5, 1) := by decide +kernel
theorem dX4_write_26 : decode cX4_write 26 = .ok (.invokevirtual 64, 3) := by decide +kernel
theorem dX4_write_29 : decode cX4_write 29 = .ok (.ireturn, 1) := by decide +kernel
theorem dX4_write_30 : decode cX4_write 30 = .ok (.aload_n 0, 1) := by decide +kernel
theorem dX4_write_31 : decode cX4_write 31 = .ok (.getfield 45, 3) := by decide +kernel
theorem dX4_write_34 : decode cX4_write 34 = .ok (.iload_n 1, 1) := by decide +kernel
theorem dX4_write_35 : decode cX4_write 35 = .ok (.iload_n 2, 1) := by decide +kernel
theorem dX4_write_36 : decode cX4_write 36 = .ok (.iconst 1, 1) := by decide +kernel
theorem dX4_write_37 : decode cX4_write 37 = .ok (.invokevirtual 253, 3) := by decide +kernel
theorem dX4_write_40 : decode cX4_write 40 = .ok (.ifCond .ne 9, 3) := by decide +kernel
theorem dX4_write_43 : decode cX4_write 43 = .ok (.aload_n 0, 1) := by decide +kernel
theorem dX4_write_44 : decode cX4_write 44 = .ok (.iconst 0, 1) := by decide +kernel
theorem dX4_write_45 : decode cX4_write 45 = .ok (.invokevirtual 64, 3) := by decide +kernel
theorem dX4_write_48 : decode cX4_write 48 = .ok (.ireturn, 1) := by decide +kernel
theorem dX4_write_49 : decode cX4_write 49 = .ok (.aload_n 0, 1) := by decide +kernel
theorem dX4_write_50 : decode cX4_write 50 = .ok (.getfield 45, 3) := by decide +kernel
theorem dX4_write_53 : decode cX4_write 53 = .ok (.iload_n 1, 1) := by decide +kernel
theorem dX4_write_54 : decode cX4_write 54 = .ok (.iload_n 2, 1) := by decide +kernel
theorem dX4_write_55 : decode cX4_write 55 = .ok (.iload_n 3, 1) := by decide +kernel
theorem dX4_write_56 : decode cX4_write 56 = .ok (.invokevirtual 256, 3) := by decide +kernel
theorem dX4_write_59 : decode cX4_write 59 = .ok (.iconst 1, 1) := by decide +kernel
theorem dX4_write_60 : decode cX4_write 60 = .ok (.ireturn, 1) := by decide +kernel
theorem dX4_years_0 : decode cX4_years 0 = .ok (.iload_n 1, 1) := by decide +kernel
theorem dX4_years_1 : decode cX4_years 1 = .ok (.iconst 1, 1) := by decide +kernel
theorem dX4_years_2 : decode cX4_years 2 = .ok (.bipush 60, 2) := by decide +kernel
theorem dX4_years_4 : decode cX4_years 4 = .ok (.invokestatic 60, 3) := by decide +kernel
theorem dX4_years_7 : decode cX4_years 7 = .ok (.ifCond .ne 9, 3) := by decide +kernel
theorem dX4_years_10 : decode cX4_years 10 = .ok (.aload_n 0, 1) := by decide +kernel
theorem dX4_years_11 : decode cX4_years 11 = .ok (.iconst 0, 1) := by decide +kernel
theorem dX4_years_12 : decode cX4_years 12 = .ok (.invokevirtual 64, 3) := by decide +kernel
theorem dX4_years_15 : decode cX4_years 15 = .ok (.ireturn, 1) := by decide +kernel
theorem dX4_years_16 : decode cX4_years 16 = .ok (.aload_n 0, 1) := by decide +kernel
theorem dX4_years_17 : decode cX4_years 17 = .ok (.iload_n 1, 1) := by decide +kernel
theorem dX4_years_18 : decode cX4_years 18 = .ok (.invokevirtual 186, 3) := by decide +kernel
theorem dX4_years_21 : decode cX4_years 21 = .ok (.ifCond .eq 9, 3) := by decide +kernel
theorem dX4_years_24 : decode cX4_years 24 = .ok (.aload_n 0, 1) := by decide +kernel
theorem dX4_years_25 : decode cX4_years 25 = .ok (.iconst 4, 1) := by decide +kernel
theorem dX4_years_26 : decode cX4_years 26 = .ok (.invokevirtual 64, 3) := by decide +kernel
theorem dX4_years_29 : decode cX4_years 29 = .ok (.ireturn, 1) := by decide +kernel
theorem dX4_years_30 : decode cX4_years 30 = .ok (.aload_n 0, 1) := by decide +kernel
theorem dX4_years_31 : decode cX4_years 31 = .ok (.getfield 10, 3) := by decide +kernel
theorem dX4_years_34 : decode cX4_years 34 = .ok (.iload_n 1, 1) := by decide +kernel
theorem dX4_years_35 : decode cX4_years 35 = .ok (.invokevirtual 207, 3) := by decide +kernel
theorem dX4_years_38 : decode cX4_years 38 = .ok (.aload_n 0, 1) := by decide +kernel
theorem dX4_years_39 : decode cX4_years 39 = .ok (.getfield 10, 3) := by decide +kernel
theorem dX4_years_42 : decode cX4_years 42 = .ok (.getfield 210, 3) := by decide +kernel
theorem dX4_years_45 : decode cX4_years 45 = .ok (.ireturn, 1) := by decide +kernel
end
section
theorem dX5_ageOf_0 : decode cX5_ageOf 0 = .ok (.aload_n 0, 1) := by decide +kernel
theorem dX5_ageOf_1 : decode cX5_ageOf 1 = .ok (.getfield 7, 3) := by decide +kernel
theorem dX5_ageOf_4 : decode cX5_ageOf 4 = .ok (.iconst 5, 1) := by decide +kernel
theorem dX5_ageOf_5 : decode cX5_ageOf 5 = .ok (.iconst 3, 1) := by decide +kernel
theorem dX5_ageOf_6 : decode cX5_ageOf 6 = .ok (.iload_n 1, 1) := by decide +kernel
theorem dX5_ageOf_7 : decode cX5_ageOf 7 = .ok (.imul, 1) := by decide +kernel
theorem dX5_ageOf_8 : decode cX5_ageOf 8 = .ok (.iadd, 1) := by decide +kernel
theorem dX5_ageOf_9 : decode cX5_ageOf 9 = .ok (.iconst 2, 1) := by decide +kernel
theorem dX5_ageOf_10 : decode cX5_ageOf 10 = .ok (.iadd, 1) := by decide +kernel
theorem dX5_ageOf_11 : decode cX5_ageOf 11 = .ok (.iaload, 1) := by decide +kernel
theorem dX5_ageOf_12 : decode cX5_ageOf 12 = .ok (.ireturn, 1) := by decide +kernel
theorem dX5_ahead_0 : decode cX5_ahead 0 = .ok (.iload_n 1, 1) := by decide +kernel
theorem dX5_ahead_1 : decode cX5_ahead 1 = .ok (.invokestatic 165, 3) := by decide +kernel
theorem dX5_ahead_4 : decode cX5_ahead 4 = .ok (.ifCond .eq 19, 3) := by decide +kernel
theorem dX5_ahead_7 : decode cX5_ahead 7 = .ok (.iload_n 2, 1) := by decide +kernel
theorem dX5_ahead_8 : decode cX5_ahead 8 = .ok (.i2l, 1) := by decide +kernel
theorem dX5_ahead_9 : decode cX5_ahead 9 = .ok (.lconst 0, 1) := by decide +kernel
theorem dX5_ahead_10 : decode cX5_ahead 10 = .ok (.aload_n 0, 1) := by decide +kernel
theorem dX5_ahead_11 : decode cX5_ahead 11 = .ok (.getfield 7, 3) := by decide +kernel
theorem dX5_ahead_14 : decode cX5_ahead 14 = .ok (.iconst 1, 1) := by decide +kernel
theorem dX5_ahead_15 : decode cX5_ahead 15 = .ok (.iaload, 1) := by decide +kernel
theorem dX5_ahead_16 : decode cX5_ahead 16 = .ok (.i2l, 1) := by decide +kernel
theorem dX5_ahead_17 : decode cX5_ahead 17 = .ok (.invokestatic 46, 3) := by decide +kernel
theorem dX5_ahead_20 : decode cX5_ahead 20 = .ok (.ifCond .ne 10, 3) := by decide +kernel
theorem dX5_ahead_23 : decode cX5_ahead 23 = .ok (.aload_n 0, 1) := by decide +kernel
theorem dX5_ahead_24 : decode cX5_ahead 24 = .ok (.ldc 43, 2) := by decide +kernel
theorem dX5_ahead_26 : decode cX5_ahead 26 = .ok (.invokevirtual 75, 3) := by decide +kernel
theorem dX5_ahead_29 : decode cX5_ahead 29 = .ok (.ireturn, 1) := by decide +kernel
theorem dX5_ahead_30 : decode cX5_ahead 30 = .ok (.aload_n 0, 1) := by decide +kernel
theorem dX5_ahead_31 : decode cX5_ahead 31 = .ok (.iload_n 1, 1) := by decide +kernel
theorem dX5_ahead_32 : decode cX5_ahead 32 = .ok (.invokevirtual 168, 3) := by decide +kernel
theorem dX5_ahead_35 : decode cX5_ahead 35 = .ok (.ifCond .eq 10, 3) := by decide +kernel
theorem dX5_ahead_38 : decode cX5_ahead 38 = .ok (.aload_n 0, 1) := by decide +kernel
theorem dX5_ahead_39 : decode cX5_ahead 39 = .ok (.ldc 144, 2) := by decide +kernel
theorem dX5_ahead_41 : decode cX5_ahead 41 = .ok (.invokevirtual 75, 3) := by decide +kernel
theorem dX5_ahead_44 : decode cX5_ahead 44 = .ok (.ireturn, 1) := by decide +kernel
theorem dX5_ahead_45 : decode cX5_ahead 45 = .ok (.aload_n 0, 1) := by decide +kernel
theorem dX5_ahead_46 : decode cX5_ahead 46 = .ok (.invokevirtual 171, 3) := by decide +kernel
theorem dX5_ahead_49 : decode cX5_ahead 49 = .ok (.aload_n 0, 1) := by decide +kernel
theorem dX5_ahead_50 : decode cX5_ahead 50 = .ok (.iload_n 1, 1) := by decide +kernel
theorem dX5_ahead_51 : decode cX5_ahead 51 = .ok (.invokevirtual 174, 3) := by decide +kernel
theorem dX5_ahead_54 : decode cX5_ahead 54 = .ok (.iload_n 2, 1) := by decide +kernel
theorem dX5_ahead_55 : decode cX5_ahead 55 = .ok (.ifCond .ne 10, 3) := by decide +kernel
theorem dX5_ahead_58 : decode cX5_ahead 58 = .ok (.aload_n 0, 1) := by decide +kernel
theorem dX5_ahead_59 : decode cX5_ahead 59 = .ok (.invokevirtual 149, 3) := by decide +kernel
theorem dX5_ahead_62 : decode cX5_ahead 62 = .ok (.goto 10, 3) := by decide +kernel
theorem dX5_ahead_65 : decode cX5_ahead 65 = .ok (.aload_n 0, 1) := by decide +kernel
theorem dX5_ahead_66 : decode cX5_ahead 66 = .ok (.iload_n 2, 1) := by decide +kernel
theorem dX5_ahead_67 : decode cX5_ahead 67 = .ok (.iconst 1, 1) := by decide +kernel
theorem dX5_ahead_68 : decode cX5_ahead 68 = .ok (.isub, 1) := by decide +kernel
theorem dX5_ahead_69 : decode cX5_ahead 69 = .ok (.invokevirtual 146, 3) := by decide +kernel
theorem dX5_ahead_72 : decode cX5_ahead 72 = .ok (.istore_n 3, 1) := by decide +kernel
theorem dX5_ahead_73 : decode cX5_ahead 73 = .ok (.aload_n 0, 1) := by decide +kernel
theorem dX5_ahead_74 : decode cX5_ahead 74 = .ok (.invokevirtual 178, 3) := by decide +kernel
theorem dX5_ahead_77 : decode cX5_ahead 77 = .ok (.iload_n 3, 1) := by decide +kernel
theorem dX5_ahead_78 : decode cX5_ahead 78 = .ok (.ireturn, 1) := by decide +kernel
theorem dX5_all_0 : decode cX5_all 0 = .ok (.aload_n 0, 1) := by decide +kernel
theorem dX5_all_1 : decode cX5_all 1 = .ok (.invokevirtual 149, 3) := by decide +kernel
theorem dX5_all_4 : decode cX5_all 4 = .ok (.ireturn, 1) := by decide +kernel
theorem dX5_allTax_0 : decode cX5_allTax 0 = .ok (.iconst 0, 1) := by decide +kernel
theorem dX5_allTax_1 : decode cX5_allTax 1 = .ok (.istore_n 1, 1) := by decide +kernel
theorem dX5_allTax_2 : decode cX5_allTax 2 = .ok (.iconst 0, 1) := by decide +kernel
theorem dX5_allTax_3 : decode cX5_allTax 3 = .ok (.istore_n 2, 1) := by decide +kernel
theorem dX5_allTax_4 : decode cX5_allTax 4 = .ok (.iload_n 2, 1) := by decide +kernel
theorem dX5_allTax_5 : decode cX5_allTax 5 = .ok (.aload_n 0, 1) := by decide +kernel
theorem dX5_allTax_6 : decode cX5_allTax 6 = .ok (.getfield 7, 3) := by decide +kernel
theorem dX5_allTax_9 : decode cX5_allTax 9 = .ok (.iconst 1, 1) := by decide +kernel
theorem dX5_allTax_10 : decode cX5_allTax 10 = .ok (.iaload, 1) := by decide +kernel
theorem dX5_allTax_11 : decode cX5_allTax 11 = .ok (.if_icmp .ge 17, 3) := by decide +kernel
theorem dX5_allTax_14 : decode cX5_allTax 14 = .ok (.iload_n 1, 1) := by decide +kernel
theorem dX5_allTax_15 : decode cX5_allTax 15 = .ok (.aload_n 0, 1) := by decide +kernel
theorem dX5_allTax_16 : decode cX5_allTax 16 = .ok (.iload_n 2, 1) := by decide +kernel
theorem dX5_allTax_17 : decode cX5_allTax 17 = .ok (.invokevirtual 146, 3) := by decide +kernel
theorem dX5_allTax_20 : decode cX5_allTax 20 = .ok (.iadd, 1) := by decide +kernel
theorem dX5_allTax_21 : decode cX5_allTax 21 = .ok (.istore_n 1, 1) := by decide +kernel
theorem dX5_allTax_22 : decode cX5_allTax 22 = .ok (.iinc 2 1, 3) := by decide +kernel
theorem dX5_allTax_25 : decode cX5_allTax 25 = .ok (.goto (-21), 3) := by decide +kernel
theorem dX5_allTax_28 : decode cX5_allTax 28 = .ok (.iload_n 1, 1) := by decide +kernel
theorem dX5_allTax_29 : decode cX5_allTax 29 = .ok (.ireturn, 1) := by decide +kernel
theorem dX5_as_0 : decode cX5_as 0 = .ok (.iload_n 1, 1) := by decide +kernel
theorem dX5_as_1 : decode cX5_as 1 = .ok (.i2l, 1) := by decide +kernel
theorem dX5_as_2 : decode cX5_as 2 = .ok (.lconst 0, 1) := by decide +kernel
theorem dX5_as_3 : decode cX5_as 3 = .ok (.ldc2_w 304, 3) := by decide +kernel
theorem dX5_as_6 : decode cX5_as 6 = .ok (.invokestatic 46, 3) := by decide +kernel
theorem dX5_as_9 : decode cX5_as 9 = .ok (.ifCond .eq 10, 3) := by decide +kernel
theorem dX5_as_12 : decode cX5_as 12 = .ok (.iload_n 2, 1) := by decide +kernel
theorem dX5_as_13 : decode cX5_as 13 = .ok (.invokestatic 78, 3) := by decide +kernel
theorem dX5_as_16 : decode cX5_as 16 = .ok (.ifCond .ne 10, 3) := by decide +kernel
theorem dX5_as_19 : decode cX5_as 19 = .ok (.aload_n 0, 1) := by decide +kernel
theorem dX5_as_20 : decode cX5_as 20 = .ok (.ldc 43, 2) := by decide +kernel
theorem dX5_as_22 : decode cX5_as 22 = .ok (.invokevirtual 75, 3) := by decide +kernel
theorem dX5_as_25 : decode cX5_as 25 = .ok (.ireturn, 1) := by decide +kernel
theorem dX5_as_26 : decode cX5_as 26 = .ok (.aload_n 0, 1) := by decide +kernel
theorem dX5_as_27 : decode cX5_as 27 = .ok (.getfield 7, 3) := by decide +kernel
theorem dX5_as_30 : decode cX5_as 30 = .ok (.bipush 101, 2) := by decide +kernel
theorem dX5_as_32 : decode cX5_as 32 = .ok (.iload_n 1, 1) := by decide +kernel
theorem dX5_as_33 : decode cX5_as 33 = .ok (.iadd, 1) := by decide +kernel
theorem dX5_as_34 : decode cX5_as 34 = .ok (.iaload, 1) := by decide +kernel
theorem dX5_as_35 : decode cX5_as 35 = .ok (.istore_n 3, 1) := by decide +kernel
theorem dX5_as_36 : decode cX5_as 36 = .ok (.iload_n 3, 1) := by decide +kernel
theorem dX5_as_37 : decode cX5_as 37 = .ok (.ifCond .ge 11, 3) := by decide +kernel
theorem dX5_as_40 : decode cX5_as 40 = .ok (.aload_n 0, 1) := by decide +kernel
theorem dX5_as_41 : decode cX5_as 41 = .ok (.ldc_w 308, 3) := by decide +kernel
theorem dX5_as_44 : decode cX5_as 44 = .ok (.invokevirtual 75, 3) := by decide +kernel
theorem dX5_as_47 : decode cX5_as 47 = .ok (.ireturn, 1) := by decide +kernel
theorem dX5_as_48 : decode cX5_as 48 = .ok (.aload_n 0, 1) := by decide +kernel
theorem dX5_as_49 : decode cX5_as 49 = .ok (.iload_n 3, 1) := by decide +kernel
theorem dX5_as_50 : decode cX5_as 50 = .ok (.invokevirtual 67, 3) := by decide +kernel
theorem dX5_as_53 : decode cX5_as 53 = .ok (.istore 4, 2) := by decide +kernel
theorem dX5_as_55 : decode cX5_as 55 = .ok (.iload_n 2, 1) := by decide +kernel
theorem dX5_as_56 : decode cX5_as 56 = .ok (.ifCond .eq 32, 3) := by decide +kernel
theorem dX5_as_59 : decode cX5_as 59 = .ok (.iload 4, 2) := by decide +kernel
theorem dX5_as_61 : decode cX5_as 61 = .ok (.iload_n 2, 1) := by decide +kernel
theorem dX5_as_62 : decode cX5_as 62 = .ok (.if_icmp .eq 26, 3) := by decide +kernel
theorem dX5_as_65 : decode cX5_as 65 = .ok (.iload_n 2, 1) := by decide +kernel
theorem dX5_as_66 : decode cX5_as 66 = .ok (.iconst 1, 1) := by decide +kernel
theorem dX5_as_67 : decode cX5_as 67 = .ok (.if_icmp .ne 9, 3) := by decide +kernel
theorem dX5_as_70 : decode cX5_as 70 = .ok (.iload 4, 2) := by decide +kernel
theorem dX5_as_72 : decode cX5_as 72 = .ok (.iconst 3, 1) := by decide +kernel
theorem dX5_as_73 : decode cX5_as 73 = .ok (.if_icmp .eq 15, 3) := by decide +kernel
theorem dX5_as_76 : decode cX5_as 76 = .ok (.iload_n 2, 1) := by decide +kernel
theorem dX5_as_77 : decode cX5_as 77 = .ok (.iconst 5, 1) := by decide +kernel
theorem dX5_as_78 : decode cX5_as 78 = .ok (.if_icmp .ne 14, 3) := by decide +kernel
theorem dX5_as_81 : decode cX5_as 81 = .ok (.iload 4, 2) := by decide +kernel
theorem dX5_as_83 : decode cX5_as 83 = .ok (.bipush 6, 2) := by decide +kernel
theorem dX5_as_85 : decode cX5_as 85 = .ok (.if_icmp .ne 7, 3) := by decide +kernel
theorem dX5_as_88 : decode cX5_as 88 = .ok (.iconst 1, 1) := by decide +kernel
theorem dX5_as_89 : decode cX5_as 89 = .ok (.goto 4, 3) := by decide +kernel
theorem dX5_as_92 : decode cX5_as 92 = .ok (.iconst 0, 1) := by decide +kernel
theorem dX5_as_93 : decode cX5_as 93 = .ok (.istore 5, 2) := by decide +kernel
theorem dX5_as_95 : decode cX5_as 95 = .ok (.iload 5, 2) := by decide +kernel
theorem dX5_as_97 : decode cX5_as 97 = .ok (.ifCond .eq 7, 3) := by decide +kernel
theorem dX5_as_100 : decode cX5_as 100 = .ok (.iload_n 3, 1) := by decide +kernel
theorem dX5_as_101 : decode cX5_as 101 = .ok (.goto 10, 3) := by decide +kernel
theorem dX5_as_104 : decode cX5_as 104 = .ok (.aload_n 0, 1) := by decide +kernel
theorem dX5_as_105 : decode cX5_as 105 = .ok (.ldc_w 309, 3) := by decide +kernel
theorem dX5_as_108 : decode cX5_as 108 = .ok (.invokevirtual 75, 3) := by decide +kernel
theorem dX5_as_111 : decode cX5_as 111 = .ok (.ireturn, 1) := by decide +kernel
theorem dX5_blind_0 : decode cX5_blind 0 = .ok (.ldc 184, 2) := by decide +kernel
theorem dX5_blind_2 : decode cX5_blind 2 = .ok (.aload_n 0, 1) := by decide +kernel
theorem dX5_blind_3 : decode cX5_blind 3 = .ok (.invokevirtual 181, 3) := by decide +kernel
theorem dX5_blind_6 : decode cX5_blind 6 = .ok (.iconst (-1), 1) := by decide +kernel
theorem dX5_blind_7 : decode cX5_blind 7 = .ok (.ixor, 1) := by decide +kernel
theorem dX5_blind_8 : decode cX5_blind 8 = .ok (.iand, 1) := by decide +kernel
theorem dX5_blind_9 : decode cX5_blind 9 = .ok (.ireturn, 1) := by decide +kernel
theorem dX5_byteAt_0 : decode cX5_byteAt 0 = .ok (.iload_n 1, 1) := by decide +kernel
theorem dX5_byteAt_1 : decode cX5_byteAt 1 = .ok (.aload_n 0, 1) := by decide +kernel
theorem dX5_byteAt_2 : decode cX5_byteAt 2 = .ok (.getfield 204, 3) := by decide +kernel
theorem dX5_byteAt_5 : decode cX5_byteAt 5 = .ok (.if_icmp .ge 12, 3) := by decide +kernel
theorem dX5_byteAt_8 : decode cX5_byteAt 8 = .ok (.aload_n 0, 1) := by decide +kernel
theorem dX5_byteAt_9 : decode cX5_byteAt 9 = .ok (.getfield 28, 3) := by decide +kernel
theorem dX5_byteAt_12 : decode cX5_byteAt 12 = .ok (.iload_n 1, 1) := by decide +kernel
theorem dX5_byteAt_13 : decode cX5_byteAt 13 = .ok (.iaload, 1) := by decide +kernel
theorem dX5_byteAt_14 : decode cX5_byteAt 14 = .ok (.goto 4, 3) := by decide +kernel
theorem dX5_byteAt_17 : decode cX5_byteAt 17 = .ok (.iconst (-1), 1) := by decide +kernel
theorem dX5_byteAt_18 : decode cX5_byteAt 18 = .ok (.ireturn, 1) := by decide +kernel
theorem dX5_cell_0 : decode cX5_cell 0 = .ok (.iload_n 1, 1) := by decide +kernel
theorem dX5_cell_1 : decode cX5_cell 1 = .ok (.invokestatic 58, 3) := by decide +kernel
theorem dX5_cell_4 : decode cX5_cell 4 = .ok (.ifCond .eq 25, 3) := by decide +kernel
theorem dX5_cell_7 : decode cX5_cell 7 = .ok (.iload_n 2, 1) := by decide +kernel
theorem dX5_cell_8 : decode cX5_cell 8 = .ok (.i2l, 1) := by decide +kernel
theorem dX5_cell_9 : decode cX5_cell 9 = .ok (.lconst 0, 1) := by decide +kernel
theorem dX5_cell_10 : decode cX5_cell 10 = .ok (.lconst 1, 1) := by decide +kernel
theorem dX5_cell_11 : decode cX5_cell 11 = .ok (.invokestatic 46, 3) := by decide +kernel
theorem dX5_cell_14 : decode cX5_cell 14 = .ok (.ifCond .eq 15, 3) := by decide +kernel
theorem dX5_cell_17 : decode cX5_cell 17 = .ok (.iload_n 3, 1) := by decide +kernel
theorem dX5_cell_18 : decode cX5_cell 18 = .ok (.i2l, 1) := by decide +kernel
theorem dX5_cell_19 : decode cX5_cell 19 = .ok (.lconst 0, 1) := by decide +kernel
theorem dX5_cell_20 : decode cX5_cell 20 = .ok (.ldc2_w 73, 3) := by decide +kernel
theorem dX5_cell_23 : decode cX5_cell 23 = .ok (.invokestatic 46, 3) := by decide +kernel
theorem dX5_cell_26 : decode cX5_cell 26 = .ok (.ifCond .ne 10, 3) := by decide +kernel
theorem dX5_cell_29 : decode cX5_cell 29 = .ok (.aload_n 0, 1) := by decide +kernel
theorem dX5_cell_30 : decode cX5_cell 30 = .ok (.ldc 43, 2) := by decide +kernel
theorem dX5_cell_32 : decode cX5_cell 32 = .ok (.invokevirtual 75, 3) := by decide +kernel
theorem dX5_cell_35 : decode cX5_cell 35 = .ok (.ireturn, 1) := by decide +kernel
theorem dX5_cell_36 : decode cX5_cell 36 = .ok (.aload_n 0, 1) := by decide +kernel
theorem dX5_cell_37 : decode cX5_cell 37 = .ok (.getfield 7, 3) := by decide +kernel
theorem dX5_cell_40 : decode cX5_cell 40 = .ok (.iconst 5, 1) := by decide +kernel
theorem dX5_cell_41 : decode cX5_cell 41 = .ok (.iconst 3, 1) := by decide +kernel
theorem dX5_cell_42 : decode cX5_cell 42 = .ok (.iload_n 1, 1) := by decide +kernel
theorem dX5_cell_43 : decode cX5_cell 43 = .ok (.imul, 1) := by decide +kernel
theorem dX5_cell_44 : decode cX5_cell 44 = .ok (.iadd, 1) := by decide +kernel
theorem dX5_cell_45 : decode cX5_cell 45 = .ok (.iconst 1, 1) := by decide +kernel
theorem dX5_cell_46 : decode cX5_cell 46 = .ok (.iadd, 1) := by decide +kernel
theorem dX5_cell_47 : decode cX5_cell 47 = .ok (.iload_n 2, 1) := by decide +kernel
theorem dX5_cell_48 : decode cX5_cell 48 = .ok (.iadd, 1) := by decide +kernel
theorem dX5_cell_49 : decode cX5_cell 49 = .ok (.iaload, 1) := by decide +kernel
theorem dX5_cell_50 : decode cX5_cell 50 = .ok (.istore 4, 2) := by decide +kernel
theorem dX5_cell_52 : decode cX5_cell 52 = .ok (.aload_n 0, 1) := by decide +kernel
theorem dX5_cell_53 : decode cX5_cell 53 = .ok (.getfield 7, 3) := by decide +kernel
theorem dX5_cell_56 : decode cX5_cell 56 = .ok (.iconst 5, 1) := by decide +kernel
theorem dX5_cell_57 : decode cX5_cell 57 = .ok (.iconst 3, 1) := by decide +kernel
theorem dX5_cell_58 : decode cX5_cell 58 = .ok (.iload_n 1, 1) := by decide +kernel
theorem dX5_cell_59 : decode cX5_cell 59 = .ok (.imul, 1) := by decide +kernel
theorem dX5_cell_60 : decode cX5_cell 60 = .ok (.iadd, 1) := by decide +kernel
theorem dX5_cell_61 : decode cX5_cell 61 = .ok (.iconst 1, 1) := by decide +kernel
theorem dX5_cell_62 : decode cX5_cell 62 = .ok (.iadd, 1) := by decide +kernel
theorem dX5_cell_63 : decode cX5_cell 63 = .ok (.iload_n 2, 1) := by decide +kernel
theorem dX5_cell_64 : decode cX5_cell 64 = .ok (.iadd, 1) := by decide +kernel
theorem dX5_cell_65 : decode cX5_cell 65 = .ok (.iload_n 3, 1) := by decide +kernel
theorem dX5_cell_66 : decode cX5_cell 66 = .ok (.iastore, 1) := by decide +kernel
theorem dX5_cell_67 : decode cX5_cell 67 = .ok (.iload 4, 2) := by decide +kernel
theorem dX5_cell_69 : decode cX5_cell 69 = .ok (.ireturn, 1) := by decide +kernel
theorem dX5_cellAt_0 : decode cX5_cellAt 0 = .ok (.aload_n 0, 1) := by decide +kernel
theorem dX5_cellAt_1 : decode cX5_cellAt 1 = .ok (.getfield 7, 3) := by decide +kernel
theorem dX5_cellAt_4 : decode cX5_cellAt 4 = .ok (.bipush 77, 2) := by decide +kernel
theorem dX5_cellAt_6 : decode cX5_cellAt 6 = .ok (.iconst 3, 1) := by decide +kernel
theorem dX5_cellAt_7 : decode cX5_cellAt 7 = .ok (.iload_n 1, 1) := by decide +kernel
theorem dX5_cellAt_8 : decode cX5_cellAt 8 = .ok (.imul, 1) := by decide +kernel
theorem dX5_cellAt_9 : decode cX5_cellAt 9 = .ok (.iadd, 1) := by decide +kernel
theorem dX5_cellAt_10 : decode cX5_cellAt 10 = .ok (.iaload, 1) := by decide +kernel
theorem dX5_cellAt_11 : decode cX5_cellAt 11 = .ok (.ireturn, 1) := by decide +kernel
theorem dX5_cellItem_0 : decode cX5_cellItem 0 = .ok (.aload_n 0, 1) := by decide +kernel
theorem dX5_cellItem_1 : decode cX5_cellItem 1 = .ok (.iconst 1, 1) := by decide +kernel
theorem dX5_cellItem_2 : decode cX5_cellItem 2 = .ok (.invokevirtual 244, 3) := by decide +kernel
theorem dX5_cellItem_5 : decode cX5_cellItem 5 = .ok (.aload_n 0, 1) := by decide +kernel
theorem dX5_cellItem_6 : decode cX5_cellItem 6 = .ok (.iconst 0, 1) := by decide +kernel
theorem dX5_cellItem_7 : decode cX5_cellItem 7 = .ok (.bipush 23, 2) := by decide +kernel
theorem dX5_cellItem_9 : decode cX5_cellItem 9 = .ok (.invokevirtual 266, 3) := by decide +kernel
theorem dX5_cellItem_12 : decode cX5_cellItem 12 = .ok (.aload_n 0, 1) := by decide +kernel
theorem dX5_cellItem_13 : decode cX5_cellItem 13 = .ok (.getfield 241, 3) := by decide +kernel
theorem dX5_cellItem_16 : decode cX5_cellItem 16 = .ok (.istore_n 2, 1) := by decide +kernel
theorem dX5_cellItem_17 : decode cX5_cellItem 17 = .ok (.aload_n 0, 1) := by decide +kernel
theorem dX5_cellItem_18 : decode cX5_cellItem 18 = .ok (.aload_n 0, 1) := by decide +kernel
theorem dX5_cellItem_19 : decode cX5_cellItem 19 = .ok (.invokevirtual 248, 3) := by decide +kernel
theorem dX5_cellItem_22 : decode cX5_cellItem 22 = .ok (.ldc2_w 268, 3) := by decide +kernel
theorem dX5_cellItem_25 : decode cX5_cellItem 25 = .ok (.lcmp, 1) := by decide +kernel
theorem dX5_cellItem_26 : decode cX5_cellItem 26 = .ok (.ifCond .ne 7, 3) := by decide +kernel
theorem dX5_cellItem_29 : decode cX5_cellItem 29 = .ok (.iconst 1, 1) := by decide +kernel
theorem dX5_cellItem_30 : decode cX5_cellItem 30 = .ok (.goto 4, 3) := by decide +kernel
theorem dX5_cellItem_33 : decode cX5_cellItem 33 = .ok (.iconst 0, 1) := by decide +kernel
theorem dX5_cellItem_34 : decode cX5_cellItem 34 = .ok (.iload_n 2, 1) := by decide +kernel
theorem dX5_cellItem_35 : decode cX5_cellItem 35 = .ok (.bipush 23, 2) := by decide +kernel
theorem dX5_cellItem_37 : decode cX5_cellItem 37 = .ok (.iload_n 2, 1) := by decide +kernel
theorem dX5_cellItem_38 : decode cX5_cellItem 38 = .ok (.invokevirtual 270, 3) := by decide +kernel
theorem dX5_cellItem_41 : decode cX5_cellItem 41 = .ok (.istore_n 3, 1) := by decide +kernel
theorem dX5_cellItem_42 : decode cX5_cellItem 42 = .ok (.aload_n 0, 1) := by decide +kernel
theorem dX5_cellItem_43 : decode cX5_cellItem 43 = .ok (.aload_n 0, 1) := by decide +kernel
theorem dX5_cellItem_44 : decode cX5_cellItem 44 = .ok (.invokevirtual 248, 3) := by decide +kernel
theorem dX5_cellItem_47 : decode cX5_cellItem 47 = .ok (.ldc2_w 274, 3) := by decide +kernel
theorem dX5_cellItem_50 : decode cX5_cellItem 50 = .ok (.lcmp, 1) := by decide +kernel
theorem dX5_cellItem_51 : decode cX5_cellItem 51 = .ok (.ifCond .ne 7, 3) := by decide +kernel
theorem dX5_cellItem_54 : decode cX5_cellItem 54 = .ok (.iconst 1, 1) := by decide +kernel
theorem dX5_cellItem_55 : decode cX5_cellItem 55 = .ok (.goto 4, 3) := by decide +kernel
theorem dX5_cellItem_58 : decode cX5_cellItem 58 = .ok (.iconst 0, 1) := by decide +kernel
theorem dX5_cellItem_59 : decode cX5_cellItem 59 = .ok (.iconst 0, 1) := by decide +kernel
theorem dX5_cellItem_60 : decode cX5_cellItem 60 = .ok (.bipush 99, 2) := by decide +kernel
theorem dX5_cellItem_62 : decode cX5_cellItem 62 = .ok (.iconst (-1), 1) := by decide +kernel
theorem dX5_cellItem_63 : decode cX5_cellItem 63 = .ok (.invokevirtual 270, 3) := by decide +kernel
theorem dX5_cellItem_66 : decode cX5_cellItem 66 = .ok (.istore 4, 2) := by decide +kernel
theorem dX5_cellItem_68 : decode cX5_cellItem 68 = .ok (.aload_n 0, 1) := by decide +kernel
theorem dX5_cellItem_69 : decode cX5_cellItem 69 = .ok (.aload_n 0, 1) := by decide +kernel
theorem dX5_cellItem_70 : decode cX5_cellItem 70 = .ok (.invokevirtual 248, 3) := by decide +kernel
theorem dX5_cellItem_73 : decode cX5_cellItem 73 = .ok (.ldc2_w 276, 3) := by decide +kernel
theorem dX5_cellItem_76 : decode cX5_cellItem 76 = .ok (.lcmp, 1) := by decide +kernel
theorem dX5_cellItem_77 : decode cX5_cellItem 77 = .ok (.ifCond .ne 7, 3) := by decide +kernel
theorem dX5_cellItem_80 : decode cX5_cellItem 80 = .ok (.iconst 1, 1) := by decide +kernel
theorem dX5_cellItem_81 : decode cX5_cellItem 81 = .ok (.goto 4, 3) := by decide +kernel
theorem dX5_cellItem_84 : decode cX5_cellItem 84 = .ok (.iconst 0, 1) := by decide +kernel
theorem dX5_cellItem_85 : decode cX5_cellItem 85 = .ok (.iconst 0, 1) := by decide +kernel
theorem dX5_cellItem_86 : decode cX5_cellItem 86 = .ok (.bipush 99, 2) := by decide +kernel
theorem dX5_cellItem_88 : decode cX5_cellItem 88 = .ok (.iconst 0, 1) := by decide +kernel
theorem dX5_cellItem_89 : decode cX5_cellItem 89 = .ok (.invokevirtual 270, 3) := by decide +kernel
theorem dX5_cellItem_92 : decode cX5_cellItem 92 = .ok (.istore 5, 2) := by decide +kernel
theorem dX5_cellItem_94 : decode cX5_cellItem 94 = .ok (.iload_n 2, 1) := by decide +kernel
theorem dX5_cellItem_95 : decode cX5_cellItem 95 = .ok (.istore 6, 2) := by decide +kernel
theorem dX5_cellItem_97 : decode cX5_cellItem 97 = .ok (.iload 6, 2) := by decide +kernel
theorem dX5_cellItem_99 : decode cX5_cellItem 99 = .ok (.iload_n 3, 1) := by decide +kernel
theorem dX5_cellItem_100 : decode cX5_cellItem 100 = .ok (.if_icmp .gt 79, 3) := by decide +kernel
theorem dX5_cellItem_103 : decode cX5_cellItem 103 = .ok (.aload_n 0, 1) := by decide +kernel
theorem dX5_cellItem_104 : decode cX5_cellItem 104 = .ok (.getfield 230, 3) := by decide +kernel
theorem dX5_cellItem_107 : decode cX5_cellItem 107 = .ok (.ifCond .ne 72, 3) := by decide +kernel
theorem dX5_cellItem_110 : decode cX5_cellItem 110 = .ok (.aload_n 0, 1) := by decide +kernel
theorem dX5_cellItem_111 : decode cX5_cellItem 111 = .ok (.getfield 7, 3) := by decide +kernel
theorem dX5_cellItem_114 : decode cX5_cellItem 114 = .ok (.iconst 5, 1) := by decide +kernel
theorem dX5_cellItem_115 : decode cX5_cellItem 115 = .ok (.iconst 3, 1) := by decide +kernel
theorem dX5_cellItem_116 : decode cX5_cellItem 116 = .ok (.iload 6, 2) := by decide +kernel
theorem dX5_cellItem_118 : decode cX5_cellItem 118 = .ok (.imul, 1) := by decide +kernel
theorem dX5_cellItem_119 : decode cX5_cellItem 119 = .ok (.iadd, 1) := by decide +kernel
theorem dX5_cellItem_120 : decode cX5_cellItem 120 = .ok (.iload_n 1, 1) := by decide +kernel
theorem dX5_cellItem_121 : decode cX5_cellItem 121 = .ok (.iastore, 1) := by decide +kernel
theorem dX5_cellItem_122 : decode cX5_cellItem 122 = .ok (.aload_n 0, 1) := by decide +kernel
theorem dX5_cellItem_123 : decode cX5_cellItem 123 = .ok (.getfield 7, 3) := by decide +kernel
theorem dX5_cellItem_126 : decode cX5_cellItem 126 = .ok (.iconst 5, 1) := by decide +kernel
theorem dX5_cellItem_127 : decode cX5_cellItem 127 = .ok (.iconst 3, 1) := by decide +kernel
theorem dX5_cellItem_128 : decode cX5_cellItem 128 = .ok (.iload 6, 2) := by decide +kernel
theorem dX5_cellItem_130 : decode cX5_cellItem 130 = .ok (.imul, 1) := by decide +kernel
theorem dX5_cellItem_131 : decode cX5_cellItem 131 = .ok (.iadd, 1) := by decide +kernel
theorem dX5_cellItem_132 : decode cX5_cellItem 132 = .ok (.iconst 1, 1) := by decide +kernel
theorem dX5_cellItem_133 : decode cX5_cellItem 133 = .ok (.iadd, 1) := by decide +kernel
theorem dX5_cellItem_134 : decode cX5_cellItem 134 = .ok (.iload 4, 2) := by decide +kernel
theorem dX5_cellItem_136 : decode cX5_cellItem 136 = .ok (.ifCond .ge 19, 3) := by decide +kernel
theorem dX5_cellItem_139 : decode cX5_cellItem 139 = .ok (.aload_n 0, 1) := by decide +kernel
theorem dX5_cellItem_140 : decode cX5_cellItem 140 = .ok (.getfield 7, 3) := by decide +kernel
theorem dX5_cellItem_143 : decode cX5_cellItem 143 = .ok (.iconst 5, 1) := by decide +kernel
theorem dX5_cellItem_144 : decode cX5_cellItem 144 = .ok (.iconst 3, 1) := by decide +kernel
theorem dX5_cellItem_145 : decode cX5_cellItem 145 = .ok (.iload 6, 2) := by decide +kernel
theorem dX5_cellItem_147 : decode cX5_cellItem 147 = .ok (.imul, 1) := by decide +kernel
theorem dX5_cellItem_148 : decode cX5_cellItem 148 = .ok (.iadd, 1) := by decide +kernel
theorem dX5_cellItem_149 : decode cX5_cellItem 149 = .ok (.iconst 1, 1) := by decide +kernel
theorem dX5_cellItem_150 : decode cX5_cellItem 150 = .ok (.iadd, 1) := by decide +kernel
theorem dX5_cellItem_151 : decode cX5_cellItem 151 = .ok (.iaload, 1) := by decide +kernel
theorem dX5_cellItem_152 : decode cX5_cellItem 152 = .ok (.goto 5, 3) := by decide +kernel
theorem dX5_cellItem_155 : decode cX5_cellItem 155 = .ok (.iload 4, 2) := by decide +kernel
theorem dX5_cellItem_157 : decode cX5_cellItem 157 = .ok (.iastore, 1) := by decide +kernel
theorem dX5_cellItem_158 : decode cX5_cellItem 158 = .ok (.aload_n 0, 1) := by decide +kernel
theorem dX5_cellItem_159 : decode cX5_cellItem 159 = .ok (.getfield 7, 3) := by decide +kernel
theorem dX5_cellItem_162 : decode cX5_cellItem 162 = .ok (.iconst 5, 1) := by decide +kernel
theorem dX5_cellItem_163 : decode cX5_cellItem 163 = .ok (.iconst 3, 1) := by decide +kernel
theorem dX5_cellItem_164 : decode cX5_cellItem 164 = .ok (.iload 6, 2) := by decide +kernel
theorem dX5_cellItem_166 : decode cX5_cellItem 166 = .ok (.imul, 1) := by decide +kernel
theorem dX5_cellItem_167 : decode cX5_cellItem 167 = .ok (.iadd, 1) := by decide +kernel
theorem dX5_cellItem_168 : decode cX5_cellItem 168 = .ok (.iconst 2, 1) := by decide +kernel
theorem dX5_cellItem_169 : decode cX5_cellItem 169 = .ok (.iadd, 1) := by decide +kernel
theorem dX5_cellItem_170 : decode cX5_cellItem 170 = .ok (.iload 5, 2) := by decide +kernel
theorem dX5_cellItem_172 : decode cX5_cellItem 172 = .ok (.iastore, 1) := by decide +kernel
theorem dX5_cellItem_173 : decode cX5_cellItem 173 = .ok (.iinc 6 1, 3) := by decide +kernel
theorem dX5_cellItem_176 : decode cX5_cellItem 176 = .ok (.goto (-79), 3) := by decide +kernel
theorem dX5_cellItem_179 : decode cX5_cellItem 179 = .ok (.return_, 1) := by decide +kernel
theorem dX5_cellOf_0 : decode cX5_cellOf 0 = .ok (.iload_n 1, 1) := by decide +kernel
theorem dX5_cellOf_1 : decode cX5_cellOf 1 = .ok (.invokestatic 58, 3) := by decide +kernel
theorem dX5_cellOf_4 : decode cX5_cellOf 4 = .ok (.ifCond .eq 15, 3) := by decide +kernel
theorem dX5_cellOf_7 : decode cX5_cellOf 7 = .ok (.iload_n 2, 1) := by decide +kernel
theorem dX5_cellOf_8 : decode cX5_cellOf 8 = .ok (.i2l, 1) := by decide +kernel
theorem dX5_cellOf_9 : decode cX5_cellOf 9 = .ok (.lconst 0, 1) := by decide +kernel
theorem dX5_cellOf_10 : decode cX5_cellOf 10 = .ok (.ldc2_w 85, 3) := by decide +kernel
theorem dX5_cellOf_13 : decode cX5_cellOf 13 = .ok (.invokestatic 46, 3) := by decide +kernel
theorem dX5_cellOf_16 : decode cX5_cellOf 16 = .ok (.ifCond .ne 10, 3) := by decide +kernel
theorem dX5_cellOf_19 : decode cX5_cellOf 19 = .ok (.aload_n 0, 1) := by decide +kernel
theorem dX5_cellOf_20 : decode cX5_cellOf 20 = .ok (.ldc 43, 2) := by decide +kernel
theorem dX5_cellOf_22 : decode cX5_cellOf 22 = .ok (.invokevirtual 75, 3) := by decide +kernel
theorem dX5_cellOf_25 : decode cX5_cellOf 25 = .ok (.ireturn, 1) := by decide +kernel
theorem dX5_cellOf_26 : decode cX5_cellOf 26 = .ok (.iload_n 2, 1) := by decide +kernel
theorem dX5_cellOf_27 : decode cX5_cellOf 27 = .ok (.iconst 3, 1) := by decide +kernel
theorem dX5_cellOf_28 : decode cX5_cellOf 28 = .ok (.if_icmp .ge 18, 3) := by decide +kernel
theorem dX5_cellOf_31 : decode cX5_cellOf 31 = .ok (.aload_n 0, 1) := by decide +kernel
theorem dX5_cellOf_32 : decode cX5_cellOf 32 = .ok (.getfield 7, 3) := by decide +kernel
theorem dX5_cellOf_35 : decode cX5_cellOf 35 = .ok (.iconst 5, 1) := by decide +kernel
theorem dX5_cellOf_36 : decode cX5_cellOf 36 = .ok (.iconst 3, 1) := by decide +kernel
theorem dX5_cellOf_37 : decode cX5_cellOf 37 = .ok (.iload_n 1, 1) := by decide +kernel
theorem dX5_cellOf_38 : decode cX5_cellOf 38 = .ok (.imul, 1) := by decide +kernel
theorem dX5_cellOf_39 : decode cX5_cellOf 39 = .ok (.iadd, 1) := by decide +kernel
theorem dX5_cellOf_40 : decode cX5_cellOf 40 = .ok (.iload_n 2, 1) := by decide +kernel
theorem dX5_cellOf_41 : decode cX5_cellOf 41 = .ok (.iadd, 1) := by decide +kernel
theorem dX5_cellOf_42 : decode cX5_cellOf 42 = .ok (.iaload, 1) := by decide +kernel
theorem dX5_cellOf_43 : decode cX5_cellOf 43 = .ok (.goto 21, 3) := by decide +kernel
theorem dX5_cellOf_46 : decode cX5_cellOf 46 = .ok (.iload_n 2, 1) := by decide +kernel
theorem dX5_cellOf_47 : decode cX5_cellOf 47 = .ok (.iconst 3, 1) := by decide +kernel
theorem dX5_cellOf_48 : decode cX5_cellOf 48 = .ok (.if_icmp .ne 11, 3) := by decide +kernel
theorem dX5_cellOf_51 : decode cX5_cellOf 51 = .ok (.aload_n 0, 1) := by decide +kernel
theorem dX5_cellOf_52 : decode cX5_cellOf 52 = .ok (.iload_n 1, 1) := by decide +kernel
theorem dX5_cellOf_53 : decode cX5_cellOf 53 = .ok (.invokevirtual 87, 3) := by decide +kernel
theorem dX5_cellOf_56 : decode cX5_cellOf 56 = .ok (.goto 8, 3) := by decide +kernel
theorem dX5_cellOf_59 : decode cX5_cellOf 59 = .ok (.aload_n 0, 1) := by decide +kernel
theorem dX5_cellOf_60 : decode cX5_cellOf 60 = .ok (.iload_n 1, 1) := by decide +kernel
theorem dX5_cellOf_61 : decode cX5_cellOf 61 = .ok (.invokevirtual 90, 3) := by decide +kernel
theorem dX5_cellOf_64 : decode cX5_cellOf 64 = .ok (.ireturn, 1) := by decide +kernel
theorem dX5_cheapest_0 : decode cX5_cheapest 0 = .ok (.aload_n 0, 1) := by decide +kernel
theorem dX5_cheapest_1 : decode cX5_cheapest 1 = .ok (.iload_n 1, 1) := by decide +kernel
theorem dX5_cheapest_2 : decode cX5_cheapest 2 = .ok (.invokevirtual 104, 3) := by decide +kernel
theorem dX5_cheapest_5 : decode cX5_cheapest 5 = .ok (.ifCond .eq 11, 3) := by decide +kernel
theorem dX5_cheapest_8 : decode cX5_cheapest 8 = .ok (.aload_n 0, 1) := by decide +kernel
theorem dX5_cheapest_9 : decode cX5_cheapest 9 = .ok (.iload_n 1, 1) := by decide +kernel
theorem dX5_cheapest_10 : decode cX5_cheapest 10 = .ok (.invokevirtual 153, 3) := by decide +kernel
theorem dX5_cheapest_13 : decode cX5_cheapest 13 = .ok (.goto 9, 3) := by decide +kernel
theorem dX5_cheapest_16 : decode cX5_cheapest 16 = .ok (.aload_n 0, 1) := by decide +kernel
theorem dX5_cheapest_17 : decode cX5_cheapest 17 = .ok (.ldc 43, 2) := by decide +kernel
theorem dX5_cheapest_19 : decode cX5_cheapest 19 = .ok (.invokevirtual 75, 3) := by decide +kernel
theorem dX5_cheapest_22 : decode cX5_cheapest 22 = .ok (.ireturn, 1) := by decide +kernel
theorem dX5_copy_0 : decode cX5_copy 0 = .ok (.iload_n 1, 1) := by decide +kernel
theorem dX5_copy_1 : decode cX5_copy 1 = .ok (.invokestatic 310, 3) := by decide +kernel
theorem dX5_copy_4 : decode cX5_copy 4 = .ok (.ifCond .eq 10, 3) := by decide +kernel
theorem dX5_copy_7 : decode cX5_copy 7 = .ok (.iload_n 3, 1) := by decide +kernel
theorem dX5_copy_8 : decode cX5_copy 8 = .ok (.invokestatic 310, 3) := by decide +kernel
theorem dX5_copy_11 : decode cX5_copy 11 = .ok (.ifCond .ne 10, 3) := by decide +kernel
theorem dX5_copy_14 : decode cX5_copy 14 = .ok (.aload_n 0, 1) := by decide +kernel
theorem dX5_copy_15 : decode cX5_copy 15 = .ok (.ldc 43, 2) := by decide +kernel
theorem dX5_copy_17 : decode cX5_copy 17 = .ok (.invokevirtual 75, 3) := by decide +kernel
theorem dX5_copy_20 : decode cX5_copy 20 = .ok (.ireturn, 1) := by decide +kernel
theorem dX5_copy_21 : decode cX5_copy 21 = .ok (.aload_n 0, 1) := by decide +kernel
theorem dX5_copy_22 : decode cX5_copy 22 = .ok (.getfield 31, 3) := by decide +kernel
theorem dX5_copy_25 : decode cX5_copy 25 = .ok (.iload_n 1, 1) := by decide +kernel
theorem dX5_copy_26 : decode cX5_copy 26 = .ok (.iaload, 1) := by decide +kernel
theorem dX5_copy_27 : decode cX5_copy 27 = .ok (.ifCond .eq 12, 3) := by decide +kernel
theorem dX5_copy_30 : decode cX5_copy 30 = .ok (.aload_n 0, 1) := by decide +kernel
theorem dX5_copy_31 : decode cX5_copy 31 = .ok (.getfield 31, 3) := by decide +kernel
theorem dX5_copy_34 : decode cX5_copy 34 = .ok (.iload_n 3, 1) := by decide +kernel
theorem dX5_copy_35 : decode cX5_copy 35 = .ok (.iaload, 1) := by decide +kernel
theorem dX5_copy_36 : decode cX5_copy 36 = .ok (.ifCond .ne 11, 3) := by decide +kernel
theorem dX5_copy_39 : decode cX5_copy 39 = .ok (.aload_n 0, 1) := by decide +kernel
theorem dX5_copy_40 : decode cX5_copy 40 = .ok (.ldc_w 308, 3) := by decide +kernel
theorem dX5_copy_43 : decode cX5_copy 43 = .ok (.invokevirtual 75, 3) := by decide +kernel
theorem dX5_copy_46 : decode cX5_copy 46 = .ok (.ireturn, 1) := by decide +kernel
theorem dX5_copy_47 : decode cX5_copy 47 = .ok (.aload_n 0, 1) := by decide +kernel
theorem dX5_copy_48 : decode cX5_copy 48 = .ok (.getfield 31, 3) := by decide +kernel
theorem dX5_copy_51 : decode cX5_copy 51 = .ok (.iload_n 1, 1) := by decide +kernel
theorem dX5_copy_52 : decode cX5_copy 52 = .ok (.iaload, 1) := by decide +kernel
theorem dX5_copy_53 : decode cX5_copy 53 = .ok (.aload_n 0, 1) := by decide +kernel
theorem dX5_copy_54 : decode cX5_copy 54 = .ok (.getfield 31, 3) := by decide +kernel
theorem dX5_copy_57 : decode cX5_copy 57 = .ok (.iload_n 3, 1) := by decide +kernel
theorem dX5_copy_58 : decode cX5_copy 58 = .ok (.iaload, 1) := by decide +kernel
theorem dX5_copy_59 : decode cX5_copy 59 = .ok (.if_icmp .eq 11, 3) := by decide +kernel
theorem dX5_copy_62 : decode cX5_copy 62 = .ok (.aload_n 0, 1) := by decide +kernel
theorem dX5_copy_63 : decode cX5_copy 63 = .ok (.ldc_w 309, 3) := by decide +kernel
theorem dX5_copy_66 : decode cX5_copy 66 = .ok (.invokevirtual 75, 3) := by decide +kernel
theorem dX5_copy_69 : decode cX5_copy 69 = .ok (.ireturn, 1) := by decide +kernel
theorem dX5_copy_70 : decode cX5_copy 70 = .ok (.iload_n 2, 1) := by decide +kernel
theorem dX5_copy_71 : decode cX5_copy 71 = .ok (.ifCond .lt 40, 3) := by decide +kernel
theorem dX5_copy_74 : decode cX5_copy 74 = .ok (.iload 4, 2) := by decide +kernel
theorem dX5_copy_76 : decode cX5_copy 76 = .ok (.ifCond .lt 35, 3) := by decide +kernel
theorem dX5_copy_79 : decode cX5_copy 79 = .ok (.iload 5, 2) := by decide +kernel
theorem dX5_copy_81 : decode cX5_copy 81 = .ok (.ifCond .lt 30, 3) := by decide +kernel
theorem dX5_copy_84 : decode cX5_copy 84 = .ok (.iload 5, 2) := by decide +kernel
theorem dX5_copy_86 : decode cX5_copy 86 = .ok (.aload_n 0, 1) := by decide +kernel
theorem dX5_copy_87 : decode cX5_copy 87 = .ok (.getfield 34, 3) := by decide +kernel
theorem dX5_copy_90 : decode cX5_copy 90 = .ok (.iload_n 1, 1) := by decide +kernel
theorem dX5_copy_91 : decode cX5_copy 91 = .ok (.iaload, 1) := by decide +kernel
theorem dX5_copy_92 : decode cX5_copy 92 = .ok (.iload_n 2, 1) := by decide +kernel
theorem dX5_copy_93 : decode cX5_copy 93 = .ok (.isub, 1) := by decide +kernel
theorem dX5_copy_94 : decode cX5_copy 94 = .ok (.if_icmp .gt 17, 3) := by decide +kernel
theorem dX5_copy_97 : decode cX5_copy 97 = .ok (.iload 5, 2) := by decide +kernel
theorem dX5_copy_99 : decode cX5_copy 99 = .ok (.aload_n 0, 1) := by decide +kernel
theorem dX5_copy_100 : decode cX5_copy 100 = .ok (.getfield 34, 3) := by decide +kernel
theorem dX5_copy_103 : decode cX5_copy 103 = .ok (.iload_n 3, 1) := by decide +kernel
theorem dX5_copy_104 : decode cX5_copy 104 = .ok (.iaload, 1) := by decide +kernel
theorem dX5_copy_105 : decode cX5_copy 105 = .ok (.iload 4, 2) := by decide +kernel
theorem dX5_copy_107 : decode cX5_copy 107 = .ok (.isub, 1) := by decide +kernel
theorem dX5_copy_108 : decode cX5_copy 108 = .ok (.if_icmp .le 10, 3) := by decide +kernel
theorem dX5_copy_111 : decode cX5_copy 111 = .ok (.aload_n 0, 1) := by decide +kernel
theorem dX5_copy_112 : decode cX5_copy 112 = .ok (.ldc 43, 2) := by decide +kernel
theorem dX5_copy_114 : decode cX5_copy 114 = .ok (.invokevirtual 75, 3) := by decide +kernel
theorem dX5_copy_117 : decode cX5_copy 117 = .ok (.ireturn, 1) := by decide +kernel
theorem dX5_copy_118 : decode cX5_copy 118 = .ok (.iconst 0, 1) := by decide +kernel
theorem dX5_copy_119 : decode cX5_copy 119 = .ok (.istore 6, 2) := by decide +kernel
theorem dX5_copy_121 : decode cX5_copy 121 = .ok (.iload 6, 2) := by decide +kernel
theorem dX5_copy_123 : decode cX5_copy 123 = .ok (.iload 5, 2) := by decide +kernel
theorem dX5_copy_125 : decode cX5_copy 125 = .ok (.if_icmp .ge 30, 3) := by decide +kernel
theorem dX5_copy_128 : decode cX5_copy 128 = .ok (.aload_n 0, 1) := by decide +kernel
theorem dX5_copy_129 : decode cX5_copy 129 = .ok (.getfield 40, 3) := by decide +kernel
theorem dX5_copy_132 : decode cX5_copy 132 = .ok (.iload 6, 2) := by decide +kernel
theorem dX5_copy_134 : decode cX5_copy 134 = .ok (.aload_n 0, 1) := by decide +kernel
theorem dX5_copy_135 : decode cX5_copy 135 = .ok (.getfield 37, 3) := by decide +kernel
theorem dX5_copy_138 : decode cX5_copy 138 = .ok (.bipush 40, 2) := by decide +kernel
theorem dX5_copy_140 : decode cX5_copy 140 = .ok (.iload_n 1, 1) := by decide +kernel
theorem dX5_copy_141 : decode cX5_copy 141 = .ok (.imul, 1) := by decide +kernel
theorem dX5_copy_142 : decode cX5_copy 142 = .ok (.iload_n 2, 1) := by decide +kernel
theorem dX5_copy_143 : decode cX5_copy 143 = .ok (.iadd, 1) := by decide +kernel
theorem dX5_copy_144 : decode cX5_copy 144 = .ok (.iload 6, 2) := by decide +kernel
theorem dX5_copy_146 : decode cX5_copy 146 = .ok (.iadd, 1) := by decide +kernel
theorem dX5_copy_147 : decode cX5_copy 147 = .ok (.iaload, 1) := by decide +kernel
theorem dX5_copy_148 : decode cX5_copy 148 = .ok (.iastore, 1) := by decide +kernel
theorem dX5_copy_149 : decode cX5_copy 149 = .ok (.iinc 6 1, 3) := by decide +kernel
theorem dX5_copy_152 : decode cX5_copy 152 = .ok (.goto (-31), 3) := by decide +kernel
theorem dX5_copy_155 : decode cX5_copy 155 = .ok (.iconst 0, 1) := by decide +kernel
theorem dX5_copy_156 : decode cX5_copy 156 = .ok (.istore 6, 2) := by decide +kernel
theorem dX5_copy_158 : decode cX5_copy 158 = .ok (.iload 6, 2) := by decide +kernel
theorem dX5_copy_160 : decode cX5_copy 160 = .ok (.iload 5, 2) := by decide +kernel
theorem dX5_copy_162 : decode cX5_copy 162 = .ok (.if_icmp .ge 31, 3) := by decide +kernel
theorem dX5_copy_165 : decode cX5_copy 165 = .ok (.aload_n 0, 1) := by decide +kernel
theorem dX5_copy_166 : decode cX5_copy 166 = .ok (.getfield 37, 3) := by decide +kernel
theorem dX5_copy_169 : decode cX5_copy 169 = .ok (.bipush 40, 2) := by decide +kernel
theorem dX5_copy_171 : decode cX5_copy 171 = .ok (.iload_n 3, 1) := by decide +kernel
theorem dX5_copy_172 : decode cX5_copy 172 = .ok (.imul, 1) := by decide +kernel
theorem dX5_copy_173 : decode cX5_copy 173 = .ok (.iload 4, 2) := by decide +kernel
theorem dX5_copy_175 : decode cX5_copy 175 = .ok (.iadd, 1) := by decide +kernel
theorem dX5_copy_176 : decode cX5_copy 176 = .ok (.iload 6, 2) := by decide +kernel
theorem dX5_copy_178 : decode cX5_copy 178 = .ok (.iadd, 1) := by decide +kernel
theorem dX5_copy_179 : decode cX5_copy 179 = .ok (.aload_n 0, 1) := by decide +kernel
theorem dX5_copy_180 : decode cX5_copy 180 = .ok (.getfield 40, 3) := by decide +kernel
theorem dX5_copy_183 : decode cX5_copy 183 = .ok (.iload 6, 2) := by decide +kernel
theorem dX5_copy_185 : decode cX5_copy 185 = .ok (.iaload, 1) := by decide +kernel
theorem dX5_copy_186 : decode cX5_copy 186 = .ok (.iastore, 1) := by decide +kernel
theorem dX5_copy_187 : decode cX5_copy 187 = .ok (.iinc 6 1, 3) := by decide +kernel
theorem dX5_copy_190 : decode cX5_copy 190 = .ok (.goto (-32), 3) := by decide +kernel
theorem dX5_copy_193 : decode cX5_copy 193 = .ok (.iload 5, 2) := by decide +kernel
theorem dX5_copy_195 : decode cX5_copy 195 = .ok (.ireturn, 1) := by decide +kernel
theorem dX5_count_0 : decode cX5_count 0 = .ok (.iload_n 1, 1) := by decide +kernel
theorem dX5_count_1 : decode cX5_count 1 = .ok (.tableswitch 120 0 6 #[43, 50, 57, 62, 70, 75, 82], 43) := by decide +kernel
theorem dX5_count_44 : decode cX5_count 44 = .ok (.aload_n 0, 1) := by decide +kernel
theorem dX5_count_45 : decode cX5_count 45 = .ok (.getfield 7, 3) := by decide +kernel
theorem dX5_count_48 : decode cX5_count 48 = .ok (.iconst 0, 1) := by decide +kernel
theorem dX5_count_49 : decode cX5_count 49 = .ok (.iaload, 1) := by decide +kernel
theorem dX5_count_50 : decode cX5_count 50 = .ok (.ireturn, 1) := by decide +kernel
theorem dX5_count_51 : decode cX5_count 51 = .ok (.aload_n 0, 1) := by decide +kernel
theorem dX5_count_52 : decode cX5_count 52 = .ok (.getfield 7, 3) := by decide +kernel
theorem dX5_count_55 : decode cX5_count 55 = .ok (.iconst 1, 1) := by decide +kernel
theorem dX5_count_56 : decode cX5_count 56 = .ok (.iaload, 1) := by decide +kernel
theorem dX5_count_57 : decode cX5_count 57 = .ok (.ireturn, 1) := by decide +kernel
theorem dX5_count_58 : decode cX5_count 58 = .ok (.aload_n 0, 1) := by decide +kernel
theorem dX5_count_59 : decode cX5_count 59 = .ok (.invokevirtual 149, 3) := by decide +kernel
theorem dX5_count_62 : decode cX5_count 62 = .ok (.ireturn, 1) := by decide +kernel
theorem dX5_count_63 : decode cX5_count 63 = .ok (.aload_n 0, 1) := by decide +kernel
theorem dX5_count_64 : decode cX5_count 64 = .ok (.invokevirtual 181, 3) := by decide +kernel
theorem dX5_count_67 : decode cX5_count 67 = .ok (.invokestatic 156, 3) := by decide +kernel
theorem dX5_count_70 : decode cX5_count 70 = .ok (.ireturn, 1) := by decide +kernel
theorem dX5_count_71 : decode cX5_count 71 = .ok (.aload_n 0, 1) := by decide +kernel
theorem dX5_count_72 : decode cX5_count 72 = .ok (.getfield 204, 3) := by decide +kernel
theorem dX5_count_75 : decode cX5_count 75 = .ok (.ireturn, 1) := by decide +kernel
theorem dX5_count_76 : decode cX5_count 76 = .ok (.aload_n 0, 1) := by decide +kernel
theorem dX5_count_77 : decode cX5_count 77 = .ok (.getfield 7, 3) := by decide +kernel
theorem dX5_count_80 : decode cX5_count 80 = .ok (.iconst 4, 1) := by decide +kernel
theorem dX5_count_81 : decode cX5_count 81 = .ok (.iaload, 1) := by decide +kernel
theorem dX5_count_82 : decode cX5_count 82 = .ok (.ireturn, 1) := by decide +kernel
theorem dX5_count_83 : decode cX5_count 83 = .ok (.iconst 0, 1) := by decide +kernel
theorem dX5_count_84 : decode cX5_count 84 = .ok (.istore_n 2, 1) := by decide +kernel
theorem dX5_count_85 : decode cX5_count 85 = .ok (.iconst 0, 1) := by decide +kernel
theorem dX5_count_86 : decode cX5_count 86 = .ok (.istore_n 3, 1) := by decide +kernel
theorem dX5_count_87 : decode cX5_count 87 = .ok (.iload_n 3, 1) := by decide +kernel
theorem dX5_count_88 : decode cX5_count 88 = .ok (.bipush 10, 2) := by decide +kernel
theorem dX5_count_90 : decode cX5_count 90 = .ok (.if_icmp .ge 29, 3) := by decide +kernel
theorem dX5_count_93 : decode cX5_count 93 = .ok (.iload_n 2, 1) := by decide +kernel
theorem dX5_count_94 : decode cX5_count 94 = .ok (.aload_n 0, 1) := by decide +kernel
theorem dX5_count_95 : decode cX5_count 95 = .ok (.getfield 7, 3) := by decide +kernel
theorem dX5_count_98 : decode cX5_count 98 = .ok (.bipush 101, 2) := by decide +kernel
theorem dX5_count_100 : decode cX5_count 100 = .ok (.iload_n 3, 1) := by decide +kernel
theorem dX5_count_101 : decode cX5_count 101 = .ok (.iadd, 1) := by decide +kernel
theorem dX5_count_102 : decode cX5_count 102 = .ok (.iaload, 1) := by decide +kernel
theorem dX5_count_103 : decode cX5_count 103 = .ok (.ifCond .ge 7, 3) := by decide +kernel
theorem dX5_count_106 : decode cX5_count 106 = .ok (.iconst 0, 1) := by decide +kernel
theorem dX5_count_107 : decode cX5_count 107 = .ok (.goto 4, 3) := by decide +kernel
theorem dX5_count_110 : decode cX5_count 110 = .ok (.iconst 1, 1) := by decide +kernel
theorem dX5_count_111 : decode cX5_count 111 = .ok (.iadd, 1) := by decide +kernel
theorem dX5_count_112 : decode cX5_count 112 = .ok (.istore_n 2, 1) := by decide +kernel
theorem dX5_count_113 : decode cX5_count 113 = .ok (.iinc 3 1, 3) := by decide +kernel
theorem dX5_count_116 : decode cX5_count 116 = .ok (.goto (-29), 3) := by decide +kernel
theorem dX5_count_119 : decode cX5_count 119 = .ok (.iload_n 2, 1) := by decide +kernel
theorem dX5_count_120 : decode cX5_count 120 = .ok (.ireturn, 1) := by decide +kernel
theorem dX5_count_121 : decode cX5_count 121 = .ok (.aload_n 0, 1) := by decide +kernel
theorem dX5_count_122 : decode cX5_count 122 = .ok (.ldc 43, 2) := by decide +kernel
theorem dX5_count_124 : decode cX5_count 124 = .ok (.invokevirtual 75, 3) := by decide +kernel
theorem dX5_count_127 : decode cX5_count 127 = .ok (.ireturn, 1) := by decide +kernel
theorem dX5_dig_0 : decode cX5_dig 0 = .ok (.iload_n 1, 1) := by decide +kernel
theorem dX5_dig_1 : decode cX5_dig 1 = .ok (.iload_n 2, 1) := by decide +kernel
theorem dX5_dig_2 : decode cX5_dig 2 = .ok (.invokestatic 115, 3) := by decide +kernel
theorem dX5_dig_5 : decode cX5_dig 5 = .ok (.ifCond .eq 15, 3) := by decide +kernel
theorem dX5_dig_8 : decode cX5_dig 8 = .ok (.iload_n 3, 1) := by decide +kernel
theorem dX5_dig_9 : decode cX5_dig 9 = .ok (.i2l, 1) := by decide +kernel
theorem dX5_dig_10 : decode cX5_dig 10 = .ok (.lconst 1, 1) := by decide +kernel
theorem dX5_dig_11 : decode cX5_dig 11 = .ok (.ldc2_w 73, 3) := by decide +kernel
theorem dX5_dig_14 : decode cX5_dig 14 = .ok (.invokestatic 46, 3) := by decide +kernel
theorem dX5_dig_17 : decode cX5_dig 17 = .ok (.ifCond .ne 10, 3) := by decide +kernel
theorem dX5_dig_20 : decode cX5_dig 20 = .ok (.aload_n 0, 1) := by decide +kernel
theorem dX5_dig_21 : decode cX5_dig 21 = .ok (.ldc 43, 2) := by decide +kernel
theorem dX5_dig_23 : decode cX5_dig 23 = .ok (.invokevirtual 75, 3) := by decide +kernel
theorem dX5_dig_26 : decode cX5_dig 26 = .ok (.ireturn, 1) := by decide +kernel
theorem dX5_dig_27 : decode cX5_dig 27 = .ok (.iconst 0, 1) := by decide +kernel
theorem dX5_dig_28 : decode cX5_dig 28 = .ok (.istore 4, 2) := by decide +kernel
theorem dX5_dig_30 : decode cX5_dig 30 = .ok (.iload_n 1, 1) := by decide +kernel
theorem dX5_dig_31 : decode cX5_dig 31 = .ok (.istore 5, 2) := by decide +kernel
theorem dX5_dig_33 : decode cX5_dig 33 = .ok (.iload 5, 2) := by decide +kernel
theorem dX5_dig_35 : decode cX5_dig 35 = .ok (.iload_n 2, 1) := by decide +kernel
theorem dX5_dig_36 : decode cX5_dig 36 = .ok (.if_icmp .gt 35, 3) := by decide +kernel
theorem dX5_dig_39 : decode cX5_dig 39 = .ok (.aload_n 0, 1) := by decide +kernel
theorem dX5_dig_40 : decode cX5_dig 40 = .ok (.iload 5, 2) := by decide +kernel
theorem dX5_dig_42 : decode cX5_dig 42 = .ok (.iload_n 3, 1) := by decide +kernel
theorem dX5_dig_43 : decode cX5_dig 43 = .ok (.invokevirtual 119, 3) := by decide +kernel
theorem dX5_dig_46 : decode cX5_dig 46 = .ok (.iload 4, 2) := by decide +kernel
theorem dX5_dig_48 : decode cX5_dig 48 = .ok (.aload_n 0, 1) := by decide +kernel
theorem dX5_dig_49 : decode cX5_dig 49 = .ok (.iload 5, 2) := by decide +kernel
theorem dX5_dig_51 : decode cX5_dig 51 = .ok (.invokevirtual 70, 3) := by decide +kernel
theorem dX5_dig_54 : decode cX5_dig 54 = .ok (.ifCond .ne 7, 3) := by decide +kernel
theorem dX5_dig_57 : decode cX5_dig 57 = .ok (.iconst 1, 1) := by decide +kernel
theorem dX5_dig_58 : decode cX5_dig 58 = .ok (.goto 4, 3) := by decide +kernel
theorem dX5_dig_61 : decode cX5_dig 61 = .ok (.iconst 0, 1) := by decide +kernel
theorem dX5_dig_62 : decode cX5_dig 62 = .ok (.iadd, 1) := by decide +kernel
theorem dX5_dig_63 : decode cX5_dig 63 = .ok (.istore 4, 2) := by decide +kernel
theorem dX5_dig_65 : decode cX5_dig 65 = .ok (.iinc 5 1, 3) := by decide +kernel
theorem dX5_dig_68 : decode cX5_dig 68 = .ok (.goto (-35), 3) := by decide +kernel
theorem dX5_dig_71 : decode cX5_dig 71 = .ok (.iload 4, 2) := by decide +kernel
theorem dX5_dig_73 : decode cX5_dig 73 = .ok (.ireturn, 1) := by decide +kernel
theorem dX5_drain_0 : decode cX5_drain 0 = .ok (.iload_n 1, 1) := by decide +kernel
theorem dX5_drain_1 : decode cX5_drain 1 = .ok (.i2l, 1) := by decide +kernel
theorem dX5_drain_2 : decode cX5_drain 2 = .ok (.lconst 0, 1) := by decide +kernel
theorem dX5_drain_3 : decode cX5_drain 3 = .ok (.ldc2_w 122, 3) := by decide +kernel
theorem dX5_drain_6 : decode cX5_drain 6 = .ok (.invokestatic 46, 3) := by decide +kernel
theorem dX5_drain_9 : decode cX5_drain 9 = .ok (.ifCond .ne 10, 3) := by decide +kernel
theorem dX5_drain_12 : decode cX5_drain 12 = .ok (.aload_n 0, 1) := by decide +kernel
theorem dX5_drain_13 : decode cX5_drain 13 = .ok (.ldc 43, 2) := by decide +kernel
theorem dX5_drain_15 : decode cX5_drain 15 = .ok (.invokevirtual 75, 3) := by decide +kernel
theorem dX5_drain_18 : decode cX5_drain 18 = .ok (.ireturn, 1) := by decide +kernel
theorem dX5_drain_19 : decode cX5_drain 19 = .ok (.iconst 0, 1) := by decide +kernel
theorem dX5_drain_20 : decode cX5_drain 20 = .ok (.istore_n 2, 1) := by decide +kernel
theorem dX5_drain_21 : decode cX5_drain 21 = .ok (.iconst 0, 1) := by decide +kernel
theorem dX5_drain_22 : decode cX5_drain 22 = .ok (.istore_n 3, 1) := by decide +kernel
theorem dX5_drain_23 : decode cX5_drain 23 = .ok (.iload_n 3, 1) := by decide +kernel
theorem dX5_drain_24 : decode cX5_drain 24 = .ok (.bipush 24, 2) := by decide +kernel
theorem dX5_drain_26 : decode cX5_drain 26 = .ok (.if_icmp .ge 38, 3) := by decide +kernel
theorem dX5_drain_29 : decode cX5_drain 29 = .ok (.aload_n 0, 1) := by decide +kernel
theorem dX5_drain_30 : decode cX5_drain 30 = .ok (.iload_n 3, 1) := by decide +kernel
theorem dX5_drain_31 : decode cX5_drain 31 = .ok (.invokevirtual 67, 3) := by decide +kernel
theorem dX5_drain_34 : decode cX5_drain 34 = .ok (.iconst 1, 1) := by decide +kernel
theorem dX5_drain_35 : decode cX5_drain 35 = .ok (.if_icmp .ne 23, 3) := by decide +kernel
theorem dX5_drain_38 : decode cX5_drain 38 = .ok (.aload_n 0, 1) := by decide +kernel
theorem dX5_drain_39 : decode cX5_drain 39 = .ok (.getfield 7, 3) := by decide +kernel
theorem dX5_drain_42 : decode cX5_drain 42 = .ok (.iconst 5, 1) := by decide +kernel
theorem dX5_drain_43 : decode cX5_drain 43 = .ok (.iconst 3, 1) := by decide +kernel
theorem dX5_drain_44 : decode cX5_drain 44 = .ok (.iload_n 3, 1) := by decide +kernel
theorem dX5_drain_45 : decode cX5_drain 45 = .ok (.imul, 1) := by decide +kernel
theorem dX5_drain_46 : decode cX5_drain 46 = .ok (.iadd, 1) := by decide +kernel
theorem dX5_drain_47 : decode cX5_drain 47 = .ok (.iconst 2, 1) := by decide +kernel
theorem dX5_drain_48 : decode cX5_drain 48 = .ok (.iastore, 1) := by decide +kernel
theorem dX5_drain_49 : decode cX5_drain 49 = .ok (.aload_n 0, 1) := by decide +kernel
theorem dX5_drain_50 : decode cX5_drain 50 = .ok (.iload_n 3, 1) := by decide +kernel
theorem dX5_drain_51 : decode cX5_drain 51 = .ok (.iload_n 1, 1) := by decide +kernel
theorem dX5_drain_52 : decode cX5_drain 52 = .ok (.invokevirtual 119, 3) := by decide +kernel
theorem dX5_drain_55 : decode cX5_drain 55 = .ok (.iinc 2 1, 3) := by decide +kernel
theorem dX5_drain_58 : decode cX5_drain 58 = .ok (.iinc 3 1, 3) := by decide +kernel
theorem dX5_drain_61 : decode cX5_drain 61 = .ok (.goto (-38), 3) := by decide +kernel
theorem dX5_drain_64 : decode cX5_drain 64 = .ok (.iload_n 2, 1) := by decide +kernel
theorem dX5_drain_65 : decode cX5_drain 65 = .ok (.ireturn, 1) := by decide +kernel
theorem dX5_eye_0 : decode cX5_eye 0 = .ok (.aload_n 0, 1) := by decide +kernel
theorem dX5_eye_1 : decode cX5_eye 1 = .ok (.aload_n 0, 1) := by decide +kernel
theorem dX5_eye_2 : decode cX5_eye 2 = .ok (.iload_n 1, 1) := by decide +kernel
theorem dX5_eye_3 : decode cX5_eye 3 = .ok (.invokevirtual 93, 3) := by decide +kernel
theorem dX5_eye_6 : decode cX5_eye 6 = .ok (.invokevirtual 87, 3) := by decide +kernel
theorem dX5_eye_9 : decode cX5_eye 9 = .ok (.aload_n 0, 1) := by decide +kernel
theorem dX5_eye_10 : decode cX5_eye 10 = .ok (.getfield 7, 3) := by decide +kernel
theorem dX5_eye_13 : decode cX5_eye 13 = .ok (.bipush 77, 2) := by decide +kernel
theorem dX5_eye_15 : decode cX5_eye 15 = .ok (.iconst 3, 1) := by decide +kernel
theorem dX5_eye_16 : decode cX5_eye 16 = .ok (.iload_n 1, 1) := by decide +kernel
theorem dX5_eye_17 : decode cX5_eye 17 = .ok (.imul, 1) := by decide +kernel
theorem dX5_eye_18 : decode cX5_eye 18 = .ok (.iadd, 1) := by decide +kernel
theorem dX5_eye_19 : decode cX5_eye 19 = .ok (.iconst 1, 1) := by decide +kernel
theorem dX5_eye_20 : decode cX5_eye 20 = .ok (.iadd, 1) := by decide +kernel
theorem dX5_eye_21 : decode cX5_eye 21 = .ok (.iaload, 1) := by decide +kernel
theorem dX5_eye_22 : decode cX5_eye 22 = .ok (.iadd, 1) := by decide +kernel
theorem dX5_eye_23 : decode cX5_eye 23 = .ok (.ireturn, 1) := by decide +kernel
theorem dX5_feed_0 : decode cX5_feed 0 = .ok (.iload_n 2, 1) := by decide +kernel
theorem dX5_feed_1 : decode cX5_feed 1 = .ok (.i2l, 1) := by decide +kernel
theorem dX5_feed_2 : decode cX5_feed 2 = .ok (.lconst 1, 1) := by decide +kernel
theorem dX5_feed_3 : decode cX5_feed 3 = .ok (.ldc2_w 85, 3) := by decide +kernel
theorem dX5_feed_6 : decode cX5_feed 6 = .ok (.invokestatic 46, 3) := by decide +kernel
theorem dX5_feed_9 : decode cX5_feed 9 = .ok (.ifCond .ne 10, 3) := by decide +kernel
theorem dX5_feed_12 : decode cX5_feed 12 = .ok (.aload_n 0, 1) := by decide +kernel
theorem dX5_feed_13 : decode cX5_feed 13 = .ok (.ldc 43, 2) := by decide +kernel
theorem dX5_feed_15 : decode cX5_feed 15 = .ok (.invokevirtual 75, 3) := by decide +kernel
theorem dX5_feed_18 : decode cX5_feed 18 = .ok (.ireturn, 1) := by decide +kernel
theorem dX5_feed_19 : decode cX5_feed 19 = .ok (.aload_n 0, 1) := by decide +kernel
theorem dX5_feed_20 : decode cX5_feed 20 = .ok (.getfield 204, 3) := by decide +kernel
theorem dX5_feed_23 : decode cX5_feed 23 = .ok (.iload_n 2, 1) := by decide +kernel
theorem dX5_feed_24 : decode cX5_feed 24 = .ok (.iadd, 1) := by decide +kernel
theorem dX5_feed_25 : decode cX5_feed 25 = .ok (.bipush 120, 2) := by decide +kernel
theorem dX5_feed_27 : decode cX5_feed 27 = .ok (.if_icmp .le 10, 3) := by decide +kernel
theorem dX5_feed_30 : decode cX5_feed 30 = .ok (.aload_n 0, 1) := by decide +kernel
theorem dX5_feed_31 : decode cX5_feed 31 = .ok (.ldc 99, 2) := by decide +kernel
theorem dX5_feed_33 : decode cX5_feed 33 = .ok (.invokevirtual 75, 3) := by decide +kernel
theorem dX5_feed_36 : decode cX5_feed 36 = .ok (.ireturn, 1) := by decide +kernel
theorem dX5_feed_37 : decode cX5_feed 37 = .ok (.iload_n 2, 1) := by decide +kernel
theorem dX5_feed_38 : decode cX5_feed 38 = .ok (.iconst 1, 1) := by decide +kernel
theorem dX5_feed_39 : decode cX5_feed 39 = .ok (.isub, 1) := by decide +kernel
theorem dX5_feed_40 : decode cX5_feed 40 = .ok (.istore_n 3, 1) := by decide +kernel
theorem dX5_feed_41 : decode cX5_feed 41 = .ok (.iload_n 3, 1) := by decide +kernel
theorem dX5_feed_42 : decode cX5_feed 42 = .ok (.ifCond .lt 38, 3) := by decide +kernel
theorem dX5_feed_45 : decode cX5_feed 45 = .ok (.aload_n 0, 1) := by decide +kernel
theorem dX5_feed_46 : decode cX5_feed 46 = .ok (.getfield 28, 3) := by decide +kernel
theorem dX5_feed_49 : decode cX5_feed 49 = .ok (.aload_n 0, 1) := by decide +kernel
theorem dX5_feed_50 : decode cX5_feed 50 = .ok (.getfield 204, 3) := by decide +kernel
theorem dX5_feed_53 : decode cX5_feed 53 = .ok (.iload_n 1, 1) := by decide +kernel
theorem dX5_feed_54 : decode cX5_feed 54 = .ok (.bipush 8, 2) := by decide +kernel
theorem dX5_feed_56 : decode cX5_feed 56 = .ok (.iload_n 3, 1) := by decide +kernel
theorem dX5_feed_57 : decode cX5_feed 57 = .ok (.imul, 1) := by decide +kernel
theorem dX5_feed_58 : decode cX5_feed 58 = .ok (.ishr, 1) := by decide +kernel
theorem dX5_feed_59 : decode cX5_feed 59 = .ok (.sipush 255, 3) := by decide +kernel
theorem dX5_feed_62 : decode cX5_feed 62 = .ok (.iand, 1) := by decide +kernel
theorem dX5_feed_63 : decode cX5_feed 63 = .ok (.iastore, 1) := by decide +kernel
theorem dX5_feed_64 : decode cX5_feed 64 = .ok (.aload_n 0, 1) := by decide +kernel
theorem dX5_feed_65 : decode cX5_feed 65 = .ok (.dup, 1) := by decide +kernel
theorem dX5_feed_66 : decode cX5_feed 66 = .ok (.getfield 204, 3) := by decide +kernel
theorem dX5_feed_69 : decode cX5_feed 69 = .ok (.iconst 1, 1) := by decide +kernel
theorem dX5_feed_70 : decode cX5_feed 70 = .ok (.iadd, 1) := by decide +kernel
theorem dX5_feed_71 : decode cX5_feed 71 = .ok (.putfield 204, 3) := by decide +kernel
theorem dX5_feed_74 : decode cX5_feed 74 = .ok (.iinc 3 (-1), 3) := by decide +kernel
theorem dX5_feed_77 : decode cX5_feed 77 = .ok (.goto (-36), 3) := by decide +kernel
theorem dX5_feed_80 : decode cX5_feed 80 = .ok (.aload_n 0, 1) := by decide +kernel
theorem dX5_feed_81 : decode cX5_feed 81 = .ok (.getfield 204, 3) := by decide +kernel
theorem dX5_feed_84 : decode cX5_feed 84 = .ok (.ireturn, 1) := by decide +kernel
theorem dX5_findHeights_0 : decode cX5_findHeights 0 = .ok (.aload_n 0, 1) := by decide +kernel
theorem dX5_findHeights_1 : decode cX5_findHeights 1 = .ok (.iload_n 1, 1) := by decide +kernel
theorem dX5_findHeights_2 : decode cX5_findHeights 2 = .ok (.invokevirtual 70, 3) := by decide +kernel
theorem dX5_findHeights_5 : decode cX5_findHeights 5 = .ok (.istore 4, 2) := by decide +kernel
theorem dX5_findHeights_7 : decode cX5_findHeights 7 = .ok (.aload_n 0, 1) := by decide +kernel
theorem dX5_findHeights_8 : decode cX5_findHeights 8 = .ok (.iconst 0, 1) := by decide +kernel
theorem dX5_findHeights_9 : decode cX5_findHeights 9 = .ok (.putfield 185, 3) := by decide +kernel
theorem dX5_findHeights_12 : decode cX5_findHeights 12 = .ok (.aload_n 0, 1) := by decide +kernel
theorem dX5_findHeights_13 : decode cX5_findHeights 13 = .ok (.iconst (-1), 1) := by decide +kernel
theorem dX5_findHeights_14 : decode cX5_findHeights 14 = .ok (.putfield 189, 3) := by decide +kernel
theorem dX5_findHeights_17 : decode cX5_findHeights 17 = .ok (.aload_n 0, 1) := by decide +kernel
theorem dX5_findHeights_18 : decode cX5_findHeights 18 = .ok (.iconst (-1), 1) := by decide +kernel
theorem dX5_findHeights_19 : decode cX5_findHeights 19 = .ok (.putfield 192, 3) := by decide +kernel
theorem dX5_findHeights_22 : decode cX5_findHeights 22 = .ok (.iconst 0, 1) := by decide +kernel
theorem dX5_findHeights_23 : decode cX5_findHeights 23 = .ok (.istore 5, 2) := by decide +kernel
theorem dX5_findHeights_25 : decode cX5_findHeights 25 = .ok (.iload 5, 2) := by decide +kernel
theorem dX5_findHeights_27 : decode cX5_findHeights 27 = .ok (.bipush 100, 2) := by decide +kernel
theorem dX5_findHeights_29 : decode cX5_findHeights 29 = .ok (.if_icmp .ge 68, 3) := by decide +kernel
theorem dX5_findHeights_32 : decode cX5_findHeights 32 = .ok (.aload_n 0, 1) := by decide +kernel
theorem dX5_findHeights_33 : decode cX5_findHeights 33 = .ok (.getfield 7, 3) := by decide +kernel
theorem dX5_findHeights_36 : decode cX5_findHeights 36 = .ok (.iconst 5, 1) := by decide +kernel
theorem dX5_findHeights_37 : decode cX5_findHeights 37 = .ok (.iconst 3, 1) := by decide +kernel
theorem dX5_findHeights_38 : decode cX5_findHeights 38 = .ok (.iload_n 1, 1) := by decide +kernel
theorem dX5_findHeights_39 : decode cX5_findHeights 39 = .ok (.imul, 1) := by decide +kernel
theorem dX5_findHeights_40 : decode cX5_findHeights 40 = .ok (.iadd, 1) := by decide +kernel
theorem dX5_findHeights_41 : decode cX5_findHeights 41 = .ok (.iconst 1, 1) := by decide +kernel
theorem dX5_findHeights_42 : decode cX5_findHeights 42 = .ok (.iadd, 1) := by decide +kernel
theorem dX5_findHeights_43 : decode cX5_findHeights 43 = .ok (.iload 5, 2) := by decide +kernel
theorem dX5_findHeights_45 : decode cX5_findHeights 45 = .ok (.iastore, 1) := by decide +kernel
theorem dX5_findHeights_46 : decode cX5_findHeights 46 = .ok (.aload_n 0, 1) := by decide +kernel
theorem dX5_findHeights_47 : decode cX5_findHeights 47 = .ok (.iload_n 2, 1) := by decide +kernel
theorem dX5_findHeights_48 : decode cX5_findHeights 48 = .ok (.invokevirtual 146, 3) := by decide +kernel
theorem dX5_findHeights_51 : decode cX5_findHeights 51 = .ok (.iload_n 3, 1) := by decide +kernel
theorem dX5_findHeights_52 : decode cX5_findHeights 52 = .ok (.if_icmp .ne 39, 3) := by decide +kernel
theorem dX5_findHeights_55 : decode cX5_findHeights 55 = .ok (.aload_n 0, 1) := by decide +kernel
theorem dX5_findHeights_56 : decode cX5_findHeights 56 = .ok (.dup, 1) := by decide +kernel
theorem dX5_findHeights_57 : decode cX5_findHeights 57 = .ok (.getfield 185, 3) := by decide +kernel
theorem dX5_findHeights_60 : decode cX5_findHeights 60 = .ok (.iconst 1, 1) := by decide +kernel
theorem dX5_findHeights_61 : decode cX5_findHeights 61 = .ok (.iadd, 1) := by decide +kernel
theorem dX5_findHeights_62 : decode cX5_findHeights 62 = .ok (.putfield 185, 3) := by decide +kernel
theorem dX5_findHeights_65 : decode cX5_findHeights 65 = .ok (.aload_n 0, 1) := by decide +kernel
theorem dX5_findHeights_66 : decode cX5_findHeights 66 = .ok (.aload_n 0, 1) := by decide +kernel
theorem dX5_findHeights_67 : decode cX5_findHeights 67 = .ok (.getfield 189, 3) := by decide +kernel
theorem dX5_findHeights_70 : decode cX5_findHeights 70 = .ok (.ifCond .ge 8, 3) := by decide +kernel
theorem dX5_findHeights_73 : decode cX5_findHeights 73 = .ok (.iload 5, 2) := by decide +kernel
theorem dX5_findHeights_75 : decode cX5_findHeights 75 = .ok (.goto 7, 3) := by decide +kernel
theorem dX5_findHeights_78 : decode cX5_findHeights 78 = .ok (.aload_n 0, 1) := by decide +kernel
theorem dX5_findHeights_79 : decode cX5_findHeights 79 = .ok (.getfield 189, 3) := by decide +kernel
theorem dX5_findHeights_82 : decode cX5_findHeights 82 = .ok (.putfield 189, 3) := by decide +kernel
theorem dX5_findHeights_85 : decode cX5_findHeights 85 = .ok (.aload_n 0, 1) := by decide +kernel
theorem dX5_findHeights_86 : decode cX5_findHeights 86 = .ok (.iload 5, 2) := by decide +kernel
theorem dX5_findHeights_88 : decode cX5_findHeights 88 = .ok (.putfield 192, 3) := by decide +kernel
theorem dX5_findHeights_91 : decode cX5_findHeights 91 = .ok (.iinc 5 1, 3) := by decide +kernel
theorem dX5_findHeights_94 : decode cX5_findHeights 94 = .ok (.goto (-69), 3) := by decide +kernel
theorem dX5_findHeights_97 : decode cX5_findHeights 97 = .ok (.aload_n 0, 1) := by decide +kernel
theorem dX5_findHeights_98 : decode cX5_findHeights 98 = .ok (.getfield 7, 3) := by decide +kernel
theorem dX5_findHeights_101 : decode cX5_findHeights 101 = .ok (.iconst 5, 1) := by decide +kernel
theorem dX5_findHeights_102 : decode cX5_findHeights 102 = .ok (.iconst 3, 1) := by decide +kernel
theorem dX5_findHeights_103 : decode cX5_findHeights 103 = .ok (.iload_n 1, 1) := by decide +kernel
theorem dX5_findHeights_104 : decode cX5_findHeights 104 = .ok (.imul, 1) := by decide +kernel
theorem dX5_findHeights_105 : decode cX5_findHeights 105 = .ok (.iadd, 1) := by decide +kernel
theorem dX5_findHeights_106 : decode cX5_findHeights 106 = .ok (.iconst 1, 1) := by decide +kernel
theorem dX5_findHeights_107 : decode cX5_findHeights 107 = .ok (.iadd, 1) := by decide +kernel
theorem dX5_findHeights_108 : decode cX5_findHeights 108 = .ok (.iload 4, 2) := by decide +kernel
theorem dX5_findHeights_110 : decode cX5_findHeights 110 = .ok (.iastore, 1) := by decide +kernel
theorem dX5_findHeights_111 : decode cX5_findHeights 111 = .ok (.return_, 1) := by decide +kernel
theorem dX5_findSights_0 : decode cX5_findSights 0 = .ok (.iconst 0, 1) := by decide +kernel
theorem dX5_findSights_1 : decode cX5_findSights 1 = .ok (.istore_n 1, 1) := by decide +kernel
theorem dX5_findSights_2 : decode cX5_findSights 2 = .ok (.iconst 0, 1) := by decide +kernel
theorem dX5_findSights_3 : decode cX5_findSights 3 = .ok (.istore_n 2, 1) := by decide +kernel
theorem dX5_findSights_4 : decode cX5_findSights 4 = .ok (.iload_n 2, 1) := by decide +kernel
theorem dX5_findSights_5 : decode cX5_findSights 5 = .ok (.aload_n 0, 1) := by decide +kernel
theorem dX5_findSights_6 : decode cX5_findSights 6 = .ok (.getfield 7, 3) := by decide +kernel
theorem dX5_findSights_9 : decode cX5_findSights 9 = .ok (.iconst 1, 1) := by decide +kernel
theorem dX5_findSights_10 : decode cX5_findSights 10 = .ok (.iaload, 1) := by decide +kernel
theorem dX5_findSights_11 : decode cX5_findSights 11 = .ok (.if_icmp .ge 29, 3) := by decide +kernel
theorem dX5_findSights_14 : decode cX5_findSights 14 = .ok (.aload_n 0, 1) := by decide +kernel
theorem dX5_findSights_15 : decode cX5_findSights 15 = .ok (.getfield 25, 3) := by decide +kernel
theorem dX5_findSights_18 : decode cX5_findSights 18 = .ok (.iload_n 2, 1) := by decide +kernel
theorem dX5_findSights_19 : decode cX5_findSights 19 = .ok (.aload_n 0, 1) := by decide +kernel
theorem dX5_findSights_20 : decode cX5_findSights 20 = .ok (.iload_n 2, 1) := by decide +kernel
theorem dX5_findSights_21 : decode cX5_findSights 21 = .ok (.invokevirtual 141, 3) := by decide +kernel
theorem dX5_findSights_24 : decode cX5_findSights 24 = .ok (.iastore, 1) := by decide +kernel
theorem dX5_findSights_25 : decode cX5_findSights 25 = .ok (.iload_n 1, 1) := by decide +kernel
theorem dX5_findSights_26 : decode cX5_findSights 26 = .ok (.aload_n 0, 1) := by decide +kernel
theorem dX5_findSights_27 : decode cX5_findSights 27 = .ok (.getfield 25, 3) := by decide +kernel
theorem dX5_findSights_30 : decode cX5_findSights 30 = .ok (.iload_n 2, 1) := by decide +kernel
theorem dX5_findSights_31 : decode cX5_findSights 31 = .ok (.iaload, 1) := by decide +kernel
theorem dX5_findSights_32 : decode cX5_findSights 32 = .ok (.ior, 1) := by decide +kernel
theorem dX5_findSights_33 : decode cX5_findSights 33 = .ok (.istore_n 1, 1) := by decide +kernel
theorem dX5_findSights_34 : decode cX5_findSights 34 = .ok (.iinc 2 1, 3) := by decide +kernel
theorem dX5_findSights_37 : decode cX5_findSights 37 = .ok (.goto (-33), 3) := by decide +kernel
theorem dX5_findSights_40 : decode cX5_findSights 40 = .ok (.iload_n 1, 1) := by decide +kernel
theorem dX5_findSights_41 : decode cX5_findSights 41 = .ok (.ireturn, 1) := by decide +kernel
theorem dX5_finds_0 : decode cX5_finds 0 = .ok (.aload_n 0, 1) := by decide +kernel
theorem dX5_finds_1 : decode cX5_finds 1 = .ok (.getfield 19, 3) := by decide +kernel
theorem dX5_finds_4 : decode cX5_finds 4 = .ok (.ldc 43, 2) := by decide +kernel
theorem dX5_finds_6 : decode cX5_finds 6 = .ok (.iload_n 1, 1) := by decide +kernel
theorem dX5_finds_7 : decode cX5_finds 7 = .ok (.isub, 1) := by decide +kernel
theorem dX5_finds_8 : decode cX5_finds 8 = .ok (.dup2, 1) := by decide +kernel
theorem dX5_finds_9 : decode cX5_finds 9 = .ok (.iaload, 1) := by decide +kernel
theorem dX5_finds_10 : decode cX5_finds 10 = .ok (.iconst 1, 1) := by decide +kernel
theorem dX5_finds_11 : decode cX5_finds 11 = .ok (.iadd, 1) := by decide +kernel
theorem dX5_finds_12 : decode cX5_finds 12 = .ok (.iastore, 1) := by decide +kernel
theorem dX5_finds_13 : decode cX5_finds 13 = .ok (.iload_n 1, 1) := by decide +kernel
theorem dX5_finds_14 : decode cX5_finds 14 = .ok (.ireturn, 1) := by decide +kernel
theorem dX5_floor_0 : decode cX5_floor 0 = .ok (.aload_n 0, 1) := by decide +kernel
theorem dX5_floor_1 : decode cX5_floor 1 = .ok (.iload_n 1, 1) := by decide +kernel
theorem dX5_floor_2 : decode cX5_floor 2 = .ok (.invokevirtual 104, 3) := by decide +kernel
theorem dX5_floor_5 : decode cX5_floor 5 = .ok (.ifCond .eq 10, 3) := by decide +kernel
theorem dX5_floor_8 : decode cX5_floor 8 = .ok (.iload_n 2, 1) := by decide +kernel
theorem dX5_floor_9 : decode cX5_floor 9 = .ok (.invokestatic 96, 3) := by decide +kernel
theorem dX5_floor_12 : decode cX5_floor 12 = .ok (.ifCond .ne 10, 3) := by decide +kernel
theorem dX5_floor_15 : decode cX5_floor 15 = .ok (.aload_n 0, 1) := by decide +kernel
theorem dX5_floor_16 : decode cX5_floor 16 = .ok (.ldc 43, 2) := by decide +kernel
theorem dX5_floor_18 : decode cX5_floor 18 = .ok (.invokevirtual 75, 3) := by decide +kernel
theorem dX5_floor_21 : decode cX5_floor 21 = .ok (.ireturn, 1) := by decide +kernel
theorem dX5_floor_22 : decode cX5_floor 22 = .ok (.aload_n 0, 1) := by decide +kernel
theorem dX5_floor_23 : decode cX5_floor 23 = .ok (.getfield 7, 3) := by decide +kernel
theorem dX5_floor_26 : decode cX5_floor 26 = .ok (.bipush 77, 2) := by decide +kernel
theorem dX5_floor_28 : decode cX5_floor 28 = .ok (.iconst 3, 1) := by decide +kernel
theorem dX5_floor_29 : decode cX5_floor 29 = .ok (.iload_n 1, 1) := by decide +kernel
theorem dX5_floor_30 : decode cX5_floor 30 = .ok (.imul, 1) := by decide +kernel
theorem dX5_floor_31 : decode cX5_floor 31 = .ok (.iadd, 1) := by decide +kernel
theorem dX5_floor_32 : decode cX5_floor 32 = .ok (.iconst 1, 1) := by decide +kernel
theorem dX5_floor_33 : decode cX5_floor 33 = .ok (.iadd, 1) := by decide +kernel
theorem dX5_floor_34 : decode cX5_floor 34 = .ok (.iaload, 1) := by decide +kernel
theorem dX5_floor_35 : decode cX5_floor 35 = .ok (.istore_n 3, 1) := by decide +kernel
theorem dX5_floor_36 : decode cX5_floor 36 = .ok (.aload_n 0, 1) := by decide +kernel
theorem dX5_floor_37 : decode cX5_floor 37 = .ok (.getfield 7, 3) := by decide +kernel
theorem dX5_floor_40 : decode cX5_floor 40 = .ok (.bipush 77, 2) := by decide +kernel
theorem dX5_floor_42 : decode cX5_floor 42 = .ok (.iconst 3, 1) := by decide +kernel
theorem dX5_floor_43 : decode cX5_floor 43 = .ok (.iload_n 1, 1) := by decide +kernel
theorem dX5_floor_44 : decode cX5_floor 44 = .ok (.imul, 1) := by decide +kernel
theorem dX5_floor_45 : decode cX5_floor 45 = .ok (.iadd, 1) := by decide +kernel
theorem dX5_floor_46 : decode cX5_floor 46 = .ok (.iconst 1, 1) := by decide +kernel
theorem dX5_floor_47 : decode cX5_floor 47 = .ok (.iadd, 1) := by decide +kernel
theorem dX5_floor_48 : decode cX5_floor 48 = .ok (.iload_n 2, 1) := by decide +kernel
theorem dX5_floor_49 : decode cX5_floor 49 = .ok (.iastore, 1) := by decide +kernel
theorem dX5_floor_50 : decode cX5_floor 50 = .ok (.iload_n 3, 1) := by decide +kernel
theorem dX5_floor_51 : decode cX5_floor 51 = .ok (.ireturn, 1) := by decide +kernel
theorem dX5_gains_0 : decode cX5_gains 0 = .ok (.iload_n 1, 1) := by decide +kernel
theorem dX5_gains_1 : decode cX5_gains 1 = .ok (.invokestatic 58, 3) := by decide +kernel
theorem dX5_gains_4 : decode cX5_gains 4 = .ok (.ifCond .eq 17, 3) := by decide +kernel
theorem dX5_gains_7 : decode cX5_gains 7 = .ok (.iload_n 2, 1) := by decide +kernel
theorem dX5_gains_8 : decode cX5_gains 8 = .ok (.invokestatic 78, 3) := by decide +kernel
theorem dX5_gains_11 : decode cX5_gains 11 = .ok (.ifCond .eq 10, 3) := by decide +kernel
theorem dX5_gains_14 : decode cX5_gains 14 = .ok (.iload_n 3, 1) := by decide +kernel
theorem dX5_gains_15 : decode cX5_gains 15 = .ok (.invokestatic 165, 3) := by decide +kernel
theorem dX5_gains_18 : decode cX5_gains 18 = .ok (.ifCond .ne 10, 3) := by decide +kernel
theorem dX5_gains_21 : decode cX5_gains 21 = .ok (.aload_n 0, 1) := by decide +kernel
theorem dX5_gains_22 : decode cX5_gains 22 = .ok (.ldc 43, 2) := by decide +kernel
theorem dX5_gains_24 : decode cX5_gains 24 = .ok (.invokevirtual 75, 3) := by decide +kernel
theorem dX5_gains_27 : decode cX5_gains 27 = .ok (.ireturn, 1) := by decide +kernel
theorem dX5_gains_28 : decode cX5_gains 28 = .ok (.aload_n 0, 1) := by decide +kernel
theorem dX5_gains_29 : decode cX5_gains 29 = .ok (.iload_n 3, 1) := by decide +kernel
theorem dX5_gains_30 : decode cX5_gains 30 = .ok (.invokevirtual 168, 3) := by decide +kernel
theorem dX5_gains_33 : decode cX5_gains 33 = .ok (.ifCond .eq 10, 3) := by decide +kernel
theorem dX5_gains_36 : decode cX5_gains 36 = .ok (.aload_n 0, 1) := by decide +kernel
theorem dX5_gains_37 : decode cX5_gains 37 = .ok (.ldc 144, 2) := by decide +kernel
theorem dX5_gains_39 : decode cX5_gains 39 = .ok (.invokevirtual 75, 3) := by decide +kernel
theorem dX5_gains_42 : decode cX5_gains 42 = .ok (.ireturn, 1) := by decide +kernel
theorem dX5_gains_43 : decode cX5_gains 43 = .ok (.aload_n 0, 1) := by decide +kernel
theorem dX5_gains_44 : decode cX5_gains 44 = .ok (.invokevirtual 171, 3) := by decide +kernel
theorem dX5_gains_47 : decode cX5_gains 47 = .ok (.aload_n 0, 1) := by decide +kernel
theorem dX5_gains_48 : decode cX5_gains 48 = .ok (.iload_n 3, 1) := by decide +kernel
theorem dX5_gains_49 : decode cX5_gains 49 = .ok (.invokevirtual 174, 3) := by decide +kernel
theorem dX5_gains_52 : decode cX5_gains 52 = .ok (.iconst 0, 1) := by decide +kernel
theorem dX5_gains_53 : decode cX5_gains 53 = .ok (.istore 4, 2) := by decide +kernel
theorem dX5_gains_55 : decode cX5_gains 55 = .ok (.iload 4, 2) := by decide +kernel
theorem dX5_gains_57 : decode cX5_gains 57 = .ok (.aload_n 0, 1) := by decide +kernel
theorem dX5_gains_58 : decode cX5_gains 58 = .ok (.getfield 7, 3) := by decide +kernel
theorem dX5_gains_61 : decode cX5_gains 61 = .ok (.iconst 1, 1) := by decide +kernel
theorem dX5_gains_62 : decode cX5_gains 62 = .ok (.iaload, 1) := by decide +kernel
theorem dX5_gains_63 : decode cX5_gains 63 = .ok (.if_icmp .ge 22, 3) := by decide +kernel
theorem dX5_gains_66 : decode cX5_gains 66 = .ok (.aload_n 0, 1) := by decide +kernel
theorem dX5_gains_67 : decode cX5_gains 67 = .ok (.getfield 22, 3) := by decide +kernel
theorem dX5_gains_70 : decode cX5_gains 70 = .ok (.iload 4, 2) := by decide +kernel
theorem dX5_gains_72 : decode cX5_gains 72 = .ok (.aload_n 0, 1) := by decide +kernel
theorem dX5_gains_73 : decode cX5_gains 73 = .ok (.iload 4, 2) := by decide +kernel
theorem dX5_gains_75 : decode cX5_gains 75 = .ok (.invokevirtual 146, 3) := by decide +kernel
theorem dX5_gains_78 : decode cX5_gains 78 = .ok (.iastore, 1) := by decide +kernel
theorem dX5_gains_79 : decode cX5_gains 79 = .ok (.iinc 4 1, 3) := by decide +kernel
theorem dX5_gains_82 : decode cX5_gains 82 = .ok (.goto (-27), 3) := by decide +kernel
theorem dX5_gains_85 : decode cX5_gains 85 = .ok (.aload_n 0, 1) := by decide +kernel
theorem dX5_gains_86 : decode cX5_gains 86 = .ok (.invokevirtual 178, 3) := by decide +kernel
theorem dX5_gains_89 : decode cX5_gains 89 = .ok (.aload_n 0, 1) := by decide +kernel
theorem dX5_gains_90 : decode cX5_gains 90 = .ok (.iload_n 1, 1) := by decide +kernel
theorem dX5_gains_91 : decode cX5_gains 91 = .ok (.iload_n 2, 1) := by decide +kernel
theorem dX5_gains_92 : decode cX5_gains 92 = .ok (.invokevirtual 81, 3) := by decide +kernel
theorem dX5_gains_95 : decode cX5_gains 95 = .ok (.aload_n 0, 1) := by decide +kernel
theorem dX5_gains_96 : decode cX5_gains 96 = .ok (.iload_n 3, 1) := by decide +kernel
theorem dX5_gains_97 : decode cX5_gains 97 = .ok (.invokevirtual 174, 3) := by decide +kernel
theorem dX5_gains_100 : decode cX5_gains 100 = .ok (.iconst 0, 1) := by decide +kernel
theorem dX5_gains_101 : decode cX5_gains 101 = .ok (.istore 4, 2) := by decide +kernel
theorem dX5_gains_103 : decode cX5_gains 103 = .ok (.iconst 0, 1) := by decide +kernel
theorem dX5_gains_104 : decode cX5_gains 104 = .ok (.istore 5, 2) := by decide +kernel
theorem dX5_gains_106 : decode cX5_gains 106 = .ok (.iload 5, 2) := by decide +kernel
theorem dX5_gains_108 : decode cX5_gains 108 = .ok (.aload_n 0, 1) := by decide +kernel
theorem dX5_gains_109 : decode cX5_gains 109 = .ok (.getfield 7, 3) := by decide +kernel
theorem dX5_gains_112 : decode cX5_gains 112 = .ok (.iconst 1, 1) := by decide +kernel
theorem dX5_gains_113 : decode cX5_gains 113 = .ok (.iaload, 1) := by decide +kernel
theorem dX5_gains_114 : decode cX5_gains 114 = .ok (.if_icmp .ge 38, 3) := by decide +kernel
theorem dX5_gains_117 : decode cX5_gains 117 = .ok (.iload 4, 2) := by decide +kernel
theorem dX5_gains_119 : decode cX5_gains 119 = .ok (.aload_n 0, 1) := by decide +kernel
theorem dX5_gains_120 : decode cX5_gains 120 = .ok (.iload 5, 2) := by decide +kernel
theorem dX5_gains_122 : decode cX5_gains 122 = .ok (.invokevirtual 146, 3) := by decide +kernel
theorem dX5_gains_125 : decode cX5_gains 125 = .ok (.aload_n 0, 1) := by decide +kernel
theorem dX5_gains_126 : decode cX5_gains 126 = .ok (.getfield 22, 3) := by decide +kernel
theorem dX5_gains_129 : decode cX5_gains 129 = .ok (.iload 5, 2) := by decide +kernel
theorem dX5_gains_131 : decode cX5_gains 131 = .ok (.iaload, 1) := by decide +kernel
theorem dX5_gains_132 : decode cX5_gains 132 = .ok (.if_icmp .ge 10, 3) := by decide +kernel
theorem dX5_gains_135 : decode cX5_gains 135 = .ok (.iconst 1, 1) := by decide +kernel
theorem dX5_gains_136 : decode cX5_gains 136 = .ok (.iload 5, 2) := by decide +kernel
theorem dX5_gains_138 : decode cX5_gains 138 = .ok (.ishl, 1) := by decide +kernel
theorem dX5_gains_139 : decode cX5_gains 139 = .ok (.goto 4, 3) := by decide +kernel
theorem dX5_gains_142 : decode cX5_gains 142 = .ok (.iconst 0, 1) := by decide +kernel
theorem dX5_gains_143 : decode cX5_gains 143 = .ok (.ior, 1) := by decide +kernel
theorem dX5_gains_144 : decode cX5_gains 144 = .ok (.istore 4, 2) := by decide +kernel
theorem dX5_gains_146 : decode cX5_gains 146 = .ok (.iinc 5 1, 3) := by decide +kernel
theorem dX5_gains_149 : decode cX5_gains 149 = .ok (.goto (-43), 3) := by decide +kernel
theorem dX5_gains_152 : decode cX5_gains 152 = .ok (.aload_n 0, 1) := by decide +kernel
theorem dX5_gains_153 : decode cX5_gains 153 = .ok (.invokevirtual 178, 3) := by decide +kernel
theorem dX5_gains_156 : decode cX5_gains 156 = .ok (.iload 4, 2) := by decide +kernel
theorem dX5_gains_158 : decode cX5_gains 158 = .ok (.ireturn, 1) := by decide +kernel
theorem dX5_has_0 : decode cX5_has 0 = .ok (.iload_n 0, 1) := by decide +kernel
theorem dX5_has_1 : decode cX5_has 1 = .ok (.iload_n 1, 1) := by decide +kernel
theorem dX5_has_2 : decode cX5_has 2 = .ok (.ishr, 1) := by decide +kernel
theorem dX5_has_3 : decode cX5_has 3 = .ok (.iconst 1, 1) := by decide +kernel
theorem dX5_has_4 : decode cX5_has 4 = .ok (.iand, 1) := by decide +kernel
theorem dX5_has_5 : decode cX5_has 5 = .ok (.iconst 1, 1) := by decide +kernel
theorem dX5_has_6 : decode cX5_has 6 = .ok (.if_icmp .ne 7, 3) := by decide +kernel
theorem dX5_has_9 : decode cX5_has 9 = .ok (.iconst 1, 1) := by decide +kernel
theorem dX5_has_10 : decode cX5_has 10 = .ok (.goto 4, 3) := by decide +kernel
theorem dX5_has_13 : decode cX5_has 13 = .ok (.iconst 0, 1) := by decide +kernel
theorem dX5_has_14 : decode cX5_has 14 = .ok (.ireturn, 1) := by decide +kernel
theorem dX5_height_0 : decode cX5_height 0 = .ok (.iload_n 1, 1) := by decide +kernel
theorem dX5_height_1 : decode cX5_height 1 = .ok (.invokestatic 58, 3) := by decide +kernel
theorem dX5_height_4 : decode cX5_height 4 = .ok (.ifCond .eq 29, 3) := by decide +kernel
theorem dX5_height_7 : decode cX5_height 7 = .ok (.aload_n 0, 1) := by decide +kernel
theorem dX5_height_8 : decode cX5_height 8 = .ok (.iload_n 2, 1) := by decide +kernel
theorem dX5_height_9 : decode cX5_height 9 = .ok (.invokevirtual 104, 3) := by decide +kernel
theorem dX5_height_12 : decode cX5_height 12 = .ok (.ifCond .eq 21, 3) := by decide +kernel
theorem dX5_height_15 : decode cX5_height 15 = .ok (.iload_n 3, 1) := by decide +kernel
theorem dX5_height_16 : decode cX5_height 16 = .ok (.invokestatic 159, 3) := by decide +kernel
theorem dX5_height_19 : decode cX5_height 19 = .ok (.ifCond .eq 14, 3) := by decide +kernel
theorem dX5_height_22 : decode cX5_height 22 = .ok (.iload 4, 2) := by decide +kernel
theorem dX5_height_24 : decode cX5_height 24 = .ok (.i2l, 1) := by decide +kernel
theorem dX5_height_25 : decode cX5_height 25 = .ok (.lconst 0, 1) := by decide +kernel
theorem dX5_height_26 : decode cX5_height 26 = .ok (.lconst 1, 1) := by decide +kernel
theorem dX5_height_27 : decode cX5_height 27 = .ok (.invokestatic 46, 3) := by decide +kernel
theorem dX5_height_30 : decode cX5_height 30 = .ok (.ifCond .ne 10, 3) := by decide +kernel
theorem dX5_height_33 : decode cX5_height 33 = .ok (.aload_n 0, 1) := by decide +kernel
theorem dX5_height_34 : decode cX5_height 34 = .ok (.ldc 43, 2) := by decide +kernel
theorem dX5_height_36 : decode cX5_height 36 = .ok (.invokevirtual 75, 3) := by decide +kernel
theorem dX5_height_39 : decode cX5_height 39 = .ok (.ireturn, 1) := by decide +kernel
theorem dX5_height_40 : decode cX5_height 40 = .ok (.aload_n 0, 1) := by decide +kernel
theorem dX5_height_41 : decode cX5_height 41 = .ok (.iload_n 1, 1) := by decide +kernel
theorem dX5_height_42 : decode cX5_height 42 = .ok (.iload_n 2, 1) := by decide +kernel
theorem dX5_height_43 : decode cX5_height 43 = .ok (.iload_n 3, 1) := by decide +kernel
theorem dX5_height_44 : decode cX5_height 44 = .ok (.invokevirtual 195, 3) := by decide +kernel
theorem dX5_height_47 : decode cX5_height 47 = .ok (.aload_n 0, 1) := by decide +kernel
theorem dX5_height_48 : decode cX5_height 48 = .ok (.getfield 185, 3) := by decide +kernel
theorem dX5_height_51 : decode cX5_height 51 = .ok (.ifCond .ne 12, 3) := by decide +kernel
theorem dX5_height_54 : decode cX5_height 54 = .ok (.aload_n 0, 1) := by decide +kernel
theorem dX5_height_55 : decode cX5_height 55 = .ok (.ldc 145, 2) := by decide +kernel
theorem dX5_height_57 : decode cX5_height 57 = .ok (.invokevirtual 75, 3) := by decide +kernel
theorem dX5_height_60 : decode cX5_height 60 = .ok (.goto 19, 3) := by decide +kernel
theorem dX5_height_63 : decode cX5_height 63 = .ok (.iload 4, 2) := by decide +kernel
theorem dX5_height_65 : decode cX5_height 65 = .ok (.ifCond .ne 10, 3) := by decide +kernel
theorem dX5_height_68 : decode cX5_height 68 = .ok (.aload_n 0, 1) := by decide +kernel
theorem dX5_height_69 : decode cX5_height 69 = .ok (.getfield 189, 3) := by decide +kernel
theorem dX5_height_72 : decode cX5_height 72 = .ok (.goto 7, 3) := by decide +kernel
theorem dX5_height_75 : decode cX5_height 75 = .ok (.aload_n 0, 1) := by decide +kernel
theorem dX5_height_76 : decode cX5_height 76 = .ok (.getfield 192, 3) := by decide +kernel
theorem dX5_height_79 : decode cX5_height 79 = .ok (.ireturn, 1) := by decide +kernel
theorem dX5_heightOf_0 : decode cX5_heightOf 0 = .ok (.aload_n 0, 1) := by decide +kernel
theorem dX5_heightOf_1 : decode cX5_heightOf 1 = .ok (.getfield 7, 3) := by decide +kernel
theorem dX5_heightOf_4 : decode cX5_heightOf 4 = .ok (.iconst 5, 1) := by decide +kernel
theorem dX5_heightOf_5 : decode cX5_heightOf 5 = .ok (.iconst 3, 1) := by decide +kernel
theorem dX5_heightOf_6 : decode cX5_heightOf 6 = .ok (.iload_n 1, 1) := by decide +kernel
theorem dX5_heightOf_7 : decode cX5_heightOf 7 = .ok (.imul, 1) := by decide +kernel
theorem dX5_heightOf_8 : decode cX5_heightOf 8 = .ok (.iadd, 1) := by decide +kernel
theorem dX5_heightOf_9 : decode cX5_heightOf 9 = .ok (.iconst 1, 1) := by decide +kernel
theorem dX5_heightOf_10 : decode cX5_heightOf 10 = .ok (.iadd, 1) := by decide +kernel
theorem dX5_heightOf_11 : decode cX5_heightOf 11 = .ok (.iaload, 1) := by decide +kernel
theorem dX5_heightOf_12 : decode cX5_heightOf 12 = .ok (.ireturn, 1) := by decide +kernel
theorem dX5_heights_0 : decode cX5_heights 0 = .ok (.iload_n 1, 1) := by decide +kernel
theorem dX5_heights_1 : decode cX5_heights 1 = .ok (.invokestatic 58, 3) := by decide +kernel
theorem dX5_heights_4 : decode cX5_heights 4 = .ok (.ifCond .eq 18, 3) := by decide +kernel
theorem dX5_heights_7 : decode cX5_heights 7 = .ok (.aload_n 0, 1) := by decide +kernel
theorem dX5_heights_8 : decode cX5_heights 8 = .ok (.iload_n 2, 1) := by decide +kernel
theorem dX5_heights_9 : decode cX5_heights 9 = .ok (.invokevirtual 104, 3) := by decide +kernel
theorem dX5_heights_12 : decode cX5_heights 12 = .ok (.ifCond .eq 10, 3) := by decide +kernel
theorem dX5_heights_15 : decode cX5_heights 15 = .ok (.iload_n 3, 1) := by decide +kernel
theorem dX5_heights_16 : decode cX5_heights 16 = .ok (.invokestatic 159, 3) := by decide +kernel
theorem dX5_heights_19 : decode cX5_heights 19 = .ok (.ifCond .ne 10, 3) := by decide +kernel
theorem dX5_heights_22 : decode cX5_heights 22 = .ok (.aload_n 0, 1) := by decide +kernel
theorem dX5_heights_23 : decode cX5_heights 23 = .ok (.ldc 43, 2) := by decide +kernel
theorem dX5_heights_25 : decode cX5_heights 25 = .ok (.invokevirtual 75, 3) := by decide +kernel
theorem dX5_heights_28 : decode cX5_heights 28 = .ok (.ireturn, 1) := by decide +kernel
theorem dX5_heights_29 : decode cX5_heights 29 = .ok (.aload_n 0, 1) := by decide +kernel
theorem dX5_heights_30 : decode cX5_heights 30 = .ok (.iload_n 1, 1) := by decide +kernel
theorem dX5_heights_31 : decode cX5_heights 31 = .ok (.iload_n 2, 1) := by decide +kernel
theorem dX5_heights_32 : decode cX5_heights 32 = .ok (.iload_n 3, 1) := by decide +kernel
theorem dX5_heights_33 : decode cX5_heights 33 = .ok (.invokevirtual 195, 3) := by decide +kernel
theorem dX5_heights_36 : decode cX5_heights 36 = .ok (.aload_n 0, 1) := by decide +kernel
theorem dX5_heights_37 : decode cX5_heights 37 = .ok (.getfield 185, 3) := by decide +kernel
theorem dX5_heights_40 : decode cX5_heights 40 = .ok (.ireturn, 1) := by decide +kernel
theorem dX5_hidden_0 : decode cX5_hidden 0 = .ok (.aload_n 0, 1) := by decide +kernel
theorem dX5_hidden_1 : decode cX5_hidden 1 = .ok (.iload_n 1, 1) := by decide +kernel
theorem dX5_hidden_2 : decode cX5_hidden 2 = .ok (.invokevirtual 104, 3) := by decide +kernel
theorem dX5_hidden_5 : decode cX5_hidden 5 = .ok (.ifCond .eq 10, 3) := by decide +kernel
theorem dX5_hidden_8 : decode cX5_hidden 8 = .ok (.iload_n 2, 1) := by decide +kernel
theorem dX5_hidden_9 : decode cX5_hidden 9 = .ok (.invokestatic 58, 3) := by decide +kernel
theorem dX5_hidden_12 : decode cX5_hidden 12 = .ok (.ifCond .ne 10, 3) := by decide +kernel
theorem dX5_hidden_15 : decode cX5_hidden 15 = .ok (.aload_n 0, 1) := by decide +kernel
theorem dX5_hidden_16 : decode cX5_hidden 16 = .ok (.ldc 43, 2) := by decide +kernel
theorem dX5_hidden_18 : decode cX5_hidden 18 = .ok (.invokevirtual 75, 3) := by decide +kernel
theorem dX5_hidden_21 : decode cX5_hidden 21 = .ok (.ireturn, 1) := by decide +kernel
theorem dX5_hidden_22 : decode cX5_hidden 22 = .ok (.aload_n 0, 1) := by decide +kernel
theorem dX5_hidden_23 : decode cX5_hidden 23 = .ok (.iload_n 1, 1) := by decide +kernel
theorem dX5_hidden_24 : decode cX5_hidden 24 = .ok (.iload_n 2, 1) := by decide +kernel
theorem dX5_hidden_25 : decode cX5_hidden 25 = .ok (.invokevirtual 134, 3) := by decide +kernel
theorem dX5_hidden_28 : decode cX5_hidden 28 = .ok (.ifCond .ne 10, 3) := by decide +kernel
theorem dX5_hidden_31 : decode cX5_hidden 31 = .ok (.aload_n 0, 1) := by decide +kernel
theorem dX5_hidden_32 : decode cX5_hidden 32 = .ok (.ldc 144, 2) := by decide +kernel
theorem dX5_hidden_34 : decode cX5_hidden 34 = .ok (.invokevirtual 75, 3) := by decide +kernel
theorem dX5_hidden_37 : decode cX5_hidden 37 = .ok (.ireturn, 1) := by decide +kernel
theorem dX5_hidden_38 : decode cX5_hidden 38 = .ok (.aload_n 0, 1) := by decide +kernel
theorem dX5_hidden_39 : decode cX5_hidden 39 = .ok (.iload_n 1, 1) := by decide +kernel
theorem dX5_hidden_40 : decode cX5_hidden 40 = .ok (.iload_n 2, 1) := by decide +kernel
theorem dX5_hidden_41 : decode cX5_hidden 41 = .ok (.invokevirtual 137, 3) := by decide +kernel
theorem dX5_hidden_44 : decode cX5_hidden 44 = .ok (.istore_n 3, 1) := by decide +kernel
theorem dX5_hidden_45 : decode cX5_hidden 45 = .ok (.iload_n 3, 1) := by decide +kernel
theorem dX5_hidden_46 : decode cX5_hidden 46 = .ok (.ifCond .ge 12, 3) := by decide +kernel
theorem dX5_hidden_49 : decode cX5_hidden 49 = .ok (.aload_n 0, 1) := by decide +kernel
theorem dX5_hidden_50 : decode cX5_hidden 50 = .ok (.ldc 145, 2) := by decide +kernel
theorem dX5_hidden_52 : decode cX5_hidden 52 = .ok (.invokevirtual 75, 3) := by decide +kernel
theorem dX5_hidden_55 : decode cX5_hidden 55 = .ok (.goto 4, 3) := by decide +kernel
theorem dX5_hidden_58 : decode cX5_hidden 58 = .ok (.iload_n 3, 1) := by decide +kernel
theorem dX5_hidden_59 : decode cX5_hidden 59 = .ok (.ireturn, 1) := by decide +kernel
theorem dX5_hider_0 : decode cX5_hider 0 = .ok (.iload_n 2, 1) := by decide +kernel
theorem dX5_hider_1 : decode cX5_hider 1 = .ok (.aload_n 0, 1) := by decide +kernel
theorem dX5_hider_2 : decode cX5_hider 2 = .ok (.iload_n 1, 1) := by decide +kernel
theorem dX5_hider_3 : decode cX5_hider 3 = .ok (.invokevirtual 93, 3) := by decide +kernel
theorem dX5_hider_6 : decode cX5_hider 6 = .ok (.if_icmp .le 7, 3) := by decide +kernel
theorem dX5_hider_9 : decode cX5_hider 9 = .ok (.iconst 1, 1) := by decide +kernel
theorem dX5_hider_10 : decode cX5_hider 10 = .ok (.goto 4, 3) := by decide +kernel
theorem dX5_hider_13 : decode cX5_hider 13 = .ok (.iconst (-1), 1) := by decide +kernel
theorem dX5_hider_14 : decode cX5_hider 14 = .ok (.istore_n 3, 1) := by decide +kernel
theorem dX5_hider_15 : decode cX5_hider 15 = .ok (.aload_n 0, 1) := by decide +kernel
theorem dX5_hider_16 : decode cX5_hider 16 = .ok (.iload_n 1, 1) := by decide +kernel
theorem dX5_hider_17 : decode cX5_hider 17 = .ok (.invokevirtual 93, 3) := by decide +kernel
theorem dX5_hider_20 : decode cX5_hider 20 = .ok (.iload_n 3, 1) := by decide +kernel
theorem dX5_hider_21 : decode cX5_hider 21 = .ok (.iadd, 1) := by decide +kernel
theorem dX5_hider_22 : decode cX5_hider 22 = .ok (.istore 4, 2) := by decide +kernel
theorem dX5_hider_24 : decode cX5_hider 24 = .ok (.iload 4, 2) := by decide +kernel
theorem dX5_hider_26 : decode cX5_hider 26 = .ok (.iload_n 2, 1) := by decide +kernel
theorem dX5_hider_27 : decode cX5_hider 27 = .ok (.if_icmp .eq 23, 3) := by decide +kernel
theorem dX5_hider_30 : decode cX5_hider 30 = .ok (.aload_n 0, 1) := by decide +kernel
theorem dX5_hider_31 : decode cX5_hider 31 = .ok (.iload_n 1, 1) := by decide +kernel
theorem dX5_hider_32 : decode cX5_hider 32 = .ok (.iload 4, 2) := by decide +kernel
theorem dX5_hider_34 : decode cX5_hider 34 = .ok (.iload_n 2, 1) := by decide +kernel
theorem dX5_hider_35 : decode cX5_hider 35 = .ok (.invokevirtual 130, 3) := by decide +kernel
theorem dX5_hider_38 : decode cX5_hider 38 = .ok (.ifCond .ne 12, 3) := by decide +kernel
theorem dX5_hider_41 : decode cX5_hider 41 = .ok (.iload 4, 2) := by decide +kernel
theorem dX5_hider_43 : decode cX5_hider 43 = .ok (.iload_n 3, 1) := by decide +kernel
theorem dX5_hider_44 : decode cX5_hider 44 = .ok (.iadd, 1) := by decide +kernel
theorem dX5_hider_45 : decode cX5_hider 45 = .ok (.istore 4, 2) := by decide +kernel
theorem dX5_hider_47 : decode cX5_hider 47 = .ok (.goto (-23), 3) := by decide +kernel
theorem dX5_hider_50 : decode cX5_hider 50 = .ok (.iload 4, 2) := by decide +kernel
theorem dX5_hider_52 : decode cX5_hider 52 = .ok (.iload_n 2, 1) := by decide +kernel
theorem dX5_hider_53 : decode cX5_hider 53 = .ok (.if_icmp .ne 7, 3) := by decide +kernel
theorem dX5_hider_56 : decode cX5_hider 56 = .ok (.iconst (-1), 1) := by decide +kernel
theorem dX5_hider_57 : decode cX5_hider 57 = .ok (.goto 5, 3) := by decide +kernel
theorem dX5_hider_60 : decode cX5_hider 60 = .ok (.iload 4, 2) := by decide +kernel
theorem dX5_hider_62 : decode cX5_hider 62 = .ok (.ireturn, 1) := by decide +kernel
theorem dX5_hold_0 : decode cX5_hold 0 = .ok (.iload_n 1, 1) := by decide +kernel
theorem dX5_hold_1 : decode cX5_hold 1 = .ok (.i2l, 1) := by decide +kernel
theorem dX5_hold_2 : decode cX5_hold 2 = .ok (.lconst 0, 1) := by decide +kernel
theorem dX5_hold_3 : decode cX5_hold 3 = .ok (.ldc2_w 304, 3) := by decide +kernel
theorem dX5_hold_6 : decode cX5_hold 6 = .ok (.invokestatic 46, 3) := by decide +kernel
theorem dX5_hold_9 : decode cX5_hold 9 = .ok (.ifCond .eq 17, 3) := by decide +kernel
theorem dX5_hold_12 : decode cX5_hold 12 = .ok (.iload_n 2, 1) := by decide +kernel
theorem dX5_hold_13 : decode cX5_hold 13 = .ok (.i2l, 1) := by decide +kernel
theorem dX5_hold_14 : decode cX5_hold 14 = .ok (.ldc2_w 306, 3) := by decide +kernel
theorem dX5_hold_17 : decode cX5_hold 17 = .ok (.ldc2_w 44, 3) := by decide +kernel
theorem dX5_hold_20 : decode cX5_hold 20 = .ok (.invokestatic 46, 3) := by decide +kernel
theorem dX5_hold_23 : decode cX5_hold 23 = .ok (.ifCond .ne 10, 3) := by decide +kernel
theorem dX5_hold_26 : decode cX5_hold 26 = .ok (.aload_n 0, 1) := by decide +kernel
theorem dX5_hold_27 : decode cX5_hold 27 = .ok (.ldc 43, 2) := by decide +kernel
theorem dX5_hold_29 : decode cX5_hold 29 = .ok (.invokevirtual 75, 3) := by decide +kernel
theorem dX5_hold_32 : decode cX5_hold 32 = .ok (.ireturn, 1) := by decide +kernel
theorem dX5_hold_33 : decode cX5_hold 33 = .ok (.aload_n 0, 1) := by decide +kernel
theorem dX5_hold_34 : decode cX5_hold 34 = .ok (.getfield 7, 3) := by decide +kernel
theorem dX5_hold_37 : decode cX5_hold 37 = .ok (.bipush 101, 2) := by decide +kernel
theorem dX5_hold_39 : decode cX5_hold 39 = .ok (.iload_n 1, 1) := by decide +kernel
theorem dX5_hold_40 : decode cX5_hold 40 = .ok (.iadd, 1) := by decide +kernel
theorem dX5_hold_41 : decode cX5_hold 41 = .ok (.iload_n 2, 1) := by decide +kernel
theorem dX5_hold_42 : decode cX5_hold 42 = .ok (.iastore, 1) := by decide +kernel
theorem dX5_hold_43 : decode cX5_hold 43 = .ok (.iconst 1, 1) := by decide +kernel
theorem dX5_hold_44 : decode cX5_hold 44 = .ok (.ireturn, 1) := by decide +kernel
theorem dX5_house_0 : decode cX5_house 0 = .ok (.iload_n 1, 1) := by decide +kernel
theorem dX5_house_1 : decode cX5_house 1 = .ok (.invokestatic 58, 3) := by decide +kernel
theorem dX5_house_4 : decode cX5_house 4 = .ok (.ifCond .eq 10, 3) := by decide +kernel
theorem dX5_house_7 : decode cX5_house 7 = .ok (.iload_n 2, 1) := by decide +kernel
theorem dX5_house_8 : decode cX5_house 8 = .ok (.invokestatic 96, 3) := by decide +kernel
theorem dX5_house_11 : decode cX5_house 11 = .ok (.ifCond .ne 10, 3) := by decide +kernel
theorem dX5_house_14 : decode cX5_house 14 = .ok (.aload_n 0, 1) := by decide +kernel
theorem dX5_house_15 : decode cX5_house 15 = .ok (.ldc 43, 2) := by decide +kernel
theorem dX5_house_17 : decode cX5_house 17 = .ok (.invokevirtual 75, 3) := by decide +kernel
theorem dX5_house_20 : decode cX5_house 20 = .ok (.ireturn, 1) := by decide +kernel
theorem dX5_house_21 : decode cX5_house 21 = .ok (.aload_n 0, 1) := by decide +kernel
theorem dX5_house_22 : decode cX5_house 22 = .ok (.getfield 7, 3) := by decide +kernel
theorem dX5_house_25 : decode cX5_house 25 = .ok (.iconst 1, 1) := by decide +kernel
theorem dX5_house_26 : decode cX5_house 26 = .ok (.iaload, 1) := by decide +kernel
theorem dX5_house_27 : decode cX5_house 27 = .ok (.bipush 8, 2) := by decide +kernel
theorem dX5_house_29 : decode cX5_house 29 = .ok (.if_icmp .ne 12, 3) := by decide +kernel
theorem dX5_house_32 : decode cX5_house 32 = .ok (.aload_n 0, 1) := by decide +kernel
theorem dX5_house_33 : decode cX5_house 33 = .ok (.ldc 99, 2) := by decide +kernel
theorem dX5_house_35 : decode cX5_house 35 = .ok (.invokevirtual 75, 3) := by decide +kernel
theorem dX5_house_38 : decode cX5_house 38 = .ok (.goto 10, 3) := by decide +kernel
theorem dX5_house_41 : decode cX5_house 41 = .ok (.aload_n 0, 1) := by decide +kernel
theorem dX5_house_42 : decode cX5_house 42 = .ok (.iload_n 1, 1) := by decide +kernel
theorem dX5_house_43 : decode cX5_house 43 = .ok (.iload_n 2, 1) := by decide +kernel
theorem dX5_house_44 : decode cX5_house 44 = .ok (.iconst 3, 1) := by decide +kernel
theorem dX5_house_45 : decode cX5_house 45 = .ok (.invokevirtual 100, 3) := by decide +kernel
theorem dX5_house_48 : decode cX5_house 48 = .ok (.ireturn, 1) := by decide +kernel
theorem dX5_houseItem_0 : decode cX5_houseItem 0 = .ok (.aload_n 0, 1) := by decide +kernel
theorem dX5_houseItem_1 : decode cX5_houseItem 1 = .ok (.aload_n 0, 1) := by decide +kernel
theorem dX5_houseItem_2 : decode cX5_houseItem 2 = .ok (.getfield 7, 3) := by decide +kernel
theorem dX5_houseItem_5 : decode cX5_houseItem 5 = .ok (.iconst 1, 1) := by decide +kernel
theorem dX5_houseItem_6 : decode cX5_houseItem 6 = .ok (.iaload, 1) := by decide +kernel
theorem dX5_houseItem_7 : decode cX5_houseItem 7 = .ok (.bipush 8, 2) := by decide +kernel
theorem dX5_houseItem_9 : decode cX5_houseItem 9 = .ok (.if_icmp .ge 7, 3) := by decide +kernel
theorem dX5_houseItem_12 : decode cX5_houseItem 12 = .ok (.iconst 1, 1) := by decide +kernel
theorem dX5_houseItem_13 : decode cX5_houseItem 13 = .ok (.goto 4, 3) := by decide +kernel
theorem dX5_houseItem_16 : decode cX5_houseItem 16 = .ok (.iconst 0, 1) := by decide +kernel
theorem dX5_houseItem_17 : decode cX5_houseItem 17 = .ok (.invokevirtual 244, 3) := by decide +kernel
theorem dX5_houseItem_20 : decode cX5_houseItem 20 = .ok (.aload_n 0, 1) := by decide +kernel
theorem dX5_houseItem_21 : decode cX5_houseItem 21 = .ok (.iconst 0, 1) := by decide +kernel
theorem dX5_houseItem_22 : decode cX5_houseItem 22 = .ok (.bipush 23, 2) := by decide +kernel
theorem dX5_houseItem_24 : decode cX5_houseItem 24 = .ok (.invokevirtual 266, 3) := by decide +kernel
theorem dX5_houseItem_27 : decode cX5_houseItem 27 = .ok (.aload_n 0, 1) := by decide +kernel
theorem dX5_houseItem_28 : decode cX5_houseItem 28 = .ok (.getfield 241, 3) := by decide +kernel
theorem dX5_houseItem_31 : decode cX5_houseItem 31 = .ok (.istore_n 1, 1) := by decide +kernel
theorem dX5_houseItem_32 : decode cX5_houseItem 32 = .ok (.aload_n 0, 1) := by decide +kernel
theorem dX5_houseItem_33 : decode cX5_houseItem 33 = .ok (.aload_n 0, 1) := by decide +kernel
theorem dX5_houseItem_34 : decode cX5_houseItem 34 = .ok (.invokevirtual 248, 3) := by decide +kernel
theorem dX5_houseItem_37 : decode cX5_houseItem 37 = .ok (.ldc2_w 278, 3) := by decide +kernel
theorem dX5_houseItem_40 : decode cX5_houseItem 40 = .ok (.lcmp, 1) := by decide +kernel
theorem dX5_houseItem_41 : decode cX5_houseItem 41 = .ok (.ifCond .ne 7, 3) := by decide +kernel
theorem dX5_houseItem_44 : decode cX5_houseItem 44 = .ok (.iconst 1, 1) := by decide +kernel
theorem dX5_houseItem_45 : decode cX5_houseItem 45 = .ok (.goto 4, 3) := by decide +kernel
theorem dX5_houseItem_48 : decode cX5_houseItem 48 = .ok (.iconst 0, 1) := by decide +kernel
theorem dX5_houseItem_49 : decode cX5_houseItem 49 = .ok (.invokevirtual 244, 3) := by decide +kernel
theorem dX5_houseItem_52 : decode cX5_houseItem 52 = .ok (.aload_n 0, 1) := by decide +kernel
theorem dX5_houseItem_53 : decode cX5_houseItem 53 = .ok (.iconst 1, 1) := by decide +kernel
theorem dX5_houseItem_54 : decode cX5_houseItem 54 = .ok (.bipush 40, 2) := by decide +kernel
theorem dX5_houseItem_56 : decode cX5_houseItem 56 = .ok (.invokevirtual 266, 3) := by decide +kernel
theorem dX5_houseItem_59 : decode cX5_houseItem 59 = .ok (.aload_n 0, 1) := by decide +kernel
theorem dX5_houseItem_60 : decode cX5_houseItem 60 = .ok (.getfield 241, 3) := by decide +kernel
theorem dX5_houseItem_63 : decode cX5_houseItem 63 = .ok (.istore_n 2, 1) := by decide +kernel
theorem dX5_houseItem_64 : decode cX5_houseItem 64 = .ok (.iconst 3, 1) := by decide +kernel
theorem dX5_houseItem_65 : decode cX5_houseItem 65 = .ok (.istore_n 3, 1) := by decide +kernel
theorem dX5_houseItem_66 : decode cX5_houseItem 66 = .ok (.aload_n 0, 1) := by decide +kernel
theorem dX5_houseItem_67 : decode cX5_houseItem 67 = .ok (.invokevirtual 248, 3) := by decide +kernel
theorem dX5_houseItem_70 : decode cX5_houseItem 70 = .ok (.ldc2_w 280, 3) := by decide +kernel
theorem dX5_houseItem_73 : decode cX5_houseItem 73 = .ok (.lcmp, 1) := by decide +kernel
theorem dX5_houseItem_74 : decode cX5_houseItem 74 = .ok (.ifCond .ne 62, 3) := by decide +kernel
theorem dX5_houseItem_77 : decode cX5_houseItem 77 = .ok (.aload_n 0, 1) := by decide +kernel
theorem dX5_houseItem_78 : decode cX5_houseItem 78 = .ok (.iconst 1, 1) := by decide +kernel
theorem dX5_houseItem_79 : decode cX5_houseItem 79 = .ok (.invokevirtual 244, 3) := by decide +kernel
theorem dX5_houseItem_82 : decode cX5_houseItem 82 = .ok (.aload_n 0, 1) := by decide +kernel
theorem dX5_houseItem_83 : decode cX5_houseItem 83 = .ok (.invokevirtual 248, 3) := by decide +kernel
theorem dX5_houseItem_86 : decode cX5_houseItem 86 = .ok (.ldc2_w 282, 3) := by decide +kernel
theorem dX5_houseItem_89 : decode cX5_houseItem 89 = .ok (.lcmp, 1) := by decide +kernel
theorem dX5_houseItem_90 : decode cX5_houseItem 90 = .ok (.ifCond .ne 7, 3) := by decide +kernel
theorem dX5_houseItem_93 : decode cX5_houseItem 93 = .ok (.iconst 1, 1) := by decide +kernel
theorem dX5_houseItem_94 : decode cX5_houseItem 94 = .ok (.goto 4, 3) := by decide +kernel
theorem dX5_houseItem_97 : decode cX5_houseItem 97 = .ok (.iconst 0, 1) := by decide +kernel
theorem dX5_houseItem_98 : decode cX5_houseItem 98 = .ok (.istore 4, 2) := by decide +kernel
theorem dX5_houseItem_100 : decode cX5_houseItem 100 = .ok (.aload_n 0, 1) := by decide +kernel
theorem dX5_houseItem_101 : decode cX5_houseItem 101 = .ok (.iload 4, 2) := by decide +kernel
theorem dX5_houseItem_103 : decode cX5_houseItem 103 = .ok (.ifCond .ne 14, 3) := by decide +kernel
theorem dX5_houseItem_106 : decode cX5_houseItem 106 = .ok (.aload_n 0, 1) := by decide +kernel
theorem dX5_houseItem_107 : decode cX5_houseItem 107 = .ok (.invokevirtual 248, 3) := by decide +kernel
theorem dX5_houseItem_110 : decode cX5_houseItem 110 = .ok (.ldc2_w 284, 3) := by decide +kernel
theorem dX5_houseItem_113 : decode cX5_houseItem 113 = .ok (.lcmp, 1) := by decide +kernel
theorem dX5_houseItem_114 : decode cX5_houseItem 114 = .ok (.ifCond .ne 7, 3) := by decide +kernel
theorem dX5_houseItem_117 : decode cX5_houseItem 117 = .ok (.iconst 1, 1) := by decide +kernel
theorem dX5_houseItem_118 : decode cX5_houseItem 118 = .ok (.goto 4, 3) := by decide +kernel
theorem dX5_houseItem_121 : decode cX5_houseItem 121 = .ok (.iconst 0, 1) := by decide +kernel
theorem dX5_houseItem_122 : decode cX5_houseItem 122 = .ok (.invokevirtual 244, 3) := by decide +kernel
theorem dX5_houseItem_125 : decode cX5_houseItem 125 = .ok (.iload 4, 2) := by decide +kernel
theorem dX5_houseItem_127 : decode cX5_houseItem 127 = .ok (.ifCond .eq 7, 3) := by decide +kernel
theorem dX5_houseItem_130 : decode cX5_houseItem 130 = .ok (.iconst 2, 1) := by decide +kernel
theorem dX5_houseItem_131 : decode cX5_houseItem 131 = .ok (.goto 4, 3) := by decide +kernel
theorem dX5_houseItem_134 : decode cX5_houseItem 134 = .ok (.iconst 1, 1) := by decide +kernel
theorem dX5_houseItem_135 : decode cX5_houseItem 135 = .ok (.istore_n 3, 1) := by decide +kernel
theorem dX5_houseItem_136 : decode cX5_houseItem 136 = .ok (.aload_n 0, 1) := by decide +kernel
theorem dX5_houseItem_137 : decode cX5_houseItem 137 = .ok (.getfield 230, 3) := by decide +kernel
theorem dX5_houseItem_140 : decode cX5_houseItem 140 = .ok (.ifCond .ne 12, 3) := by decide +kernel
theorem dX5_houseItem_143 : decode cX5_houseItem 143 = .ok (.aload_n 0, 1) := by decide +kernel
theorem dX5_houseItem_144 : decode cX5_houseItem 144 = .ok (.iload_n 1, 1) := by decide +kernel
theorem dX5_houseItem_145 : decode cX5_houseItem 145 = .ok (.iload_n 2, 1) := by decide +kernel
theorem dX5_houseItem_146 : decode cX5_houseItem 146 = .ok (.iload_n 3, 1) := by decide +kernel
theorem dX5_houseItem_147 : decode cX5_houseItem 147 = .ok (.invokevirtual 100, 3) := by decide +kernel
theorem dX5_houseItem_150 : decode cX5_houseItem 150 = .ok (.istore 4, 2) := by decide +kernel
theorem dX5_houseItem_152 : decode cX5_houseItem 152 = .ok (.return_, 1) := by decide +kernel
theorem dX5_houseOf_0 : decode cX5_houseOf 0 = .ok (.aload_n 0, 1) := by decide +kernel
theorem dX5_houseOf_1 : decode cX5_houseOf 1 = .ok (.iload_n 1, 1) := by decide +kernel
theorem dX5_houseOf_2 : decode cX5_houseOf 2 = .ok (.invokevirtual 104, 3) := by decide +kernel
theorem dX5_houseOf_5 : decode cX5_houseOf 5 = .ok (.ifCond .eq 15, 3) := by decide +kernel
theorem dX5_houseOf_8 : decode cX5_houseOf 8 = .ok (.iload_n 2, 1) := by decide +kernel
theorem dX5_houseOf_9 : decode cX5_houseOf 9 = .ok (.i2l, 1) := by decide +kernel
theorem dX5_houseOf_10 : decode cX5_houseOf 10 = .ok (.lconst 0, 1) := by decide +kernel
theorem dX5_houseOf_11 : decode cX5_houseOf 11 = .ok (.ldc2_w 107, 3) := by decide +kernel
theorem dX5_houseOf_14 : decode cX5_houseOf 14 = .ok (.invokestatic 46, 3) := by decide +kernel
theorem dX5_houseOf_17 : decode cX5_houseOf 17 = .ok (.ifCond .ne 10, 3) := by decide +kernel
theorem dX5_houseOf_20 : decode cX5_houseOf 20 = .ok (.aload_n 0, 1) := by decide +kernel
theorem dX5_houseOf_21 : decode cX5_houseOf 21 = .ok (.ldc 43, 2) := by decide +kernel
theorem dX5_houseOf_23 : decode cX5_houseOf 23 = .ok (.invokevirtual 75, 3) := by decide +kernel
theorem dX5_houseOf_26 : decode cX5_houseOf 26 = .ok (.ireturn, 1) := by decide +kernel
theorem dX5_houseOf_27 : decode cX5_houseOf 27 = .ok (.iload_n 2, 1) := by decide +kernel
theorem dX5_houseOf_28 : decode cX5_houseOf 28 = .ok (.iconst 2, 1) := by decide +kernel
theorem dX5_houseOf_29 : decode cX5_houseOf 29 = .ok (.if_icmp .ge 19, 3) := by decide +kernel
theorem dX5_houseOf_32 : decode cX5_houseOf 32 = .ok (.aload_n 0, 1) := by decide +kernel
theorem dX5_houseOf_33 : decode cX5_houseOf 33 = .ok (.getfield 7, 3) := by decide +kernel
theorem dX5_houseOf_36 : decode cX5_houseOf 36 = .ok (.bipush 77, 2) := by decide +kernel
theorem dX5_houseOf_38 : decode cX5_houseOf 38 = .ok (.iconst 3, 1) := by decide +kernel
theorem dX5_houseOf_39 : decode cX5_houseOf 39 = .ok (.iload_n 1, 1) := by decide +kernel
theorem dX5_houseOf_40 : decode cX5_houseOf 40 = .ok (.imul, 1) := by decide +kernel
theorem dX5_houseOf_41 : decode cX5_houseOf 41 = .ok (.iadd, 1) := by decide +kernel
theorem dX5_houseOf_42 : decode cX5_houseOf 42 = .ok (.iload_n 2, 1) := by decide +kernel
theorem dX5_houseOf_43 : decode cX5_houseOf 43 = .ok (.iadd, 1) := by decide +kernel
theorem dX5_houseOf_44 : decode cX5_houseOf 44 = .ok (.iaload, 1) := by decide +kernel
theorem dX5_houseOf_45 : decode cX5_houseOf 45 = .ok (.goto 21, 3) := by decide +kernel
theorem dX5_houseOf_48 : decode cX5_houseOf 48 = .ok (.iload_n 2, 1) := by decide +kernel
theorem dX5_houseOf_49 : decode cX5_houseOf 49 = .ok (.iconst 2, 1) := by decide +kernel
theorem dX5_houseOf_50 : decode cX5_houseOf 50 = .ok (.if_icmp .ne 11, 3) := by decide +kernel
theorem dX5_houseOf_53 : decode cX5_houseOf 53 = .ok (.aload_n 0, 1) := by decide +kernel
theorem dX5_houseOf_54 : decode cX5_houseOf 54 = .ok (.iload_n 1, 1) := by decide +kernel
theorem dX5_houseOf_55 : decode cX5_houseOf 55 = .ok (.invokevirtual 109, 3) := by decide +kernel
theorem dX5_houseOf_58 : decode cX5_houseOf 58 = .ok (.goto 8, 3) := by decide +kernel
theorem dX5_houseOf_61 : decode cX5_houseOf 61 = .ok (.aload_n 0, 1) := by decide +kernel
theorem dX5_houseOf_62 : decode cX5_houseOf 62 = .ok (.iload_n 1, 1) := by decide +kernel
theorem dX5_houseOf_63 : decode cX5_houseOf 63 = .ok (.invokevirtual 112, 3) := by decide +kernel
theorem dX5_houseOf_66 : decode cX5_houseOf 66 = .ok (.ireturn, 1) := by decide +kernel
theorem dX5_image_0 : decode cX5_image 0 = .ok (.iconst 0, 1) := by decide +kernel
theorem dX5_image_1 : decode cX5_image 1 = .ok (.istore_n 1, 1) := by decide +kernel
theorem dX5_image_2 : decode cX5_image 2 = .ok (.iload_n 1, 1) := by decide +kernel
theorem dX5_image_3 : decode cX5_image 3 = .ok (.bipush 111, 2) := by decide +kernel
theorem dX5_image_5 : decode cX5_image 5 = .ok (.if_icmp .ge 21, 3) := by decide +kernel
theorem dX5_image_8 : decode cX5_image 8 = .ok (.aload_n 0, 1) := by decide +kernel
theorem dX5_image_9 : decode cX5_image 9 = .ok (.getfield 13, 3) := by decide +kernel
theorem dX5_image_12 : decode cX5_image 12 = .ok (.iload_n 1, 1) := by decide +kernel
theorem dX5_image_13 : decode cX5_image 13 = .ok (.aload_n 0, 1) := by decide +kernel
theorem dX5_image_14 : decode cX5_image 14 = .ok (.getfield 7, 3) := by decide +kernel
theorem dX5_image_17 : decode cX5_image 17 = .ok (.iload_n 1, 1) := by decide +kernel
theorem dX5_image_18 : decode cX5_image 18 = .ok (.iaload, 1) := by decide +kernel
theorem dX5_image_19 : decode cX5_image 19 = .ok (.iastore, 1) := by decide +kernel
theorem dX5_image_20 : decode cX5_image 20 = .ok (.iinc 1 1, 3) := by decide +kernel
theorem dX5_image_23 : decode cX5_image 23 = .ok (.goto (-21), 3) := by decide +kernel
theorem dX5_image_26 : decode cX5_image 26 = .ok (.aload_n 0, 1) := by decide +kernel
theorem dX5_image_27 : decode cX5_image 27 = .ok (.iconst 1, 1) := by decide +kernel
theorem dX5_image_28 : decode cX5_image 28 = .ok (.putfield 320, 3) := by decide +kernel
theorem dX5_image_31 : decode cX5_image 31 = .ok (.iconst 1, 1) := by decide +kernel
theorem dX5_image_32 : decode cX5_image 32 = .ok (.ireturn, 1) := by decide +kernel
theorem dX5_in_0 : decode cX5_in 0 = .ok (.lload_n 0, 1) := by decide +kernel
theorem dX5_in_1 : decode cX5_in 1 = .ok (.lload_n 2, 1) := by decide +kernel
theorem dX5_in_2 : decode cX5_in 2 = .ok (.lcmp, 1) := by decide +kernel
theorem dX5_in_3 : decode cX5_in 3 = .ok (.ifCond .lt 14, 3) := by decide +kernel
theorem dX5_in_6 : decode cX5_in 6 = .ok (.lload_n 0, 1) := by decide +kernel
theorem dX5_in_7 : decode cX5_in 7 = .ok (.lload 4, 2) := by decide +kernel
theorem dX5_in_9 : decode cX5_in 9 = .ok (.lcmp, 1) := by decide +kernel
theorem dX5_in_10 : decode cX5_in 10 = .ok (.ifCond .gt 7, 3) := by decide +kernel
theorem dX5_in_13 : decode cX5_in 13 = .ok (.iconst 1, 1) := by decide +kernel
theorem dX5_in_14 : decode cX5_in 14 = .ok (.goto 4, 3) := by decide +kernel
theorem dX5_in_17 : decode cX5_in 17 = .ok (.iconst 0, 1) := by decide +kernel
theorem dX5_in_18 : decode cX5_in 18 = .ok (.ireturn, 1) := by decide +kernel
theorem dX5_isAhead_0 : decode cX5_isAhead 0 = .ok (.iload_n 0, 1) := by decide +kernel
theorem dX5_isAhead_1 : decode cX5_isAhead 1 = .ok (.i2l, 1) := by decide +kernel
theorem dX5_isAhead_2 : decode cX5_isAhead 2 = .ok (.lconst 0, 1) := by decide +kernel
theorem dX5_isAhead_3 : decode cX5_isAhead 3 = .ok (.ldc2_w 54, 3) := by decide +kernel
theorem dX5_isAhead_6 : decode cX5_isAhead 6 = .ok (.invokestatic 46, 3) := by decide +kernel
theorem dX5_isAhead_9 : decode cX5_isAhead 9 = .ok (.ireturn, 1) := by decide +kernel
theorem dX5_isCell_0 : decode cX5_isCell 0 = .ok (.iload_n 0, 1) := by decide +kernel
theorem dX5_isCell_1 : decode cX5_isCell 1 = .ok (.i2l, 1) := by decide +kernel
theorem dX5_isCell_2 : decode cX5_isCell 2 = .ok (.lconst 0, 1) := by decide +kernel
theorem dX5_isCell_3 : decode cX5_isCell 3 = .ok (.ldc2_w 44, 3) := by decide +kernel
theorem dX5_isCell_6 : decode cX5_isCell 6 = .ok (.invokestatic 46, 3) := by decide +kernel
theorem dX5_isCell_9 : decode cX5_isCell 9 = .ok (.ireturn, 1) := by decide +kernel
theorem dX5_isDigit_0 : decode cX5_isDigit 0 = .ok (.iload_n 0, 1) := by decide +kernel
theorem dX5_isDigit_1 : decode cX5_isDigit 1 = .ok (.i2l, 1) := by decide +kernel
theorem dX5_isDigit_2 : decode cX5_isDigit 2 = .ok (.ldc2_w 211, 3) := by decide +kernel
theorem dX5_isDigit_5 : decode cX5_isDigit 5 = .ok (.ldc2_w 213, 3) := by decide +kernel
theorem dX5_isDigit_8 : decode cX5_isDigit 8 = .ok (.invokestatic 46, 3) := by decide +kernel
theorem dX5_isDigit_11 : decode cX5_isDigit 11 = .ok (.ireturn, 1) := by decide +kernel
theorem dX5_isFloor_0 : decode cX5_isFloor 0 = .ok (.iload_n 0, 1) := by decide +kernel
theorem dX5_isFloor_1 : decode cX5_isFloor 1 = .ok (.i2l, 1) := by decide +kernel
theorem dX5_isFloor_2 : decode cX5_isFloor 2 = .ok (.lconst 1, 1) := by decide +kernel
theorem dX5_isFloor_3 : decode cX5_isFloor 3 = .ok (.ldc2_w 52, 3) := by decide +kernel
theorem dX5_isFloor_6 : decode cX5_isFloor 6 = .ok (.invokestatic 46, 3) := by decide +kernel
theorem dX5_isFloor_9 : decode cX5_isFloor 9 = .ok (.ireturn, 1) := by decide +kernel
theorem dX5_isHiding_0 : decode cX5_isHiding 0 = .ok (.aload_n 0, 1) := by decide +kernel
theorem dX5_isHiding_1 : decode cX5_isHiding 1 = .ok (.iload_n 1, 1) := by decide +kernel
theorem dX5_isHiding_2 : decode cX5_isHiding 2 = .ok (.invokevirtual 109, 3) := by decide +kernel
theorem dX5_isHiding_5 : decode cX5_isHiding 5 = .ok (.istore 4, 2) := by decide +kernel
theorem dX5_isHiding_7 : decode cX5_isHiding 7 = .ok (.iload_n 3, 1) := by decide +kernel
theorem dX5_isHiding_8 : decode cX5_isHiding 8 = .ok (.aload_n 0, 1) := by decide +kernel
theorem dX5_isHiding_9 : decode cX5_isHiding 9 = .ok (.iload_n 1, 1) := by decide +kernel
theorem dX5_isHiding_10 : decode cX5_isHiding 10 = .ok (.invokevirtual 93, 3) := by decide +kernel
theorem dX5_isHiding_13 : decode cX5_isHiding 13 = .ok (.isub, 1) := by decide +kernel
theorem dX5_isHiding_14 : decode cX5_isHiding 14 = .ok (.invokestatic 124, 3) := by decide +kernel
theorem dX5_isHiding_17 : decode cX5_isHiding 17 = .ok (.istore 5, 2) := by decide +kernel
theorem dX5_isHiding_19 : decode cX5_isHiding 19 = .ok (.iload_n 2, 1) := by decide +kernel
theorem dX5_isHiding_20 : decode cX5_isHiding 20 = .ok (.aload_n 0, 1) := by decide +kernel
theorem dX5_isHiding_21 : decode cX5_isHiding 21 = .ok (.iload_n 1, 1) := by decide +kernel
theorem dX5_isHiding_22 : decode cX5_isHiding 22 = .ok (.invokevirtual 93, 3) := by decide +kernel
theorem dX5_isHiding_25 : decode cX5_isHiding 25 = .ok (.isub, 1) := by decide +kernel
theorem dX5_isHiding_26 : decode cX5_isHiding 26 = .ok (.invokestatic 124, 3) := by decide +kernel
theorem dX5_isHiding_29 : decode cX5_isHiding 29 = .ok (.istore 6, 2) := by decide +kernel
theorem dX5_isHiding_31 : decode cX5_isHiding 31 = .ok (.aload_n 0, 1) := by decide +kernel
theorem dX5_isHiding_32 : decode cX5_isHiding 32 = .ok (.iload_n 2, 1) := by decide +kernel
theorem dX5_isHiding_33 : decode cX5_isHiding 33 = .ok (.invokevirtual 87, 3) := by decide +kernel
theorem dX5_isHiding_36 : decode cX5_isHiding 36 = .ok (.iload 4, 2) := by decide +kernel
theorem dX5_isHiding_38 : decode cX5_isHiding 38 = .ok (.isub, 1) := by decide +kernel
theorem dX5_isHiding_39 : decode cX5_isHiding 39 = .ok (.iload 5, 2) := by decide +kernel
theorem dX5_isHiding_41 : decode cX5_isHiding 41 = .ok (.imul, 1) := by decide +kernel
theorem dX5_isHiding_42 : decode cX5_isHiding 42 = .ok (.aload_n 0, 1) := by decide +kernel
theorem dX5_isHiding_43 : decode cX5_isHiding 43 = .ok (.iload_n 3, 1) := by decide +kernel
theorem dX5_isHiding_44 : decode cX5_isHiding 44 = .ok (.invokevirtual 87, 3) := by decide +kernel
theorem dX5_isHiding_47 : decode cX5_isHiding 47 = .ok (.iload 4, 2) := by decide +kernel
theorem dX5_isHiding_49 : decode cX5_isHiding 49 = .ok (.isub, 1) := by decide +kernel
theorem dX5_isHiding_50 : decode cX5_isHiding 50 = .ok (.iload 6, 2) := by decide +kernel
theorem dX5_isHiding_52 : decode cX5_isHiding 52 = .ok (.imul, 1) := by decide +kernel
theorem dX5_isHiding_53 : decode cX5_isHiding 53 = .ok (.if_icmp .lt 7, 3) := by decide +kernel
theorem dX5_isHiding_56 : decode cX5_isHiding 56 = .ok (.iconst 1, 1) := by decide +kernel
theorem dX5_isHiding_57 : decode cX5_isHiding 57 = .ok (.goto 4, 3) := by decide +kernel
theorem dX5_isHiding_60 : decode cX5_isHiding 60 = .ok (.iconst 0, 1) := by decide +kernel
theorem dX5_isHiding_61 : decode cX5_isHiding 61 = .ok (.ireturn, 1) := by decide +kernel
theorem dX5_isHouse_0 : decode cX5_isHouse 0 = .ok (.iload_n 1, 1) := by decide +kernel
theorem dX5_isHouse_1 : decode cX5_isHouse 1 = .ok (.i2l, 1) := by decide +kernel
theorem dX5_isHouse_2 : decode cX5_isHouse 2 = .ok (.lconst 0, 1) := by decide +kernel
theorem dX5_isHouse_3 : decode cX5_isHouse 3 = .ok (.aload_n 0, 1) := by decide +kernel
theorem dX5_isHouse_4 : decode cX5_isHouse 4 = .ok (.getfield 7, 3) := by decide +kernel
theorem dX5_isHouse_7 : decode cX5_isHouse 7 = .ok (.iconst 1, 1) := by decide +kernel
theorem dX5_isHouse_8 : decode cX5_isHouse 8 = .ok (.iaload, 1) := by decide +kernel
theorem dX5_isHouse_9 : decode cX5_isHouse 9 = .ok (.iconst 1, 1) := by decide +kernel
theorem dX5_isHouse_10 : decode cX5_isHouse 10 = .ok (.isub, 1) := by decide +kernel
theorem dX5_isHouse_11 : decode cX5_isHouse 11 = .ok (.i2l, 1) := by decide +kernel
theorem dX5_isHouse_12 : decode cX5_isHouse 12 = .ok (.invokestatic 46, 3) := by decide +kernel
theorem dX5_isHouse_15 : decode cX5_isHouse 15 = .ok (.ireturn, 1) := by decide +kernel
theorem dX5_isKind_0 : decode cX5_isKind 0 = .ok (.iload_n 0, 1) := by decide +kernel
theorem dX5_isKind_1 : decode cX5_isKind 1 = .ok (.i2l, 1) := by decide +kernel
theorem dX5_isKind_2 : decode cX5_isKind 2 = .ok (.lconst 0, 1) := by decide +kernel
theorem dX5_isKind_3 : decode cX5_isKind 3 = .ok (.ldc2_w 50, 3) := by decide +kernel
theorem dX5_isKind_6 : decode cX5_isKind 6 = .ok (.invokestatic 46, 3) := by decide +kernel
theorem dX5_isKind_9 : decode cX5_isKind 9 = .ok (.ireturn, 1) := by decide +kernel
theorem dX5_isLetter_0 : decode cX5_isLetter 0 = .ok (.iload_n 0, 1) := by decide +kernel
theorem dX5_isLetter_1 : decode cX5_isLetter 1 = .ok (.i2l, 1) := by decide +kernel
theorem dX5_isLetter_2 : decode cX5_isLetter 2 = .ok (.ldc2_w 207, 3) := by decide +kernel
theorem dX5_isLetter_5 : decode cX5_isLetter 5 = .ok (.ldc2_w 209, 3) := by decide +kernel
theorem dX5_isLetter_8 : decode cX5_isLetter 8 = .ok (.invokestatic 46, 3) := by decide +kernel
theorem dX5_isLetter_11 : decode cX5_isLetter 11 = .ok (.ireturn, 1) := by decide +kernel
theorem dX5_isOne_0 : decode cX5_isOne 0 = .ok (.iload_n 0, 1) := by decide +kernel
theorem dX5_isOne_1 : decode cX5_isOne 1 = .ok (.i2l, 1) := by decide +kernel
theorem dX5_isOne_2 : decode cX5_isOne 2 = .ok (.lconst 0, 1) := by decide +kernel
theorem dX5_isOne_3 : decode cX5_isOne 3 = .ok (.ldc2_w 107, 3) := by decide +kernel
theorem dX5_isOne_6 : decode cX5_isOne 6 = .ok (.invokestatic 46, 3) := by decide +kernel
theorem dX5_isOne_9 : decode cX5_isOne 9 = .ok (.ireturn, 1) := by decide +kernel
theorem dX5_isStretch_0 : decode cX5_isStretch 0 = .ok (.iload_n 0, 1) := by decide +kernel
theorem dX5_isStretch_1 : decode cX5_isStretch 1 = .ok (.invokestatic 58, 3) := by decide +kernel
theorem dX5_isStretch_4 : decode cX5_isStretch 4 = .ok (.ifCond .eq 19, 3) := by decide +kernel
theorem dX5_isStretch_7 : decode cX5_isStretch 7 = .ok (.iload_n 1, 1) := by decide +kernel
theorem dX5_isStretch_8 : decode cX5_isStretch 8 = .ok (.invokestatic 58, 3) := by decide +kernel
theorem dX5_isStretch_11 : decode cX5_isStretch 11 = .ok (.ifCond .eq 12, 3) := by decide +kernel
theorem dX5_isStretch_14 : decode cX5_isStretch 14 = .ok (.iload_n 0, 1) := by decide +kernel
theorem dX5_isStretch_15 : decode cX5_isStretch 15 = .ok (.iload_n 1, 1) := by decide +kernel
theorem dX5_isStretch_16 : decode cX5_isStretch 16 = .ok (.if_icmp .gt 7, 3) := by decide +kernel
theorem dX5_isStretch_19 : decode cX5_isStretch 19 = .ok (.iconst 1, 1) := by decide +kernel
theorem dX5_isStretch_20 : decode cX5_isStretch 20 = .ok (.goto 4, 3) := by decide +kernel
theorem dX5_isStretch_23 : decode cX5_isStretch 23 = .ok (.iconst 0, 1) := by decide +kernel
theorem dX5_isStretch_24 : decode cX5_isStretch 24 = .ok (.ireturn, 1) := by decide +kernel
theorem dX5_isTax_0 : decode cX5_isTax 0 = .ok (.iload_n 0, 1) := by decide +kernel
theorem dX5_isTax_1 : decode cX5_isTax 1 = .ok (.i2l, 1) := by decide +kernel
theorem dX5_isTax_2 : decode cX5_isTax 2 = .ok (.lconst 0, 1) := by decide +kernel
theorem dX5_isTax_3 : decode cX5_isTax 3 = .ok (.ldc2_w 56, 3) := by decide +kernel
theorem dX5_isTax_6 : decode cX5_isTax 6 = .ok (.invokestatic 46, 3) := by decide +kernel
theorem dX5_isTax_9 : decode cX5_isTax 9 = .ok (.ireturn, 1) := by decide +kernel
theorem dX5_isTooFar_0 : decode cX5_isTooFar 0 = .ok (.aload_n 0, 1) := by decide +kernel
theorem dX5_isTooFar_1 : decode cX5_isTooFar 1 = .ok (.getfield 7, 3) := by decide +kernel
theorem dX5_isTooFar_4 : decode cX5_isTooFar 4 = .ok (.iconst 0, 1) := by decide +kernel
theorem dX5_isTooFar_5 : decode cX5_isTooFar 5 = .ok (.iaload, 1) := by decide +kernel
theorem dX5_isTooFar_6 : decode cX5_isTooFar 6 = .ok (.iload_n 1, 1) := by decide +kernel
theorem dX5_isTooFar_7 : decode cX5_isTooFar 7 = .ok (.iadd, 1) := by decide +kernel
theorem dX5_isTooFar_8 : decode cX5_isTooFar 8 = .ok (.sipush 999, 3) := by decide +kernel
theorem dX5_isTooFar_11 : decode cX5_isTooFar 11 = .ok (.if_icmp .le 7, 3) := by decide +kernel
theorem dX5_isTooFar_14 : decode cX5_isTooFar 14 = .ok (.iconst 1, 1) := by decide +kernel
theorem dX5_isTooFar_15 : decode cX5_isTooFar 15 = .ok (.goto 4, 3) := by decide +kernel
theorem dX5_isTooFar_18 : decode cX5_isTooFar 18 = .ok (.iconst 0, 1) := by decide +kernel
theorem dX5_isTooFar_19 : decode cX5_isTooFar 19 = .ok (.ireturn, 1) := by decide +kernel
theorem dX5_isTowards_0 : decode cX5_isTowards 0 = .ok (.iload_n 2, 1) := by decide +kernel
theorem dX5_isTowards_1 : decode cX5_isTowards 1 = .ok (.aload_n 0, 1) := by decide +kernel
theorem dX5_isTowards_2 : decode cX5_isTowards 2 = .ok (.iload_n 1, 1) := by decide +kernel
theorem dX5_isTowards_3 : decode cX5_isTowards 3 = .ok (.invokevirtual 93, 3) := by decide +kernel
theorem dX5_isTowards_6 : decode cX5_isTowards 6 = .ok (.isub, 1) := by decide +kernel
theorem dX5_isTowards_7 : decode cX5_isTowards 7 = .ok (.istore_n 3, 1) := by decide +kernel
theorem dX5_isTowards_8 : decode cX5_isTowards 8 = .ok (.iload_n 3, 1) := by decide +kernel
theorem dX5_isTowards_9 : decode cX5_isTowards 9 = .ok (.ifCond .eq 40, 3) := by decide +kernel
theorem dX5_isTowards_12 : decode cX5_isTowards 12 = .ok (.iload_n 3, 1) := by decide +kernel
theorem dX5_isTowards_13 : decode cX5_isTowards 13 = .ok (.invokestatic 124, 3) := by decide +kernel
theorem dX5_isTowards_16 : decode cX5_isTowards 16 = .ok (.aload_n 0, 1) := by decide +kernel
theorem dX5_isTowards_17 : decode cX5_isTowards 17 = .ok (.getfield 7, 3) := by decide +kernel
theorem dX5_isTowards_20 : decode cX5_isTowards 20 = .ok (.iconst 2, 1) := by decide +kernel
theorem dX5_isTowards_21 : decode cX5_isTowards 21 = .ok (.iaload, 1) := by decide +kernel
theorem dX5_isTowards_22 : decode cX5_isTowards 22 = .ok (.if_icmp .gt 27, 3) := by decide +kernel
theorem dX5_isTowards_25 : decode cX5_isTowards 25 = .ok (.aload_n 0, 1) := by decide +kernel
theorem dX5_isTowards_26 : decode cX5_isTowards 26 = .ok (.iload_n 1, 1) := by decide +kernel
theorem dX5_isTowards_27 : decode cX5_isTowards 27 = .ok (.invokevirtual 112, 3) := by decide +kernel
theorem dX5_isTowards_30 : decode cX5_isTowards 30 = .ok (.iload_n 3, 1) := by decide +kernel
theorem dX5_isTowards_31 : decode cX5_isTowards 31 = .ok (.ifCond .ge 7, 3) := by decide +kernel
theorem dX5_isTowards_34 : decode cX5_isTowards 34 = .ok (.iconst 0, 1) := by decide +kernel
theorem dX5_isTowards_35 : decode cX5_isTowards 35 = .ok (.goto 4, 3) := by decide +kernel
theorem dX5_isTowards_38 : decode cX5_isTowards 38 = .ok (.iconst 1, 1) := by decide +kernel
theorem dX5_isTowards_39 : decode cX5_isTowards 39 = .ok (.invokestatic 127, 3) := by decide +kernel
theorem dX5_isTowards_42 : decode cX5_isTowards 42 = .ok (.ifCond .eq 7, 3) := by decide +kernel
theorem dX5_isTowards_45 : decode cX5_isTowards 45 = .ok (.iconst 1, 1) := by decide +kernel
theorem dX5_isTowards_46 : decode cX5_isTowards 46 = .ok (.goto 4, 3) := by decide +kernel
theorem dX5_isTowards_49 : decode cX5_isTowards 49 = .ok (.iconst 0, 1) := by decide +kernel
theorem dX5_isTowards_50 : decode cX5_isTowards 50 = .ok (.ireturn, 1) := by decide +kernel
theorem dX5_item_0 : decode cX5_item 0 = .ok (.aload_n 0, 1) := by decide +kernel
theorem dX5_item_1 : decode cX5_item 1 = .ok (.invokevirtual 286, 3) := by decide +kernel
theorem dX5_item_4 : decode cX5_item 4 = .ok (.istore_n 1, 1) := by decide +kernel
theorem dX5_item_5 : decode cX5_item 5 = .ok (.iload_n 1, 1) := by decide +kernel
theorem dX5_item_6 : decode cX5_item 6 = .ok (.ifCond .lt 11, 3) := by decide +kernel
theorem dX5_item_9 : decode cX5_item 9 = .ok (.aload_n 0, 1) := by decide +kernel
theorem dX5_item_10 : decode cX5_item 10 = .ok (.iload_n 1, 1) := by decide +kernel
theorem dX5_item_11 : decode cX5_item 11 = .ok (.invokevirtual 289, 3) := by decide +kernel
theorem dX5_item_14 : decode cX5_item 14 = .ok (.goto 87, 3) := by decide +kernel
theorem dX5_item_17 : decode cX5_item 17 = .ok (.aload_n 0, 1) := by decide +kernel
theorem dX5_item_18 : decode cX5_item 18 = .ok (.invokevirtual 248, 3) := by decide +kernel
theorem dX5_item_21 : decode cX5_item 21 = .ok (.ldc2_w 292, 3) := by decide +kernel
theorem dX5_item_24 : decode cX5_item 24 = .ok (.lcmp, 1) := by decide +kernel
theorem dX5_item_25 : decode cX5_item 25 = .ok (.ifCond .ne 10, 3) := by decide +kernel
theorem dX5_item_28 : decode cX5_item 28 = .ok (.aload_n 0, 1) := by decide +kernel
theorem dX5_item_29 : decode cX5_item 29 = .ok (.invokevirtual 294, 3) := by decide +kernel
theorem dX5_item_32 : decode cX5_item 32 = .ok (.goto 69, 3) := by decide +kernel
theorem dX5_item_35 : decode cX5_item 35 = .ok (.aload_n 0, 1) := by decide +kernel
theorem dX5_item_36 : decode cX5_item 36 = .ok (.invokevirtual 248, 3) := by decide +kernel
theorem dX5_item_39 : decode cX5_item 39 = .ok (.ldc2_w 297, 3) := by decide +kernel
theorem dX5_item_42 : decode cX5_item 42 = .ok (.lcmp, 1) := by decide +kernel
theorem dX5_item_43 : decode cX5_item 43 = .ok (.ifCond .ne 21, 3) := by decide +kernel
theorem dX5_item_46 : decode cX5_item 46 = .ok (.aload_n 0, 1) := by decide +kernel
theorem dX5_item_47 : decode cX5_item 47 = .ok (.getfield 7, 3) := by decide +kernel
theorem dX5_item_50 : decode cX5_item 50 = .ok (.iconst 2, 1) := by decide +kernel
theorem dX5_item_51 : decode cX5_item 51 = .ok (.aload_n 0, 1) := by decide +kernel
theorem dX5_item_52 : decode cX5_item 52 = .ok (.iconst 1, 1) := by decide +kernel
theorem dX5_item_53 : decode cX5_item 53 = .ok (.iconst 1, 1) := by decide +kernel
theorem dX5_item_54 : decode cX5_item 54 = .ok (.bipush 23, 2) := by decide +kernel
theorem dX5_item_56 : decode cX5_item 56 = .ok (.iconst 0, 1) := by decide +kernel
theorem dX5_item_57 : decode cX5_item 57 = .ok (.invokevirtual 270, 3) := by decide +kernel
theorem dX5_item_60 : decode cX5_item 60 = .ok (.iastore, 1) := by decide +kernel
theorem dX5_item_61 : decode cX5_item 61 = .ok (.goto 40, 3) := by decide +kernel
theorem dX5_item_64 : decode cX5_item 64 = .ok (.aload_n 0, 1) := by decide +kernel
theorem dX5_item_65 : decode cX5_item 65 = .ok (.aload_n 0, 1) := by decide +kernel
theorem dX5_item_66 : decode cX5_item 66 = .ok (.invokevirtual 248, 3) := by decide +kernel
theorem dX5_item_69 : decode cX5_item 69 = .ok (.ldc2_w 299, 3) := by decide +kernel
theorem dX5_item_72 : decode cX5_item 72 = .ok (.lcmp, 1) := by decide +kernel
theorem dX5_item_73 : decode cX5_item 73 = .ok (.ifCond .ne 7, 3) := by decide +kernel
theorem dX5_item_76 : decode cX5_item 76 = .ok (.iconst 1, 1) := by decide +kernel
theorem dX5_item_77 : decode cX5_item 77 = .ok (.goto 4, 3) := by decide +kernel
theorem dX5_item_80 : decode cX5_item 80 = .ok (.iconst 0, 1) := by decide +kernel
theorem dX5_item_81 : decode cX5_item 81 = .ok (.invokevirtual 244, 3) := by decide +kernel
theorem dX5_item_84 : decode cX5_item 84 = .ok (.aload_n 0, 1) := by decide +kernel
theorem dX5_item_85 : decode cX5_item 85 = .ok (.iconst 0, 1) := by decide +kernel
theorem dX5_item_86 : decode cX5_item 86 = .ok (.bipush 99, 2) := by decide +kernel
theorem dX5_item_88 : decode cX5_item 88 = .ok (.invokevirtual 266, 3) := by decide +kernel
theorem dX5_item_91 : decode cX5_item 91 = .ok (.aload_n 0, 1) := by decide +kernel
theorem dX5_item_92 : decode cX5_item 92 = .ok (.getfield 7, 3) := by decide +kernel
theorem dX5_item_95 : decode cX5_item 95 = .ok (.iconst 3, 1) := by decide +kernel
theorem dX5_item_96 : decode cX5_item 96 = .ok (.aload_n 0, 1) := by decide +kernel
theorem dX5_item_97 : decode cX5_item 97 = .ok (.getfield 241, 3) := by decide +kernel
theorem dX5_item_100 : decode cX5_item 100 = .ok (.iastore, 1) := by decide +kernel
theorem dX5_item_101 : decode cX5_item 101 = .ok (.return_, 1) := by decide +kernel
theorem dX5_judge_0 : decode cX5_judge 0 = .ok (.aload_n 0, 1) := by decide +kernel
theorem dX5_judge_1 : decode cX5_judge 1 = .ok (.iload_n 1, 1) := by decide +kernel
theorem dX5_judge_2 : decode cX5_judge 2 = .ok (.invokevirtual 314, 3) := by decide +kernel
theorem dX5_judge_5 : decode cX5_judge 5 = .ok (.istore_n 3, 1) := by decide +kernel
theorem dX5_judge_6 : decode cX5_judge 6 = .ok (.iload_n 3, 1) := by decide +kernel
theorem dX5_judge_7 : decode cX5_judge 7 = .ok (.ifCond .eq 9, 3) := by decide +kernel
theorem dX5_judge_10 : decode cX5_judge 10 = .ok (.aload_n 0, 1) := by decide +kernel
theorem dX5_judge_11 : decode cX5_judge 11 = .ok (.iload_n 3, 1) := by decide +kernel
theorem dX5_judge_12 : decode cX5_judge 12 = .ok (.invokevirtual 75, 3) := by decide +kernel
theorem dX5_judge_15 : decode cX5_judge 15 = .ok (.ireturn, 1) := by decide +kernel
theorem dX5_judge_16 : decode cX5_judge 16 = .ok (.iload_n 2, 1) := by decide +kernel
theorem dX5_judge_17 : decode cX5_judge 17 = .ok (.invokestatic 165, 3) := by decide +kernel
theorem dX5_judge_20 : decode cX5_judge 20 = .ok (.ifCond .ne 10, 3) := by decide +kernel
theorem dX5_judge_23 : decode cX5_judge 23 = .ok (.aload_n 0, 1) := by decide +kernel
theorem dX5_judge_24 : decode cX5_judge 24 = .ok (.ldc 43, 2) := by decide +kernel
theorem dX5_judge_26 : decode cX5_judge 26 = .ok (.invokevirtual 75, 3) := by decide +kernel
theorem dX5_judge_29 : decode cX5_judge 29 = .ok (.ireturn, 1) := by decide +kernel
theorem dX5_judge_30 : decode cX5_judge 30 = .ok (.aload_n 0, 1) := by decide +kernel
theorem dX5_judge_31 : decode cX5_judge 31 = .ok (.iload_n 2, 1) := by decide +kernel
theorem dX5_judge_32 : decode cX5_judge 32 = .ok (.invokevirtual 168, 3) := by decide +kernel
theorem dX5_judge_35 : decode cX5_judge 35 = .ok (.ifCond .eq 10, 3) := by decide +kernel
theorem dX5_judge_38 : decode cX5_judge 38 = .ok (.aload_n 0, 1) := by decide +kernel
theorem dX5_judge_39 : decode cX5_judge 39 = .ok (.ldc 144, 2) := by decide +kernel
theorem dX5_judge_41 : decode cX5_judge 41 = .ok (.invokevirtual 75, 3) := by decide +kernel
theorem dX5_judge_44 : decode cX5_judge 44 = .ok (.ireturn, 1) := by decide +kernel
theorem dX5_judge_45 : decode cX5_judge 45 = .ok (.aload_n 0, 1) := by decide +kernel
theorem dX5_judge_46 : decode cX5_judge 46 = .ok (.invokevirtual 171, 3) := by decide +kernel
theorem dX5_judge_49 : decode cX5_judge 49 = .ok (.aload_n 0, 1) := by decide +kernel
theorem dX5_judge_50 : decode cX5_judge 50 = .ok (.iload_n 2, 1) := by decide +kernel
theorem dX5_judge_51 : decode cX5_judge 51 = .ok (.invokevirtual 174, 3) := by decide +kernel
theorem dX5_judge_54 : decode cX5_judge 54 = .ok (.iconst 0, 1) := by decide +kernel
theorem dX5_judge_55 : decode cX5_judge 55 = .ok (.istore 4, 2) := by decide +kernel
theorem dX5_judge_57 : decode cX5_judge 57 = .ok (.iload 4, 2) := by decide +kernel
theorem dX5_judge_59 : decode cX5_judge 59 = .ok (.aload_n 0, 1) := by decide +kernel
theorem dX5_judge_60 : decode cX5_judge 60 = .ok (.getfield 34, 3) := by decide +kernel
theorem dX5_judge_63 : decode cX5_judge 63 = .ok (.iload_n 1, 1) := by decide +kernel
theorem dX5_judge_64 : decode cX5_judge 64 = .ok (.iaload, 1) := by decide +kernel
theorem dX5_judge_65 : decode cX5_judge 65 = .ok (.if_icmp .ge 41, 3) := by decide +kernel
theorem dX5_judge_68 : decode cX5_judge 68 = .ok (.iload 4, 2) := by decide +kernel
theorem dX5_judge_70 : decode cX5_judge 70 = .ok (.aload_n 0, 1) := by decide +kernel
theorem dX5_judge_71 : decode cX5_judge 71 = .ok (.getfield 7, 3) := by decide +kernel
theorem dX5_judge_74 : decode cX5_judge 74 = .ok (.iconst 1, 1) := by decide +kernel
theorem dX5_judge_75 : decode cX5_judge 75 = .ok (.iaload, 1) := by decide +kernel
theorem dX5_judge_76 : decode cX5_judge 76 = .ok (.if_icmp .ge 30, 3) := by decide +kernel
theorem dX5_judge_79 : decode cX5_judge 79 = .ok (.aload_n 0, 1) := by decide +kernel
theorem dX5_judge_80 : decode cX5_judge 80 = .ok (.getfield 37, 3) := by decide +kernel
theorem dX5_judge_83 : decode cX5_judge 83 = .ok (.bipush 40, 2) := by decide +kernel
theorem dX5_judge_85 : decode cX5_judge 85 = .ok (.iload_n 1, 1) := by decide +kernel
theorem dX5_judge_86 : decode cX5_judge 86 = .ok (.imul, 1) := by decide +kernel
theorem dX5_judge_87 : decode cX5_judge 87 = .ok (.iload 4, 2) := by decide +kernel
theorem dX5_judge_89 : decode cX5_judge 89 = .ok (.iadd, 1) := by decide +kernel
theorem dX5_judge_90 : decode cX5_judge 90 = .ok (.iaload, 1) := by decide +kernel
theorem dX5_judge_91 : decode cX5_judge 91 = .ok (.aload_n 0, 1) := by decide +kernel
theorem dX5_judge_92 : decode cX5_judge 92 = .ok (.iload 4, 2) := by decide +kernel
theorem dX5_judge_94 : decode cX5_judge 94 = .ok (.invokevirtual 146, 3) := by decide +kernel
theorem dX5_judge_97 : decode cX5_judge 97 = .ok (.if_icmp .ne 9, 3) := by decide +kernel
theorem dX5_judge_100 : decode cX5_judge 100 = .ok (.iinc 4 1, 3) := by decide +kernel
theorem dX5_judge_103 : decode cX5_judge 103 = .ok (.goto (-46), 3) := by decide +kernel
theorem dX5_judge_106 : decode cX5_judge 106 = .ok (.aload_n 0, 1) := by decide +kernel
theorem dX5_judge_107 : decode cX5_judge 107 = .ok (.invokevirtual 178, 3) := by decide +kernel
theorem dX5_judge_110 : decode cX5_judge 110 = .ok (.iload 4, 2) := by decide +kernel
theorem dX5_judge_112 : decode cX5_judge 112 = .ok (.aload_n 0, 1) := by decide +kernel
theorem dX5_judge_113 : decode cX5_judge 113 = .ok (.getfield 34, 3) := by decide +kernel
theorem dX5_judge_116 : decode cX5_judge 116 = .ok (.iload_n 1, 1) := by decide +kernel
theorem dX5_judge_117 : decode cX5_judge 117 = .ok (.iaload, 1) := by decide +kernel
theorem dX5_judge_118 : decode cX5_judge 118 = .ok (.if_icmp .ne 18, 3) := by decide +kernel
theorem dX5_judge_121 : decode cX5_judge 121 = .ok (.iload 4, 2) := by decide +kernel
theorem dX5_judge_123 : decode cX5_judge 123 = .ok (.aload_n 0, 1) := by decide +kernel
theorem dX5_judge_124 : decode cX5_judge 124 = .ok (.getfield 7, 3) := by decide +kernel
theorem dX5_judge_127 : decode cX5_judge 127 = .ok (.iconst 1, 1) := by decide +kernel
theorem dX5_judge_128 : decode cX5_judge 128 = .ok (.iaload, 1) := by decide +kernel
theorem dX5_judge_129 : decode cX5_judge 129 = .ok (.if_icmp .ne 7, 3) := by decide +kernel
theorem dX5_judge_132 : decode cX5_judge 132 = .ok (.iconst 0, 1) := by decide +kernel
theorem dX5_judge_133 : decode cX5_judge 133 = .ok (.goto 7, 3) := by decide +kernel
theorem dX5_judge_136 : decode cX5_judge 136 = .ok (.iconst 1, 1) := by decide +kernel
theorem dX5_judge_137 : decode cX5_judge 137 = .ok (.iload 4, 2) := by decide +kernel
theorem dX5_judge_139 : decode cX5_judge 139 = .ok (.iadd, 1) := by decide +kernel
theorem dX5_judge_140 : decode cX5_judge 140 = .ok (.ireturn, 1) := by decide +kernel
theorem dX5_kindHere_0 : decode cX5_kindHere 0 = .ok (.aload_n 0, 1) := by decide +kernel
theorem dX5_kindHere_1 : decode cX5_kindHere 1 = .ok (.invokevirtual 248, 3) := by decide +kernel
theorem dX5_kindHere_4 : decode cX5_kindHere 4 = .ok (.lstore_n 1, 1) := by decide +kernel
theorem dX5_kindHere_5 : decode cX5_kindHere 5 = .ok (.lload_n 1, 1) := by decide +kernel
theorem dX5_kindHere_6 : decode cX5_kindHere 6 = .ok (.ldc2_w 252, 3) := by decide +kernel
theorem dX5_kindHere_9 : decode cX5_kindHere 9 = .ok (.lcmp, 1) := by decide +kernel
theorem dX5_kindHere_10 : decode cX5_kindHere 10 = .ok (.ifCond .ne 7, 3) := by decide +kernel
theorem dX5_kindHere_13 : decode cX5_kindHere 13 = .ok (.iconst 0, 1) := by decide +kernel
theorem dX5_kindHere_14 : decode cX5_kindHere 14 = .ok (.goto 77, 3) := by decide +kernel
theorem dX5_kindHere_17 : decode cX5_kindHere 17 = .ok (.lload_n 1, 1) := by decide +kernel
theorem dX5_kindHere_18 : decode cX5_kindHere 18 = .ok (.ldc2_w 254, 3) := by decide +kernel
theorem dX5_kindHere_21 : decode cX5_kindHere 21 = .ok (.lcmp, 1) := by decide +kernel
theorem dX5_kindHere_22 : decode cX5_kindHere 22 = .ok (.ifCond .ne 7, 3) := by decide +kernel
theorem dX5_kindHere_25 : decode cX5_kindHere 25 = .ok (.iconst 1, 1) := by decide +kernel
theorem dX5_kindHere_26 : decode cX5_kindHere 26 = .ok (.goto 65, 3) := by decide +kernel
theorem dX5_kindHere_29 : decode cX5_kindHere 29 = .ok (.lload_n 1, 1) := by decide +kernel
theorem dX5_kindHere_30 : decode cX5_kindHere 30 = .ok (.ldc2_w 256, 3) := by decide +kernel
theorem dX5_kindHere_33 : decode cX5_kindHere 33 = .ok (.lcmp, 1) := by decide +kernel
theorem dX5_kindHere_34 : decode cX5_kindHere 34 = .ok (.ifCond .ne 7, 3) := by decide +kernel
theorem dX5_kindHere_37 : decode cX5_kindHere 37 = .ok (.iconst 2, 1) := by decide +kernel
theorem dX5_kindHere_38 : decode cX5_kindHere 38 = .ok (.goto 53, 3) := by decide +kernel
theorem dX5_kindHere_41 : decode cX5_kindHere 41 = .ok (.lload_n 1, 1) := by decide +kernel
theorem dX5_kindHere_42 : decode cX5_kindHere 42 = .ok (.ldc2_w 258, 3) := by decide +kernel
theorem dX5_kindHere_45 : decode cX5_kindHere 45 = .ok (.lcmp, 1) := by decide +kernel
theorem dX5_kindHere_46 : decode cX5_kindHere 46 = .ok (.ifCond .ne 7, 3) := by decide +kernel
theorem dX5_kindHere_49 : decode cX5_kindHere 49 = .ok (.iconst 3, 1) := by decide +kernel
theorem dX5_kindHere_50 : decode cX5_kindHere 50 = .ok (.goto 41, 3) := by decide +kernel
theorem dX5_kindHere_53 : decode cX5_kindHere 53 = .ok (.lload_n 1, 1) := by decide +kernel
theorem dX5_kindHere_54 : decode cX5_kindHere 54 = .ok (.ldc2_w 260, 3) := by decide +kernel
theorem dX5_kindHere_57 : decode cX5_kindHere 57 = .ok (.lcmp, 1) := by decide +kernel
theorem dX5_kindHere_58 : decode cX5_kindHere 58 = .ok (.ifCond .ne 7, 3) := by decide +kernel
theorem dX5_kindHere_61 : decode cX5_kindHere 61 = .ok (.iconst 4, 1) := by decide +kernel
theorem dX5_kindHere_62 : decode cX5_kindHere 62 = .ok (.goto 29, 3) := by decide +kernel
theorem dX5_kindHere_65 : decode cX5_kindHere 65 = .ok (.lload_n 1, 1) := by decide +kernel
theorem dX5_kindHere_66 : decode cX5_kindHere 66 = .ok (.ldc2_w 262, 3) := by decide +kernel
theorem dX5_kindHere_69 : decode cX5_kindHere 69 = .ok (.lcmp, 1) := by decide +kernel
theorem dX5_kindHere_70 : decode cX5_kindHere 70 = .ok (.ifCond .ne 7, 3) := by decide +kernel
theorem dX5_kindHere_73 : decode cX5_kindHere 73 = .ok (.iconst 5, 1) := by decide +kernel
theorem dX5_kindHere_74 : decode cX5_kindHere 74 = .ok (.goto 17, 3) := by decide +kernel
theorem dX5_kindHere_77 : decode cX5_kindHere 77 = .ok (.lload_n 1, 1) := by decide +kernel
theorem dX5_kindHere_78 : decode cX5_kindHere 78 = .ok (.ldc2_w 264, 3) := by decide +kernel
theorem dX5_kindHere_81 : decode cX5_kindHere 81 = .ok (.lcmp, 1) := by decide +kernel
theorem dX5_kindHere_82 : decode cX5_kindHere 82 = .ok (.ifCond .ne 8, 3) := by decide +kernel
theorem dX5_kindHere_85 : decode cX5_kindHere 85 = .ok (.bipush 6, 2) := by decide +kernel
theorem dX5_kindHere_87 : decode cX5_kindHere 87 = .ok (.goto 4, 3) := by decide +kernel
theorem dX5_kindHere_90 : decode cX5_kindHere 90 = .ok (.iconst (-1), 1) := by decide +kernel
theorem dX5_kindHere_91 : decode cX5_kindHere 91 = .ok (.ireturn, 1) := by decide +kernel
theorem dX5_kindOf_0 : decode cX5_kindOf 0 = .ok (.aload_n 0, 1) := by decide +kernel
theorem dX5_kindOf_1 : decode cX5_kindOf 1 = .ok (.getfield 7, 3) := by decide +kernel
theorem dX5_kindOf_4 : decode cX5_kindOf 4 = .ok (.iconst 5, 1) := by decide +kernel
theorem dX5_kindOf_5 : decode cX5_kindOf 5 = .ok (.iconst 3, 1) := by decide +kernel
theorem dX5_kindOf_6 : decode cX5_kindOf 6 = .ok (.iload_n 1, 1) := by decide +kernel
theorem dX5_kindOf_7 : decode cX5_kindOf 7 = .ok (.imul, 1) := by decide +kernel
theorem dX5_kindOf_8 : decode cX5_kindOf 8 = .ok (.iadd, 1) := by decide +kernel
theorem dX5_kindOf_9 : decode cX5_kindOf 9 = .ok (.iaload, 1) := by decide +kernel
theorem dX5_kindOf_10 : decode cX5_kindOf 10 = .ok (.ireturn, 1) := by decide +kernel
theorem dX5_law_0 : decode cX5_law 0 = .ok (.iload_n 1, 1) := by decide +kernel
theorem dX5_law_1 : decode cX5_law 1 = .ok (.i2l, 1) := by decide +kernel
theorem dX5_law_2 : decode cX5_law 2 = .ok (.lconst 0, 1) := by decide +kernel
theorem dX5_law_3 : decode cX5_law 3 = .ok (.lconst 1, 1) := by decide +kernel
theorem dX5_law_4 : decode cX5_law 4 = .ok (.invokestatic 46, 3) := by decide +kernel
theorem dX5_law_7 : decode cX5_law 7 = .ok (.ifCond .eq 28, 3) := by decide +kernel
theorem dX5_law_10 : decode cX5_law 10 = .ok (.iload_n 2, 1) := by decide +kernel
theorem dX5_law_11 : decode cX5_law 11 = .ok (.i2l, 1) := by decide +kernel
theorem dX5_law_12 : decode cX5_law 12 = .ok (.iconst 1, 1) := by decide +kernel
theorem dX5_law_13 : decode cX5_law 13 = .ok (.iload_n 1, 1) := by decide +kernel
theorem dX5_law_14 : decode cX5_law 14 = .ok (.isub, 1) := by decide +kernel
theorem dX5_law_15 : decode cX5_law 15 = .ok (.i2l, 1) := by decide +kernel
theorem dX5_law_16 : decode cX5_law 16 = .ok (.iload_n 1, 1) := by decide +kernel
theorem dX5_law_17 : decode cX5_law 17 = .ok (.ifCond .ne 9, 3) := by decide +kernel
theorem dX5_law_20 : decode cX5_law 20 = .ok (.ldc2_w 44, 3) := by decide +kernel
theorem dX5_law_23 : decode cX5_law 23 = .ok (.goto 6, 3) := by decide +kernel
theorem dX5_law_26 : decode cX5_law 26 = .ok (.ldc2_w 73, 3) := by decide +kernel
theorem dX5_law_29 : decode cX5_law 29 = .ok (.invokestatic 46, 3) := by decide +kernel
theorem dX5_law_32 : decode cX5_law 32 = .ok (.ifCond .ne 10, 3) := by decide +kernel
theorem dX5_law_35 : decode cX5_law 35 = .ok (.aload_n 0, 1) := by decide +kernel
theorem dX5_law_36 : decode cX5_law 36 = .ok (.ldc 43, 2) := by decide +kernel
theorem dX5_law_38 : decode cX5_law 38 = .ok (.invokevirtual 75, 3) := by decide +kernel
theorem dX5_law_41 : decode cX5_law 41 = .ok (.ireturn, 1) := by decide +kernel
theorem dX5_law_42 : decode cX5_law 42 = .ok (.aload_n 0, 1) := by decide +kernel
theorem dX5_law_43 : decode cX5_law 43 = .ok (.getfield 7, 3) := by decide +kernel
theorem dX5_law_46 : decode cX5_law 46 = .ok (.iconst 2, 1) := by decide +kernel
theorem dX5_law_47 : decode cX5_law 47 = .ok (.iload_n 1, 1) := by decide +kernel
theorem dX5_law_48 : decode cX5_law 48 = .ok (.iadd, 1) := by decide +kernel
theorem dX5_law_49 : decode cX5_law 49 = .ok (.iaload, 1) := by decide +kernel
theorem dX5_law_50 : decode cX5_law 50 = .ok (.istore_n 3, 1) := by decide +kernel
theorem dX5_law_51 : decode cX5_law 51 = .ok (.aload_n 0, 1) := by decide +kernel
theorem dX5_law_52 : decode cX5_law 52 = .ok (.getfield 7, 3) := by decide +kernel
theorem dX5_law_55 : decode cX5_law 55 = .ok (.iconst 2, 1) := by decide +kernel
theorem dX5_law_56 : decode cX5_law 56 = .ok (.iload_n 1, 1) := by decide +kernel
theorem dX5_law_57 : decode cX5_law 57 = .ok (.iadd, 1) := by decide +kernel
theorem dX5_law_58 : decode cX5_law 58 = .ok (.iload_n 2, 1) := by decide +kernel
theorem dX5_law_59 : decode cX5_law 59 = .ok (.iastore, 1) := by decide +kernel
theorem dX5_law_60 : decode cX5_law 60 = .ok (.iload_n 3, 1) := by decide +kernel
theorem dX5_law_61 : decode cX5_law 61 = .ok (.ireturn, 1) := by decide +kernel
theorem dX5_leastFloor_0 : decode cX5_leastFloor 0 = .ok (.aload_n 0, 1) := by decide +kernel
theorem dX5_leastFloor_1 : decode cX5_leastFloor 1 = .ok (.getfield 7, 3) := by decide +kernel
theorem dX5_leastFloor_4 : decode cX5_leastFloor 4 = .ok (.bipush 77, 2) := by decide +kernel
theorem dX5_leastFloor_6 : decode cX5_leastFloor 6 = .ok (.iconst 3, 1) := by decide +kernel
theorem dX5_leastFloor_7 : decode cX5_leastFloor 7 = .ok (.iload_n 1, 1) := by decide +kernel
theorem dX5_leastFloor_8 : decode cX5_leastFloor 8 = .ok (.imul, 1) := by decide +kernel
theorem dX5_leastFloor_9 : decode cX5_leastFloor 9 = .ok (.iadd, 1) := by decide +kernel
theorem dX5_leastFloor_10 : decode cX5_leastFloor 10 = .ok (.iconst 1, 1) := by decide +kernel
theorem dX5_leastFloor_11 : decode cX5_leastFloor 11 = .ok (.iadd, 1) := by decide +kernel
theorem dX5_leastFloor_12 : decode cX5_leastFloor 12 = .ok (.iaload, 1) := by decide +kernel
theorem dX5_leastFloor_13 : decode cX5_leastFloor 13 = .ok (.istore_n 2, 1) := by decide +kernel
theorem dX5_leastFloor_14 : decode cX5_leastFloor 14 = .ok (.iconst 0, 1) := by decide +kernel
theorem dX5_leastFloor_15 : decode cX5_leastFloor 15 = .ok (.istore_n 3, 1) := by decide +kernel
theorem dX5_leastFloor_16 : decode cX5_leastFloor 16 = .ok (.iconst 0, 1) := by decide +kernel
theorem dX5_leastFloor_17 : decode cX5_leastFloor 17 = .ok (.istore 4, 2) := by decide +kernel
theorem dX5_leastFloor_19 : decode cX5_leastFloor 19 = .ok (.iconst 1, 1) := by decide +kernel
theorem dX5_leastFloor_20 : decode cX5_leastFloor 20 = .ok (.istore 5, 2) := by decide +kernel
theorem dX5_leastFloor_22 : decode cX5_leastFloor 22 = .ok (.iload 5, 2) := by decide +kernel
theorem dX5_leastFloor_24 : decode cX5_leastFloor 24 = .ok (.bipush 40, 2) := by decide +kernel
theorem dX5_leastFloor_26 : decode cX5_leastFloor 26 = .ok (.if_icmp .gt 49, 3) := by decide +kernel
theorem dX5_leastFloor_29 : decode cX5_leastFloor 29 = .ok (.aload_n 0, 1) := by decide +kernel
theorem dX5_leastFloor_30 : decode cX5_leastFloor 30 = .ok (.getfield 7, 3) := by decide +kernel
theorem dX5_leastFloor_33 : decode cX5_leastFloor 33 = .ok (.bipush 77, 2) := by decide +kernel
theorem dX5_leastFloor_35 : decode cX5_leastFloor 35 = .ok (.iconst 3, 1) := by decide +kernel
theorem dX5_leastFloor_36 : decode cX5_leastFloor 36 = .ok (.iload_n 1, 1) := by decide +kernel
theorem dX5_leastFloor_37 : decode cX5_leastFloor 37 = .ok (.imul, 1) := by decide +kernel
theorem dX5_leastFloor_38 : decode cX5_leastFloor 38 = .ok (.iadd, 1) := by decide +kernel
theorem dX5_leastFloor_39 : decode cX5_leastFloor 39 = .ok (.iconst 1, 1) := by decide +kernel
theorem dX5_leastFloor_40 : decode cX5_leastFloor 40 = .ok (.iadd, 1) := by decide +kernel
theorem dX5_leastFloor_41 : decode cX5_leastFloor 41 = .ok (.iload 5, 2) := by decide +kernel
theorem dX5_leastFloor_43 : decode cX5_leastFloor 43 = .ok (.iastore, 1) := by decide +kernel
theorem dX5_leastFloor_44 : decode cX5_leastFloor 44 = .ok (.aload_n 0, 1) := by decide +kernel
theorem dX5_leastFloor_45 : decode cX5_leastFloor 45 = .ok (.iload_n 1, 1) := by decide +kernel
theorem dX5_leastFloor_46 : decode cX5_leastFloor 46 = .ok (.invokevirtual 146, 3) := by decide +kernel
theorem dX5_leastFloor_49 : decode cX5_leastFloor 49 = .ok (.istore 6, 2) := by decide +kernel
theorem dX5_leastFloor_51 : decode cX5_leastFloor 51 = .ok (.iload_n 3, 1) := by decide +kernel
theorem dX5_leastFloor_52 : decode cX5_leastFloor 52 = .ok (.ifCond .eq 10, 3) := by decide +kernel
theorem dX5_leastFloor_55 : decode cX5_leastFloor 55 = .ok (.iload 6, 2) := by decide +kernel
theorem dX5_leastFloor_57 : decode cX5_leastFloor 57 = .ok (.iload 4, 2) := by decide +kernel
theorem dX5_leastFloor_59 : decode cX5_leastFloor 59 = .ok (.if_icmp .ge 10, 3) := by decide +kernel
theorem dX5_leastFloor_62 : decode cX5_leastFloor 62 = .ok (.iload 5, 2) := by decide +kernel
theorem dX5_leastFloor_64 : decode cX5_leastFloor 64 = .ok (.istore_n 3, 1) := by decide +kernel
theorem dX5_leastFloor_65 : decode cX5_leastFloor 65 = .ok (.iload 6, 2) := by decide +kernel
theorem dX5_leastFloor_67 : decode cX5_leastFloor 67 = .ok (.istore 4, 2) := by decide +kernel
theorem dX5_leastFloor_69 : decode cX5_leastFloor 69 = .ok (.iinc 5 1, 3) := by decide +kernel
theorem dX5_leastFloor_72 : decode cX5_leastFloor 72 = .ok (.goto (-50), 3) := by decide +kernel
theorem dX5_leastFloor_75 : decode cX5_leastFloor 75 = .ok (.aload_n 0, 1) := by decide +kernel
theorem dX5_leastFloor_76 : decode cX5_leastFloor 76 = .ok (.getfield 7, 3) := by decide +kernel
theorem dX5_leastFloor_79 : decode cX5_leastFloor 79 = .ok (.bipush 77, 2) := by decide +kernel
theorem dX5_leastFloor_81 : decode cX5_leastFloor 81 = .ok (.iconst 3, 1) := by decide +kernel
theorem dX5_leastFloor_82 : decode cX5_leastFloor 82 = .ok (.iload_n 1, 1) := by decide +kernel
theorem dX5_leastFloor_83 : decode cX5_leastFloor 83 = .ok (.imul, 1) := by decide +kernel
theorem dX5_leastFloor_84 : decode cX5_leastFloor 84 = .ok (.iadd, 1) := by decide +kernel
theorem dX5_leastFloor_85 : decode cX5_leastFloor 85 = .ok (.iconst 1, 1) := by decide +kernel
theorem dX5_leastFloor_86 : decode cX5_leastFloor 86 = .ok (.iadd, 1) := by decide +kernel
theorem dX5_leastFloor_87 : decode cX5_leastFloor 87 = .ok (.iload_n 2, 1) := by decide +kernel
theorem dX5_leastFloor_88 : decode cX5_leastFloor 88 = .ok (.iastore, 1) := by decide +kernel
theorem dX5_leastFloor_89 : decode cX5_leastFloor 89 = .ok (.iload_n 3, 1) := by decide +kernel
theorem dX5_leastFloor_90 : decode cX5_leastFloor 90 = .ok (.ireturn, 1) := by decide +kernel
theorem dX5_load_0 : decode cX5_load 0 = .ok (.aload_n 0, 1) := by decide +kernel
theorem dX5_load_1 : decode cX5_load 1 = .ok (.iload_n 1, 1) := by decide +kernel
theorem dX5_load_2 : decode cX5_load 2 = .ok (.invokevirtual 314, 3) := by decide +kernel
theorem dX5_load_5 : decode cX5_load 5 = .ok (.istore_n 3, 1) := by decide +kernel
theorem dX5_load_6 : decode cX5_load 6 = .ok (.iload_n 3, 1) := by decide +kernel
theorem dX5_load_7 : decode cX5_load 7 = .ok (.ifCond .eq 9, 3) := by decide +kernel
theorem dX5_load_10 : decode cX5_load 10 = .ok (.aload_n 0, 1) := by decide +kernel
theorem dX5_load_11 : decode cX5_load 11 = .ok (.iload_n 3, 1) := by decide +kernel
theorem dX5_load_12 : decode cX5_load 12 = .ok (.invokevirtual 75, 3) := by decide +kernel
theorem dX5_load_15 : decode cX5_load 15 = .ok (.ireturn, 1) := by decide +kernel
theorem dX5_load_16 : decode cX5_load 16 = .ok (.iload_n 2, 1) := by decide +kernel
theorem dX5_load_17 : decode cX5_load 17 = .ok (.invokestatic 58, 3) := by decide +kernel
theorem dX5_load_20 : decode cX5_load 20 = .ok (.ifCond .ne 10, 3) := by decide +kernel
theorem dX5_load_23 : decode cX5_load 23 = .ok (.aload_n 0, 1) := by decide +kernel
theorem dX5_load_24 : decode cX5_load 24 = .ok (.ldc 43, 2) := by decide +kernel
theorem dX5_load_26 : decode cX5_load 26 = .ok (.invokevirtual 75, 3) := by decide +kernel
theorem dX5_load_29 : decode cX5_load 29 = .ok (.ireturn, 1) := by decide +kernel
theorem dX5_load_30 : decode cX5_load 30 = .ok (.iconst 0, 1) := by decide +kernel
theorem dX5_load_31 : decode cX5_load 31 = .ok (.istore 4, 2) := by decide +kernel
theorem dX5_load_33 : decode cX5_load 33 = .ok (.iload 4, 2) := by decide +kernel
theorem dX5_load_35 : decode cX5_load 35 = .ok (.aload_n 0, 1) := by decide +kernel
theorem dX5_load_36 : decode cX5_load 36 = .ok (.getfield 34, 3) := by decide +kernel
theorem dX5_load_39 : decode cX5_load 39 = .ok (.iload_n 1, 1) := by decide +kernel
theorem dX5_load_40 : decode cX5_load 40 = .ok (.iaload, 1) := by decide +kernel
theorem dX5_load_41 : decode cX5_load 41 = .ok (.if_icmp .ge 68, 3) := by decide +kernel
theorem dX5_load_44 : decode cX5_load 44 = .ok (.iload_n 2, 1) := by decide +kernel
theorem dX5_load_45 : decode cX5_load 45 = .ok (.iload 4, 2) := by decide +kernel
theorem dX5_load_47 : decode cX5_load 47 = .ok (.iadd, 1) := by decide +kernel
theorem dX5_load_48 : decode cX5_load 48 = .ok (.bipush 24, 2) := by decide +kernel
theorem dX5_load_50 : decode cX5_load 50 = .ok (.if_icmp .ge 59, 3) := by decide +kernel
theorem dX5_load_53 : decode cX5_load 53 = .ok (.aload_n 0, 1) := by decide +kernel
theorem dX5_load_54 : decode cX5_load 54 = .ok (.getfield 37, 3) := by decide +kernel
theorem dX5_load_57 : decode cX5_load 57 = .ok (.bipush 40, 2) := by decide +kernel
theorem dX5_load_59 : decode cX5_load 59 = .ok (.iload_n 1, 1) := by decide +kernel
theorem dX5_load_60 : decode cX5_load 60 = .ok (.imul, 1) := by decide +kernel
theorem dX5_load_61 : decode cX5_load 61 = .ok (.iload 4, 2) := by decide +kernel
theorem dX5_load_63 : decode cX5_load 63 = .ok (.iadd, 1) := by decide +kernel
theorem dX5_load_64 : decode cX5_load 64 = .ok (.iaload, 1) := by decide +kernel
theorem dX5_load_65 : decode cX5_load 65 = .ok (.i2l, 1) := by decide +kernel
theorem dX5_load_66 : decode cX5_load 66 = .ok (.lconst 0, 1) := by decide +kernel
theorem dX5_load_67 : decode cX5_load 67 = .ok (.ldc2_w 73, 3) := by decide +kernel
theorem dX5_load_70 : decode cX5_load 70 = .ok (.invokestatic 46, 3) := by decide +kernel
theorem dX5_load_73 : decode cX5_load 73 = .ok (.ifCond .eq 36, 3) := by decide +kernel
theorem dX5_load_76 : decode cX5_load 76 = .ok (.aload_n 0, 1) := by decide +kernel
theorem dX5_load_77 : decode cX5_load 77 = .ok (.getfield 7, 3) := by decide +kernel
theorem dX5_load_80 : decode cX5_load 80 = .ok (.iconst 5, 1) := by decide +kernel
theorem dX5_load_81 : decode cX5_load 81 = .ok (.iconst 3, 1) := by decide +kernel
theorem dX5_load_82 : decode cX5_load 82 = .ok (.iload_n 2, 1) := by decide +kernel
theorem dX5_load_83 : decode cX5_load 83 = .ok (.iload 4, 2) := by decide +kernel
theorem dX5_load_85 : decode cX5_load 85 = .ok (.iadd, 1) := by decide +kernel
theorem dX5_load_86 : decode cX5_load 86 = .ok (.imul, 1) := by decide +kernel
theorem dX5_load_87 : decode cX5_load 87 = .ok (.iadd, 1) := by decide +kernel
theorem dX5_load_88 : decode cX5_load 88 = .ok (.iconst 1, 1) := by decide +kernel
theorem dX5_load_89 : decode cX5_load 89 = .ok (.iadd, 1) := by decide +kernel
theorem dX5_load_90 : decode cX5_load 90 = .ok (.aload_n 0, 1) := by decide +kernel
theorem dX5_load_91 : decode cX5_load 91 = .ok (.getfield 37, 3) := by decide +kernel
theorem dX5_load_94 : decode cX5_load 94 = .ok (.bipush 40, 2) := by decide +kernel
theorem dX5_load_96 : decode cX5_load 96 = .ok (.iload_n 1, 1) := by decide +kernel
theorem dX5_load_97 : decode cX5_load 97 = .ok (.imul, 1) := by decide +kernel
theorem dX5_load_98 : decode cX5_load 98 = .ok (.iload 4, 2) := by decide +kernel
theorem dX5_load_100 : decode cX5_load 100 = .ok (.iadd, 1) := by decide +kernel
theorem dX5_load_101 : decode cX5_load 101 = .ok (.iaload, 1) := by decide +kernel
theorem dX5_load_102 : decode cX5_load 102 = .ok (.iastore, 1) := by decide +kernel
theorem dX5_load_103 : decode cX5_load 103 = .ok (.iinc 4 1, 3) := by decide +kernel
theorem dX5_load_106 : decode cX5_load 106 = .ok (.goto (-73), 3) := by decide +kernel
theorem dX5_load_109 : decode cX5_load 109 = .ok (.iload 4, 2) := by decide +kernel
theorem dX5_load_111 : decode cX5_load 111 = .ok (.ireturn, 1) := by decide +kernel
theorem dX5_lost_0 : decode cX5_lost 0 = .ok (.aload_n 0, 1) := by decide +kernel
theorem dX5_lost_1 : decode cX5_lost 1 = .ok (.iload_n 1, 1) := by decide +kernel
theorem dX5_lost_2 : decode cX5_lost 2 = .ok (.invokevirtual 104, 3) := by decide +kernel
theorem dX5_lost_5 : decode cX5_lost 5 = .ok (.ifCond .eq 10, 3) := by decide +kernel
theorem dX5_lost_8 : decode cX5_lost 8 = .ok (.iload_n 2, 1) := by decide +kernel
theorem dX5_lost_9 : decode cX5_lost 9 = .ok (.invokestatic 58, 3) := by decide +kernel
theorem dX5_lost_12 : decode cX5_lost 12 = .ok (.ifCond .ne 10, 3) := by decide +kernel
theorem dX5_lost_15 : decode cX5_lost 15 = .ok (.aload_n 0, 1) := by decide +kernel
theorem dX5_lost_16 : decode cX5_lost 16 = .ok (.ldc 43, 2) := by decide +kernel
theorem dX5_lost_18 : decode cX5_lost 18 = .ok (.invokevirtual 75, 3) := by decide +kernel
theorem dX5_lost_21 : decode cX5_lost 21 = .ok (.ireturn, 1) := by decide +kernel
theorem dX5_lost_22 : decode cX5_lost 22 = .ok (.aload_n 0, 1) := by decide +kernel
theorem dX5_lost_23 : decode cX5_lost 23 = .ok (.bipush 60, 2) := by decide +kernel
theorem dX5_lost_25 : decode cX5_lost 25 = .ok (.invokevirtual 168, 3) := by decide +kernel
theorem dX5_lost_28 : decode cX5_lost 28 = .ok (.ifCond .eq 10, 3) := by decide +kernel
theorem dX5_lost_31 : decode cX5_lost 31 = .ok (.aload_n 0, 1) := by decide +kernel
theorem dX5_lost_32 : decode cX5_lost 32 = .ok (.ldc 144, 2) := by decide +kernel
theorem dX5_lost_34 : decode cX5_lost 34 = .ok (.invokevirtual 75, 3) := by decide +kernel
theorem dX5_lost_37 : decode cX5_lost 37 = .ok (.ireturn, 1) := by decide +kernel
theorem dX5_lost_38 : decode cX5_lost 38 = .ok (.aload_n 0, 1) := by decide +kernel
theorem dX5_lost_39 : decode cX5_lost 39 = .ok (.invokevirtual 171, 3) := by decide +kernel
theorem dX5_lost_42 : decode cX5_lost 42 = .ok (.iconst 0, 1) := by decide +kernel
theorem dX5_lost_43 : decode cX5_lost 43 = .ok (.istore_n 3, 1) := by decide +kernel
theorem dX5_lost_44 : decode cX5_lost 44 = .ok (.iload_n 3, 1) := by decide +kernel
theorem dX5_lost_45 : decode cX5_lost 45 = .ok (.bipush 60, 2) := by decide +kernel
theorem dX5_lost_47 : decode cX5_lost 47 = .ok (.if_icmp .ge 25, 3) := by decide +kernel
theorem dX5_lost_50 : decode cX5_lost 50 = .ok (.aload_n 0, 1) := by decide +kernel
theorem dX5_lost_51 : decode cX5_lost 51 = .ok (.iload_n 1, 1) := by decide +kernel
theorem dX5_lost_52 : decode cX5_lost 52 = .ok (.invokevirtual 141, 3) := by decide +kernel
theorem dX5_lost_55 : decode cX5_lost 55 = .ok (.iload_n 2, 1) := by decide +kernel
theorem dX5_lost_56 : decode cX5_lost 56 = .ok (.invokestatic 127, 3) := by decide +kernel
theorem dX5_lost_59 : decode cX5_lost 59 = .ok (.ifCond .eq 13, 3) := by decide +kernel
theorem dX5_lost_62 : decode cX5_lost 62 = .ok (.aload_n 0, 1) := by decide +kernel
theorem dX5_lost_63 : decode cX5_lost 63 = .ok (.invokevirtual 162, 3) := by decide +kernel
theorem dX5_lost_66 : decode cX5_lost 66 = .ok (.iinc 3 1, 3) := by decide +kernel
theorem dX5_lost_69 : decode cX5_lost 69 = .ok (.goto (-25), 3) := by decide +kernel
theorem dX5_lost_72 : decode cX5_lost 72 = .ok (.aload_n 0, 1) := by decide +kernel
theorem dX5_lost_73 : decode cX5_lost 73 = .ok (.iload_n 1, 1) := by decide +kernel
theorem dX5_lost_74 : decode cX5_lost 74 = .ok (.invokevirtual 141, 3) := by decide +kernel
theorem dX5_lost_77 : decode cX5_lost 77 = .ok (.iload_n 2, 1) := by decide +kernel
theorem dX5_lost_78 : decode cX5_lost 78 = .ok (.invokestatic 127, 3) := by decide +kernel
theorem dX5_lost_81 : decode cX5_lost 81 = .ok (.ifCond .ne 7, 3) := by decide +kernel
theorem dX5_lost_84 : decode cX5_lost 84 = .ok (.iconst 1, 1) := by decide +kernel
theorem dX5_lost_85 : decode cX5_lost 85 = .ok (.goto 4, 3) := by decide +kernel
theorem dX5_lost_88 : decode cX5_lost 88 = .ok (.iconst 0, 1) := by decide +kernel
theorem dX5_lost_89 : decode cX5_lost 89 = .ok (.istore 4, 2) := by decide +kernel
theorem dX5_lost_91 : decode cX5_lost 91 = .ok (.aload_n 0, 1) := by decide +kernel
theorem dX5_lost_92 : decode cX5_lost 92 = .ok (.invokevirtual 178, 3) := by decide +kernel
theorem dX5_lost_95 : decode cX5_lost 95 = .ok (.iload 4, 2) := by decide +kernel
theorem dX5_lost_97 : decode cX5_lost 97 = .ok (.ifCond .eq 7, 3) := by decide +kernel
theorem dX5_lost_100 : decode cX5_lost 100 = .ok (.iload_n 3, 1) := by decide +kernel
theorem dX5_lost_101 : decode cX5_lost 101 = .ok (.goto 9, 3) := by decide +kernel
theorem dX5_lost_104 : decode cX5_lost 104 = .ok (.aload_n 0, 1) := by decide +kernel
theorem dX5_lost_105 : decode cX5_lost 105 = .ok (.ldc 145, 2) := by decide +kernel
theorem dX5_lost_107 : decode cX5_lost 107 = .ok (.invokevirtual 75, 3) := by decide +kernel
theorem dX5_lost_110 : decode cX5_lost 110 = .ok (.ireturn, 1) := by decide +kernel
theorem dX5_lowers_0 : decode cX5_lowers 0 = .ok (.aload_n 0, 1) := by decide +kernel
theorem dX5_lowers_1 : decode cX5_lowers 1 = .ok (.getfield 7, 3) := by decide +kernel
theorem dX5_lowers_4 : decode cX5_lowers 4 = .ok (.iconst 5, 1) := by decide +kernel
theorem dX5_lowers_5 : decode cX5_lowers 5 = .ok (.iconst 3, 1) := by decide +kernel
theorem dX5_lowers_6 : decode cX5_lowers 6 = .ok (.iload_n 1, 1) := by decide +kernel
theorem dX5_lowers_7 : decode cX5_lowers 7 = .ok (.imul, 1) := by decide +kernel
theorem dX5_lowers_8 : decode cX5_lowers 8 = .ok (.iadd, 1) := by decide +kernel
theorem dX5_lowers_9 : decode cX5_lowers 9 = .ok (.iconst 1, 1) := by decide +kernel
theorem dX5_lowers_10 : decode cX5_lowers 10 = .ok (.iadd, 1) := by decide +kernel
theorem dX5_lowers_11 : decode cX5_lowers 11 = .ok (.aload_n 0, 1) := by decide +kernel
theorem dX5_lowers_12 : decode cX5_lowers 12 = .ok (.iload_n 1, 1) := by decide +kernel
theorem dX5_lowers_13 : decode cX5_lowers 13 = .ok (.invokevirtual 70, 3) := by decide +kernel
theorem dX5_lowers_16 : decode cX5_lowers 16 = .ok (.iload_n 2, 1) := by decide +kernel
theorem dX5_lowers_17 : decode cX5_lowers 17 = .ok (.if_icmp .ge 7, 3) := by decide +kernel
theorem dX5_lowers_20 : decode cX5_lowers 20 = .ok (.iconst 0, 1) := by decide +kernel
theorem dX5_lowers_21 : decode cX5_lowers 21 = .ok (.goto 10, 3) := by decide +kernel
theorem dX5_lowers_24 : decode cX5_lowers 24 = .ok (.aload_n 0, 1) := by decide +kernel
theorem dX5_lowers_25 : decode cX5_lowers 25 = .ok (.iload_n 1, 1) := by decide +kernel
theorem dX5_lowers_26 : decode cX5_lowers 26 = .ok (.invokevirtual 70, 3) := by decide +kernel
theorem dX5_lowers_29 : decode cX5_lowers 29 = .ok (.iload_n 2, 1) := by decide +kernel
theorem dX5_lowers_30 : decode cX5_lowers 30 = .ok (.isub, 1) := by decide +kernel
theorem dX5_lowers_31 : decode cX5_lowers 31 = .ok (.iastore, 1) := by decide +kernel
theorem dX5_lowers_32 : decode cX5_lowers 32 = .ok (.return_, 1) := by decide +kernel
theorem dX5_narrowed_0 : decode cX5_narrowed 0 = .ok (.iload_n 0, 1) := by decide +kernel
theorem dX5_narrowed_1 : decode cX5_narrowed 1 = .ok (.bipush 8, 2) := by decide +kernel
theorem dX5_narrowed_3 : decode cX5_narrowed 3 = .ok (.if_icmp .ne 8, 3) := by decide +kernel
theorem dX5_narrowed_6 : decode cX5_narrowed 6 = .ok (.iload_n 1, 1) := by decide +kernel
theorem dX5_narrowed_7 : decode cX5_narrowed 7 = .ok (.i2b, 1) := by decide +kernel
theorem dX5_narrowed_8 : decode cX5_narrowed 8 = .ok (.goto 15, 3) := by decide +kernel
theorem dX5_narrowed_11 : decode cX5_narrowed 11 = .ok (.iload_n 0, 1) := by decide +kernel
theorem dX5_narrowed_12 : decode cX5_narrowed 12 = .ok (.bipush 16, 2) := by decide +kernel
theorem dX5_narrowed_14 : decode cX5_narrowed 14 = .ok (.if_icmp .ne 8, 3) := by decide +kernel
theorem dX5_narrowed_17 : decode cX5_narrowed 17 = .ok (.iload_n 1, 1) := by decide +kernel
theorem dX5_narrowed_18 : decode cX5_narrowed 18 = .ok (.i2s, 1) := by decide +kernel
theorem dX5_narrowed_19 : decode cX5_narrowed 19 = .ok (.goto 4, 3) := by decide +kernel
theorem dX5_narrowed_22 : decode cX5_narrowed 22 = .ok (.iload_n 1, 1) := by decide +kernel
theorem dX5_narrowed_23 : decode cX5_narrowed 23 = .ok (.ireturn, 1) := by decide +kernel
theorem dX5_needs_0 : decode cX5_needs 0 = .ok (.aload_n 0, 1) := by decide +kernel
theorem dX5_needs_1 : decode cX5_needs 1 = .ok (.aload_n 0, 1) := by decide +kernel
theorem dX5_needs_2 : decode cX5_needs 2 = .ok (.getfield 230, 3) := by decide +kernel
theorem dX5_needs_5 : decode cX5_needs 5 = .ok (.ifCond .ne 7, 3) := by decide +kernel
theorem dX5_needs_8 : decode cX5_needs 8 = .ok (.iload_n 1, 1) := by decide +kernel
theorem dX5_needs_9 : decode cX5_needs 9 = .ok (.ifCond .ne 7, 3) := by decide +kernel
theorem dX5_needs_12 : decode cX5_needs 12 = .ok (.iconst 1, 1) := by decide +kernel
theorem dX5_needs_13 : decode cX5_needs 13 = .ok (.goto 4, 3) := by decide +kernel
theorem dX5_needs_16 : decode cX5_needs 16 = .ok (.iconst 0, 1) := by decide +kernel
theorem dX5_needs_17 : decode cX5_needs 17 = .ok (.putfield 230, 3) := by decide +kernel
theorem dX5_needs_20 : decode cX5_needs 20 = .ok (.aload_n 0, 1) := by decide +kernel
theorem dX5_needs_21 : decode cX5_needs 21 = .ok (.getfield 230, 3) := by decide +kernel
theorem dX5_needs_24 : decode cX5_needs 24 = .ok (.ifCond .ne 7, 3) := by decide +kernel
theorem dX5_needs_27 : decode cX5_needs 27 = .ok (.aload_n 0, 1) := by decide +kernel
theorem dX5_needs_28 : decode cX5_needs 28 = .ok (.invokevirtual 234, 3) := by decide +kernel
theorem dX5_needs_31 : decode cX5_needs 31 = .ok (.return_, 1) := by decide +kernel
theorem dX5_neighbours_0 : decode cX5_neighbours 0 = .ok (.aload_n 0, 1) := by decide +kernel
theorem dX5_neighbours_1 : decode cX5_neighbours 1 = .ok (.iload_n 1, 1) := by decide +kernel
theorem dX5_neighbours_2 : decode cX5_neighbours 2 = .ok (.invokevirtual 104, 3) := by decide +kernel
theorem dX5_neighbours_5 : decode cX5_neighbours 5 = .ok (.ifCond .ne 10, 3) := by decide +kernel
theorem dX5_neighbours_8 : decode cX5_neighbours 8 = .ok (.aload_n 0, 1) := by decide +kernel
theorem dX5_neighbours_9 : decode cX5_neighbours 9 = .ok (.ldc 43, 2) := by decide +kernel
theorem dX5_neighbours_11 : decode cX5_neighbours 11 = .ok (.invokevirtual 75, 3) := by decide +kernel
theorem dX5_neighbours_14 : decode cX5_neighbours 14 = .ok (.ireturn, 1) := by decide +kernel
theorem dX5_neighbours_15 : decode cX5_neighbours 15 = .ok (.aload_n 0, 1) := by decide +kernel
theorem dX5_neighbours_16 : decode cX5_neighbours 16 = .ok (.iload_n 1, 1) := by decide +kernel
theorem dX5_neighbours_17 : decode cX5_neighbours 17 = .ok (.invokevirtual 141, 3) := by decide +kernel
theorem dX5_neighbours_20 : decode cX5_neighbours 20 = .ok (.istore_n 2, 1) := by decide +kernel
theorem dX5_neighbours_21 : decode cX5_neighbours 21 = .ok (.iconst 0, 1) := by decide +kernel
theorem dX5_neighbours_22 : decode cX5_neighbours 22 = .ok (.istore_n 3, 1) := by decide +kernel
theorem dX5_neighbours_23 : decode cX5_neighbours 23 = .ok (.iconst 0, 1) := by decide +kernel
theorem dX5_neighbours_24 : decode cX5_neighbours 24 = .ok (.istore 4, 2) := by decide +kernel
theorem dX5_neighbours_26 : decode cX5_neighbours 26 = .ok (.iload 4, 2) := by decide +kernel
theorem dX5_neighbours_28 : decode cX5_neighbours 28 = .ok (.aload_n 0, 1) := by decide +kernel
theorem dX5_neighbours_29 : decode cX5_neighbours 29 = .ok (.getfield 7, 3) := by decide +kernel
theorem dX5_neighbours_32 : decode cX5_neighbours 32 = .ok (.iconst 1, 1) := by decide +kernel
theorem dX5_neighbours_33 : decode cX5_neighbours 33 = .ok (.iaload, 1) := by decide +kernel
theorem dX5_neighbours_34 : decode cX5_neighbours 34 = .ok (.if_icmp .ge 39, 3) := by decide +kernel
theorem dX5_neighbours_37 : decode cX5_neighbours 37 = .ok (.iload_n 3, 1) := by decide +kernel
theorem dX5_neighbours_38 : decode cX5_neighbours 38 = .ok (.iload 4, 2) := by decide +kernel
theorem dX5_neighbours_40 : decode cX5_neighbours 40 = .ok (.iload_n 1, 1) := by decide +kernel
theorem dX5_neighbours_41 : decode cX5_neighbours 41 = .ok (.if_icmp .eq 23, 3) := by decide +kernel
theorem dX5_neighbours_44 : decode cX5_neighbours 44 = .ok (.iload_n 2, 1) := by decide +kernel
theorem dX5_neighbours_45 : decode cX5_neighbours 45 = .ok (.aload_n 0, 1) := by decide +kernel
theorem dX5_neighbours_46 : decode cX5_neighbours 46 = .ok (.iload 4, 2) := by decide +kernel
theorem dX5_neighbours_48 : decode cX5_neighbours 48 = .ok (.invokevirtual 93, 3) := by decide +kernel
theorem dX5_neighbours_51 : decode cX5_neighbours 51 = .ok (.invokestatic 127, 3) := by decide +kernel
theorem dX5_neighbours_54 : decode cX5_neighbours 54 = .ok (.ifCond .eq 10, 3) := by decide +kernel
theorem dX5_neighbours_57 : decode cX5_neighbours 57 = .ok (.iconst 1, 1) := by decide +kernel
theorem dX5_neighbours_58 : decode cX5_neighbours 58 = .ok (.iload 4, 2) := by decide +kernel
theorem dX5_neighbours_60 : decode cX5_neighbours 60 = .ok (.ishl, 1) := by decide +kernel
theorem dX5_neighbours_61 : decode cX5_neighbours 61 = .ok (.goto 4, 3) := by decide +kernel
theorem dX5_neighbours_64 : decode cX5_neighbours 64 = .ok (.iconst 0, 1) := by decide +kernel
theorem dX5_neighbours_65 : decode cX5_neighbours 65 = .ok (.ior, 1) := by decide +kernel
theorem dX5_neighbours_66 : decode cX5_neighbours 66 = .ok (.istore_n 3, 1) := by decide +kernel
theorem dX5_neighbours_67 : decode cX5_neighbours 67 = .ok (.iinc 4 1, 3) := by decide +kernel
theorem dX5_neighbours_70 : decode cX5_neighbours 70 = .ok (.goto (-44), 3) := by decide +kernel
theorem dX5_neighbours_73 : decode cX5_neighbours 73 = .ok (.iload_n 3, 1) := by decide +kernel
theorem dX5_neighbours_74 : decode cX5_neighbours 74 = .ok (.ireturn, 1) := by decide +kernel
theorem dX5_newHouse_0 : decode cX5_newHouse 0 = .ok (.bipush 77, 2) := by decide +kernel
theorem dX5_newHouse_2 : decode cX5_newHouse 2 = .ok (.iconst 3, 1) := by decide +kernel
theorem dX5_newHouse_3 : decode cX5_newHouse 3 = .ok (.aload_n 0, 1) := by decide +kernel
theorem dX5_newHouse_4 : decode cX5_newHouse 4 = .ok (.getfield 7, 3) := by decide +kernel
theorem dX5_newHouse_7 : decode cX5_newHouse 7 = .ok (.iconst 1, 1) := by decide +kernel
theorem dX5_newHouse_8 : decode cX5_newHouse 8 = .ok (.iaload, 1) := by decide +kernel
theorem dX5_newHouse_9 : decode cX5_newHouse 9 = .ok (.imul, 1) := by decide +kernel
theorem dX5_newHouse_10 : decode cX5_newHouse 10 = .ok (.iadd, 1) := by decide +kernel
theorem dX5_newHouse_11 : decode cX5_newHouse 11 = .ok (.istore 4, 2) := by decide +kernel
theorem dX5_newHouse_13 : decode cX5_newHouse 13 = .ok (.aload_n 0, 1) := by decide +kernel
theorem dX5_newHouse_14 : decode cX5_newHouse 14 = .ok (.getfield 7, 3) := by decide +kernel
theorem dX5_newHouse_17 : decode cX5_newHouse 17 = .ok (.iload 4, 2) := by decide +kernel
theorem dX5_newHouse_19 : decode cX5_newHouse 19 = .ok (.iload_n 1, 1) := by decide +kernel
theorem dX5_newHouse_20 : decode cX5_newHouse 20 = .ok (.iastore, 1) := by decide +kernel
theorem dX5_newHouse_21 : decode cX5_newHouse 21 = .ok (.aload_n 0, 1) := by decide +kernel
theorem dX5_newHouse_22 : decode cX5_newHouse 22 = .ok (.getfield 7, 3) := by decide +kernel
theorem dX5_newHouse_25 : decode cX5_newHouse 25 = .ok (.iload 4, 2) := by decide +kernel
theorem dX5_newHouse_27 : decode cX5_newHouse 27 = .ok (.iconst 1, 1) := by decide +kernel
theorem dX5_newHouse_28 : decode cX5_newHouse 28 = .ok (.iadd, 1) := by decide +kernel
theorem dX5_newHouse_29 : decode cX5_newHouse 29 = .ok (.iload_n 2, 1) := by decide +kernel
theorem dX5_newHouse_30 : decode cX5_newHouse 30 = .ok (.iastore, 1) := by decide +kernel
theorem dX5_newHouse_31 : decode cX5_newHouse 31 = .ok (.aload_n 0, 1) := by decide +kernel
theorem dX5_newHouse_32 : decode cX5_newHouse 32 = .ok (.getfield 7, 3) := by decide +kernel
theorem dX5_newHouse_35 : decode cX5_newHouse 35 = .ok (.iload 4, 2) := by decide +kernel
theorem dX5_newHouse_37 : decode cX5_newHouse 37 = .ok (.iconst 2, 1) := by decide +kernel
theorem dX5_newHouse_38 : decode cX5_newHouse 38 = .ok (.iadd, 1) := by decide +kernel
theorem dX5_newHouse_39 : decode cX5_newHouse 39 = .ok (.iload_n 3, 1) := by decide +kernel
theorem dX5_newHouse_40 : decode cX5_newHouse 40 = .ok (.iastore, 1) := by decide +kernel
theorem dX5_newHouse_41 : decode cX5_newHouse 41 = .ok (.aload_n 0, 1) := by decide +kernel
theorem dX5_newHouse_42 : decode cX5_newHouse 42 = .ok (.getfield 7, 3) := by decide +kernel
theorem dX5_newHouse_45 : decode cX5_newHouse 45 = .ok (.iconst 1, 1) := by decide +kernel
theorem dX5_newHouse_46 : decode cX5_newHouse 46 = .ok (.dup2, 1) := by decide +kernel
theorem dX5_newHouse_47 : decode cX5_newHouse 47 = .ok (.iaload, 1) := by decide +kernel
theorem dX5_newHouse_48 : decode cX5_newHouse 48 = .ok (.iconst 1, 1) := by decide +kernel
theorem dX5_newHouse_49 : decode cX5_newHouse 49 = .ok (.iadd, 1) := by decide +kernel
theorem dX5_newHouse_50 : decode cX5_newHouse 50 = .ok (.iastore, 1) := by decide +kernel
theorem dX5_newHouse_51 : decode cX5_newHouse 51 = .ok (.aload_n 0, 1) := by decide +kernel
theorem dX5_newHouse_52 : decode cX5_newHouse 52 = .ok (.getfield 7, 3) := by decide +kernel
theorem dX5_newHouse_55 : decode cX5_newHouse 55 = .ok (.iconst 1, 1) := by decide +kernel
theorem dX5_newHouse_56 : decode cX5_newHouse 56 = .ok (.iaload, 1) := by decide +kernel
theorem dX5_newHouse_57 : decode cX5_newHouse 57 = .ok (.iconst 1, 1) := by decide +kernel
theorem dX5_newHouse_58 : decode cX5_newHouse 58 = .ok (.isub, 1) := by decide +kernel
theorem dX5_newHouse_59 : decode cX5_newHouse 59 = .ok (.ireturn, 1) := by decide +kernel
theorem dX5_next_0 : decode cX5_next 0 = .ok (.aload_n 0, 1) := by decide +kernel
theorem dX5_next_1 : decode cX5_next 1 = .ok (.getfield 7, 3) := by decide +kernel
theorem dX5_next_4 : decode cX5_next 4 = .ok (.iconst 4, 1) := by decide +kernel
theorem dX5_next_5 : decode cX5_next 5 = .ok (.aload_n 0, 1) := by decide +kernel
theorem dX5_next_6 : decode cX5_next 6 = .ok (.getfield 7, 3) := by decide +kernel
theorem dX5_next_9 : decode cX5_next 9 = .ok (.iconst 4, 1) := by decide +kernel
theorem dX5_next_10 : decode cX5_next 10 = .ok (.iaload, 1) := by decide +kernel
theorem dX5_next_11 : decode cX5_next 11 = .ok (.ldc 62, 2) := by decide +kernel
theorem dX5_next_13 : decode cX5_next 13 = .ok (.imul, 1) := by decide +kernel
theorem dX5_next_14 : decode cX5_next 14 = .ok (.sipush 12345, 3) := by decide +kernel
theorem dX5_next_17 : decode cX5_next 17 = .ok (.iadd, 1) := by decide +kernel
theorem dX5_next_18 : decode cX5_next 18 = .ok (.iastore, 1) := by decide +kernel
theorem dX5_next_19 : decode cX5_next 19 = .ok (.aload_n 0, 1) := by decide +kernel
theorem dX5_next_20 : decode cX5_next 20 = .ok (.getfield 7, 3) := by decide +kernel
theorem dX5_next_23 : decode cX5_next 23 = .ok (.iconst 4, 1) := by decide +kernel
theorem dX5_next_24 : decode cX5_next 24 = .ok (.iaload, 1) := by decide +kernel
theorem dX5_next_25 : decode cX5_next 25 = .ok (.bipush 8, 2) := by decide +kernel
theorem dX5_next_27 : decode cX5_next 27 = .ok (.iushr, 1) := by decide +kernel
theorem dX5_next_28 : decode cX5_next 28 = .ok (.ireturn, 1) := by decide +kernel
theorem dX5_number_0 : decode cX5_number 0 = .ok (.aload_n 0, 1) := by decide +kernel
theorem dX5_number_1 : decode cX5_number 1 = .ok (.getfield 230, 3) := by decide +kernel
theorem dX5_number_4 : decode cX5_number 4 = .ok (.ifCond .eq 4, 3) := by decide +kernel
theorem dX5_number_7 : decode cX5_number 7 = .ok (.return_, 1) := by decide +kernel
theorem dX5_number_8 : decode cX5_number 8 = .ok (.aload_n 0, 1) := by decide +kernel
theorem dX5_number_9 : decode cX5_number 9 = .ok (.aload_n 0, 1) := by decide +kernel
theorem dX5_number_10 : decode cX5_number 10 = .ok (.getfield 218, 3) := by decide +kernel
theorem dX5_number_13 : decode cX5_number 13 = .ok (.invokevirtual 221, 3) := by decide +kernel
theorem dX5_number_16 : decode cX5_number 16 = .ok (.invokestatic 227, 3) := by decide +kernel
theorem dX5_number_19 : decode cX5_number 19 = .ok (.istore_n 3, 1) := by decide +kernel
theorem dX5_number_20 : decode cX5_number 20 = .ok (.iconst 0, 1) := by decide +kernel
theorem dX5_number_21 : decode cX5_number 21 = .ok (.istore 4, 2) := by decide +kernel
theorem dX5_number_23 : decode cX5_number 23 = .ok (.aload_n 0, 1) := by decide +kernel
theorem dX5_number_24 : decode cX5_number 24 = .ok (.getfield 218, 3) := by decide +kernel
theorem dX5_number_27 : decode cX5_number 27 = .ok (.istore 5, 2) := by decide +kernel
theorem dX5_number_29 : decode cX5_number 29 = .ok (.iload 5, 2) := by decide +kernel
theorem dX5_number_31 : decode cX5_number 31 = .ok (.aload_n 0, 1) := by decide +kernel
theorem dX5_number_32 : decode cX5_number 32 = .ok (.getfield 215, 3) := by decide +kernel
theorem dX5_number_35 : decode cX5_number 35 = .ok (.if_icmp .ge 44, 3) := by decide +kernel
theorem dX5_number_38 : decode cX5_number 38 = .ok (.iload_n 3, 1) := by decide +kernel
theorem dX5_number_39 : decode cX5_number 39 = .ok (.ifCond .eq 40, 3) := by decide +kernel
theorem dX5_number_42 : decode cX5_number 42 = .ok (.iload 4, 2) := by decide +kernel
theorem dX5_number_44 : decode cX5_number 44 = .ok (.sipush 999, 3) := by decide +kernel
theorem dX5_number_47 : decode cX5_number 47 = .ok (.if_icmp .le 8, 3) := by decide +kernel
theorem dX5_number_50 : decode cX5_number 50 = .ok (.iload 4, 2) := by decide +kernel
theorem dX5_number_52 : decode cX5_number 52 = .ok (.goto 19, 3) := by decide +kernel
theorem dX5_number_55 : decode cX5_number 55 = .ok (.bipush 10, 2) := by decide +kernel
theorem dX5_number_57 : decode cX5_number 57 = .ok (.iload 4, 2) := by decide +kernel
theorem dX5_number_59 : decode cX5_number 59 = .ok (.imul, 1) := by decide +kernel
theorem dX5_number_60 : decode cX5_number 60 = .ok (.aload_n 0, 1) := by decide +kernel
theorem dX5_number_61 : decode cX5_number 61 = .ok (.getfield 28, 3) := by decide +kernel
theorem dX5_number_64 : decode cX5_number 64 = .ok (.iload 5, 2) := by decide +kernel
theorem dX5_number_66 : decode cX5_number 66 = .ok (.iaload, 1) := by decide +kernel
theorem dX5_number_67 : decode cX5_number 67 = .ok (.iadd, 1) := by decide +kernel
theorem dX5_number_68 : decode cX5_number 68 = .ok (.bipush 48, 2) := by decide +kernel
theorem dX5_number_70 : decode cX5_number 70 = .ok (.isub, 1) := by decide +kernel
theorem dX5_number_71 : decode cX5_number 71 = .ok (.istore 4, 2) := by decide +kernel
theorem dX5_number_73 : decode cX5_number 73 = .ok (.iinc 5 1, 3) := by decide +kernel
theorem dX5_number_76 : decode cX5_number 76 = .ok (.goto (-47), 3) := by decide +kernel
theorem dX5_number_79 : decode cX5_number 79 = .ok (.aload_n 0, 1) := by decide +kernel
theorem dX5_number_80 : decode cX5_number 80 = .ok (.iload 4, 2) := by decide +kernel
theorem dX5_number_82 : decode cX5_number 82 = .ok (.putfield 241, 3) := by decide +kernel
theorem dX5_number_85 : decode cX5_number 85 = .ok (.aload_n 0, 1) := by decide +kernel
theorem dX5_number_86 : decode cX5_number 86 = .ok (.iload_n 3, 1) := by decide +kernel
theorem dX5_number_87 : decode cX5_number 87 = .ok (.ifCond .eq 20, 3) := by decide +kernel
theorem dX5_number_90 : decode cX5_number 90 = .ok (.iload 4, 2) := by decide +kernel
theorem dX5_number_92 : decode cX5_number 92 = .ok (.i2l, 1) := by decide +kernel
theorem dX5_number_93 : decode cX5_number 93 = .ok (.iload_n 1, 1) := by decide +kernel
theorem dX5_number_94 : decode cX5_number 94 = .ok (.i2l, 1) := by decide +kernel
theorem dX5_number_95 : decode cX5_number 95 = .ok (.iload_n 2, 1) := by decide +kernel
theorem dX5_number_96 : decode cX5_number 96 = .ok (.i2l, 1) := by decide +kernel
theorem dX5_number_97 : decode cX5_number 97 = .ok (.invokestatic 46, 3) := by decide +kernel
theorem dX5_number_100 : decode cX5_number 100 = .ok (.ifCond .eq 7, 3) := by decide +kernel
theorem dX5_number_103 : decode cX5_number 103 = .ok (.iconst 1, 1) := by decide +kernel
theorem dX5_number_104 : decode cX5_number 104 = .ok (.goto 4, 3) := by decide +kernel
theorem dX5_number_107 : decode cX5_number 107 = .ok (.iconst 0, 1) := by decide +kernel
theorem dX5_number_108 : decode cX5_number 108 = .ok (.invokevirtual 244, 3) := by decide +kernel
theorem dX5_number_111 : decode cX5_number 111 = .ok (.return_, 1) := by decide +kernel
theorem dX5_ones_0 : decode cX5_ones 0 = .ok (.iconst 0, 1) := by decide +kernel
theorem dX5_ones_1 : decode cX5_ones 1 = .ok (.istore_n 1, 1) := by decide +kernel
theorem dX5_ones_2 : decode cX5_ones 2 = .ok (.iload_n 0, 1) := by decide +kernel
theorem dX5_ones_3 : decode cX5_ones 3 = .ok (.istore_n 2, 1) := by decide +kernel
theorem dX5_ones_4 : decode cX5_ones 4 = .ok (.iload_n 2, 1) := by decide +kernel
theorem dX5_ones_5 : decode cX5_ones 5 = .ok (.ifCond .eq 15, 3) := by decide +kernel
theorem dX5_ones_8 : decode cX5_ones 8 = .ok (.iinc 1 1, 3) := by decide +kernel
theorem dX5_ones_11 : decode cX5_ones 11 = .ok (.iload_n 2, 1) := by decide +kernel
theorem dX5_ones_12 : decode cX5_ones 12 = .ok (.iload_n 2, 1) := by decide +kernel
theorem dX5_ones_13 : decode cX5_ones 13 = .ok (.iconst 1, 1) := by decide +kernel
theorem dX5_ones_14 : decode cX5_ones 14 = .ok (.isub, 1) := by decide +kernel
theorem dX5_ones_15 : decode cX5_ones 15 = .ok (.iand, 1) := by decide +kernel
theorem dX5_ones_16 : decode cX5_ones 16 = .ok (.istore_n 2, 1) := by decide +kernel
theorem dX5_ones_17 : decode cX5_ones 17 = .ok (.goto (-13), 3) := by decide +kernel
theorem dX5_ones_20 : decode cX5_ones 20 = .ok (.iload_n 1, 1) := by decide +kernel
theorem dX5_ones_21 : decode cX5_ones 21 = .ok (.ireturn, 1) := by decide +kernel
theorem dX5_openOf_0 : decode cX5_openOf 0 = .ok (.aload_n 0, 1) := by decide +kernel
theorem dX5_openOf_1 : decode cX5_openOf 1 = .ok (.getfield 7, 3) := by decide +kernel
theorem dX5_openOf_4 : decode cX5_openOf 4 = .ok (.bipush 77, 2) := by decide +kernel
theorem dX5_openOf_6 : decode cX5_openOf 6 = .ok (.iconst 3, 1) := by decide +kernel
theorem dX5_openOf_7 : decode cX5_openOf 7 = .ok (.iload_n 1, 1) := by decide +kernel
theorem dX5_openOf_8 : decode cX5_openOf 8 = .ok (.imul, 1) := by decide +kernel
theorem dX5_openOf_9 : decode cX5_openOf 9 = .ok (.iadd, 1) := by decide +kernel
theorem dX5_openOf_10 : decode cX5_openOf 10 = .ok (.iconst 2, 1) := by decide +kernel
theorem dX5_openOf_11 : decode cX5_openOf 11 = .ok (.iadd, 1) := by decide +kernel
theorem dX5_openOf_12 : decode cX5_openOf 12 = .ok (.iaload, 1) := by decide +kernel
theorem dX5_openOf_13 : decode cX5_openOf 13 = .ok (.ireturn, 1) := by decide +kernel
theorem dX5_perhaps_0 : decode cX5_perhaps 0 = .ok (.iload_n 1, 1) := by decide +kernel
theorem dX5_perhaps_1 : decode cX5_perhaps 1 = .ok (.ifCond .ne 6, 3) := by decide +kernel
theorem dX5_perhaps_4 : decode cX5_perhaps 4 = .ok (.iload 4, 2) := by decide +kernel
theorem dX5_perhaps_6 : decode cX5_perhaps 6 = .ok (.ireturn, 1) := by decide +kernel
theorem dX5_perhaps_7 : decode cX5_perhaps 7 = .ok (.aload_n 0, 1) := by decide +kernel
theorem dX5_perhaps_8 : decode cX5_perhaps 8 = .ok (.iconst 1, 1) := by decide +kernel
theorem dX5_perhaps_9 : decode cX5_perhaps 9 = .ok (.invokevirtual 244, 3) := by decide +kernel
theorem dX5_perhaps_12 : decode cX5_perhaps 12 = .ok (.aload_n 0, 1) := by decide +kernel
theorem dX5_perhaps_13 : decode cX5_perhaps 13 = .ok (.iload_n 2, 1) := by decide +kernel
theorem dX5_perhaps_14 : decode cX5_perhaps 14 = .ok (.iload_n 3, 1) := by decide +kernel
theorem dX5_perhaps_15 : decode cX5_perhaps 15 = .ok (.invokevirtual 266, 3) := by decide +kernel
theorem dX5_perhaps_18 : decode cX5_perhaps 18 = .ok (.aload_n 0, 1) := by decide +kernel
theorem dX5_perhaps_19 : decode cX5_perhaps 19 = .ok (.getfield 241, 3) := by decide +kernel
theorem dX5_perhaps_22 : decode cX5_perhaps 22 = .ok (.ireturn, 1) := by decide +kernel
theorem dX5_plant_0 : decode cX5_plant 0 = .ok (.iload_n 1, 1) := by decide +kernel
theorem dX5_plant_1 : decode cX5_plant 1 = .ok (.invokestatic 78, 3) := by decide +kernel
theorem dX5_plant_4 : decode cX5_plant 4 = .ok (.ifCond .ne 10, 3) := by decide +kernel
theorem dX5_plant_7 : decode cX5_plant 7 = .ok (.aload_n 0, 1) := by decide +kernel
theorem dX5_plant_8 : decode cX5_plant 8 = .ok (.ldc 43, 2) := by decide +kernel
theorem dX5_plant_10 : decode cX5_plant 10 = .ok (.invokevirtual 75, 3) := by decide +kernel
theorem dX5_plant_13 : decode cX5_plant 13 = .ok (.ireturn, 1) := by decide +kernel
theorem dX5_plant_14 : decode cX5_plant 14 = .ok (.iconst (-1), 1) := by decide +kernel
theorem dX5_plant_15 : decode cX5_plant 15 = .ok (.istore_n 2, 1) := by decide +kernel
theorem dX5_plant_16 : decode cX5_plant 16 = .ok (.iconst 0, 1) := by decide +kernel
theorem dX5_plant_17 : decode cX5_plant 17 = .ok (.istore_n 3, 1) := by decide +kernel
theorem dX5_plant_18 : decode cX5_plant 18 = .ok (.aload_n 0, 1) := by decide +kernel
theorem dX5_plant_19 : decode cX5_plant 19 = .ok (.invokevirtual 171, 3) := by decide +kernel
theorem dX5_plant_22 : decode cX5_plant 22 = .ok (.iconst 0, 1) := by decide +kernel
theorem dX5_plant_23 : decode cX5_plant 23 = .ok (.istore 4, 2) := by decide +kernel
theorem dX5_plant_25 : decode cX5_plant 25 = .ok (.iload 4, 2) := by decide +kernel
theorem dX5_plant_27 : decode cX5_plant 27 = .ok (.bipush 24, 2) := by decide +kernel
theorem dX5_plant_29 : decode cX5_plant 29 = .ok (.if_icmp .ge 42, 3) := by decide +kernel
theorem dX5_plant_32 : decode cX5_plant 32 = .ok (.aload_n 0, 1) := by decide +kernel
theorem dX5_plant_33 : decode cX5_plant 33 = .ok (.iload 4, 2) := by decide +kernel
theorem dX5_plant_35 : decode cX5_plant 35 = .ok (.iload_n 1, 1) := by decide +kernel
theorem dX5_plant_36 : decode cX5_plant 36 = .ok (.invokevirtual 81, 3) := by decide +kernel
theorem dX5_plant_39 : decode cX5_plant 39 = .ok (.aload_n 0, 1) := by decide +kernel
theorem dX5_plant_40 : decode cX5_plant 40 = .ok (.invokevirtual 149, 3) := by decide +kernel
theorem dX5_plant_43 : decode cX5_plant 43 = .ok (.istore 5, 2) := by decide +kernel
theorem dX5_plant_45 : decode cX5_plant 45 = .ok (.aload_n 0, 1) := by decide +kernel
theorem dX5_plant_46 : decode cX5_plant 46 = .ok (.invokevirtual 178, 3) := by decide +kernel
theorem dX5_plant_49 : decode cX5_plant 49 = .ok (.iload_n 2, 1) := by decide +kernel
theorem dX5_plant_50 : decode cX5_plant 50 = .ok (.ifCond .lt 9, 3) := by decide +kernel
theorem dX5_plant_53 : decode cX5_plant 53 = .ok (.iload 5, 2) := by decide +kernel
theorem dX5_plant_55 : decode cX5_plant 55 = .ok (.iload_n 3, 1) := by decide +kernel
theorem dX5_plant_56 : decode cX5_plant 56 = .ok (.if_icmp .le 9, 3) := by decide +kernel
theorem dX5_plant_59 : decode cX5_plant 59 = .ok (.iload 4, 2) := by decide +kernel
theorem dX5_plant_61 : decode cX5_plant 61 = .ok (.istore_n 2, 1) := by decide +kernel
theorem dX5_plant_62 : decode cX5_plant 62 = .ok (.iload 5, 2) := by decide +kernel
theorem dX5_plant_64 : decode cX5_plant 64 = .ok (.istore_n 3, 1) := by decide +kernel
theorem dX5_plant_65 : decode cX5_plant 65 = .ok (.iinc 4 1, 3) := by decide +kernel
theorem dX5_plant_68 : decode cX5_plant 68 = .ok (.goto (-43), 3) := by decide +kernel
theorem dX5_plant_71 : decode cX5_plant 71 = .ok (.iload_n 2, 1) := by decide +kernel
theorem dX5_plant_72 : decode cX5_plant 72 = .ok (.ireturn, 1) := by decide +kernel
theorem dX5_puts_0 : decode cX5_puts 0 = .ok (.iconst 0, 1) := by decide +kernel
theorem dX5_puts_1 : decode cX5_puts 1 = .ok (.istore_n 1, 1) := by decide +kernel
theorem dX5_puts_2 : decode cX5_puts 2 = .ok (.iload_n 1, 1) := by decide +kernel
theorem dX5_puts_3 : decode cX5_puts 3 = .ok (.bipush 111, 2) := by decide +kernel
theorem dX5_puts_5 : decode cX5_puts 5 = .ok (.if_icmp .ge 21, 3) := by decide +kernel
theorem dX5_puts_8 : decode cX5_puts 8 = .ok (.aload_n 0, 1) := by decide +kernel
theorem dX5_puts_9 : decode cX5_puts 9 = .ok (.getfield 16, 3) := by decide +kernel
theorem dX5_puts_12 : decode cX5_puts 12 = .ok (.iload_n 1, 1) := by decide +kernel
theorem dX5_puts_13 : decode cX5_puts 13 = .ok (.aload_n 0, 1) := by decide +kernel
theorem dX5_puts_14 : decode cX5_puts 14 = .ok (.getfield 7, 3) := by decide +kernel
theorem dX5_puts_17 : decode cX5_puts 17 = .ok (.iload_n 1, 1) := by decide +kernel
theorem dX5_puts_18 : decode cX5_puts 18 = .ok (.iaload, 1) := by decide +kernel
theorem dX5_puts_19 : decode cX5_puts 19 = .ok (.iastore, 1) := by decide +kernel
theorem dX5_puts_20 : decode cX5_puts 20 = .ok (.iinc 1 1, 3) := by decide +kernel
theorem dX5_puts_23 : decode cX5_puts 23 = .ok (.goto (-21), 3) := by decide +kernel
theorem dX5_puts_26 : decode cX5_puts 26 = .ok (.return_, 1) := by decide +kernel
theorem dX5_putsBack_0 : decode cX5_putsBack 0 = .ok (.iconst 0, 1) := by decide +kernel
theorem dX5_putsBack_1 : decode cX5_putsBack 1 = .ok (.istore_n 1, 1) := by decide +kernel
theorem dX5_putsBack_2 : decode cX5_putsBack 2 = .ok (.iload_n 1, 1) := by decide +kernel
theorem dX5_putsBack_3 : decode cX5_putsBack 3 = .ok (.bipush 111, 2) := by decide +kernel
theorem dX5_putsBack_5 : decode cX5_putsBack 5 = .ok (.if_icmp .ge 21, 3) := by decide +kernel
theorem dX5_putsBack_8 : decode cX5_putsBack 8 = .ok (.aload_n 0, 1) := by decide +kernel
theorem dX5_putsBack_9 : decode cX5_putsBack 9 = .ok (.getfield 7, 3) := by decide +kernel
theorem dX5_putsBack_12 : decode cX5_putsBack 12 = .ok (.iload_n 1, 1) := by decide +kernel
theorem dX5_putsBack_13 : decode cX5_putsBack 13 = .ok (.aload_n 0, 1) := by decide +kernel
theorem dX5_putsBack_14 : decode cX5_putsBack 14 = .ok (.getfield 16, 3) := by decide +kernel
theorem dX5_putsBack_17 : decode cX5_putsBack 17 = .ok (.iload_n 1, 1) := by decide +kernel
theorem dX5_putsBack_18 : decode cX5_putsBack 18 = .ok (.iaload, 1) := by decide +kernel
theorem dX5_putsBack_19 : decode cX5_putsBack 19 = .ok (.iastore, 1) := by decide +kernel
theorem dX5_putsBack_20 : decode cX5_putsBack 20 = .ok (.iinc 1 1, 3) := by decide +kernel
theorem dX5_putsBack_23 : decode cX5_putsBack 23 = .ok (.goto (-21), 3) := by decide +kernel
theorem dX5_putsBack_26 : decode cX5_putsBack 26 = .ok (.return_, 1) := by decide +kernel
theorem dX5_quake_0 : decode cX5_quake 0 = .ok (.iload_n 1, 1) := by decide +kernel
theorem dX5_quake_1 : decode cX5_quake 1 = .ok (.i2l, 1) := by decide +kernel
theorem dX5_quake_2 : decode cX5_quake 2 = .ok (.lconst 1, 1) := by decide +kernel
theorem dX5_quake_3 : decode cX5_quake 3 = .ok (.ldc2_w 199, 3) := by decide +kernel
theorem dX5_quake_6 : decode cX5_quake 6 = .ok (.invokestatic 46, 3) := by decide +kernel
theorem dX5_quake_9 : decode cX5_quake 9 = .ok (.ifCond .ne 10, 3) := by decide +kernel
theorem dX5_quake_12 : decode cX5_quake 12 = .ok (.aload_n 0, 1) := by decide +kernel
theorem dX5_quake_13 : decode cX5_quake 13 = .ok (.ldc 43, 2) := by decide +kernel
theorem dX5_quake_15 : decode cX5_quake 15 = .ok (.invokevirtual 75, 3) := by decide +kernel
theorem dX5_quake_18 : decode cX5_quake 18 = .ok (.ireturn, 1) := by decide +kernel
theorem dX5_quake_19 : decode cX5_quake 19 = .ok (.iconst 0, 1) := by decide +kernel
theorem dX5_quake_20 : decode cX5_quake 20 = .ok (.istore_n 2, 1) := by decide +kernel
theorem dX5_quake_21 : decode cX5_quake 21 = .ok (.iload_n 2, 1) := by decide +kernel
theorem dX5_quake_22 : decode cX5_quake 22 = .ok (.iload_n 1, 1) := by decide +kernel
theorem dX5_quake_23 : decode cX5_quake 23 = .ok (.if_icmp .ge 36, 3) := by decide +kernel
theorem dX5_quake_26 : decode cX5_quake 26 = .ok (.aload_n 0, 1) := by decide +kernel
theorem dX5_quake_27 : decode cX5_quake 27 = .ok (.invokevirtual 201, 3) := by decide +kernel
theorem dX5_quake_30 : decode cX5_quake 30 = .ok (.bipush 24, 2) := by decide +kernel
theorem dX5_quake_32 : decode cX5_quake 32 = .ok (.irem, 1) := by decide +kernel
theorem dX5_quake_33 : decode cX5_quake 33 = .ok (.istore_n 3, 1) := by decide +kernel
theorem dX5_quake_34 : decode cX5_quake 34 = .ok (.aload_n 0, 1) := by decide +kernel
theorem dX5_quake_35 : decode cX5_quake 35 = .ok (.getfield 7, 3) := by decide +kernel
theorem dX5_quake_38 : decode cX5_quake 38 = .ok (.iconst 5, 1) := by decide +kernel
theorem dX5_quake_39 : decode cX5_quake 39 = .ok (.iconst 3, 1) := by decide +kernel
theorem dX5_quake_40 : decode cX5_quake 40 = .ok (.iload_n 3, 1) := by decide +kernel
theorem dX5_quake_41 : decode cX5_quake 41 = .ok (.imul, 1) := by decide +kernel
theorem dX5_quake_42 : decode cX5_quake 42 = .ok (.iadd, 1) := by decide +kernel
theorem dX5_quake_43 : decode cX5_quake 43 = .ok (.iconst 1, 1) := by decide +kernel
theorem dX5_quake_44 : decode cX5_quake 44 = .ok (.iadd, 1) := by decide +kernel
theorem dX5_quake_45 : decode cX5_quake 45 = .ok (.aload_n 0, 1) := by decide +kernel
theorem dX5_quake_46 : decode cX5_quake 46 = .ok (.invokevirtual 201, 3) := by decide +kernel
theorem dX5_quake_49 : decode cX5_quake 49 = .ok (.bipush 100, 2) := by decide +kernel
theorem dX5_quake_51 : decode cX5_quake 51 = .ok (.irem, 1) := by decide +kernel
theorem dX5_quake_52 : decode cX5_quake 52 = .ok (.iastore, 1) := by decide +kernel
theorem dX5_quake_53 : decode cX5_quake 53 = .ok (.iinc 2 1, 3) := by decide +kernel
theorem dX5_quake_56 : decode cX5_quake 56 = .ok (.goto (-35), 3) := by decide +kernel
theorem dX5_quake_59 : decode cX5_quake 59 = .ok (.iconst 0, 1) := by decide +kernel
theorem dX5_quake_60 : decode cX5_quake 60 = .ok (.istore_n 2, 1) := by decide +kernel
theorem dX5_quake_61 : decode cX5_quake 61 = .ok (.iconst 0, 1) := by decide +kernel
theorem dX5_quake_62 : decode cX5_quake 62 = .ok (.istore_n 3, 1) := by decide +kernel
theorem dX5_quake_63 : decode cX5_quake 63 = .ok (.iload_n 3, 1) := by decide +kernel
theorem dX5_quake_64 : decode cX5_quake 64 = .ok (.bipush 24, 2) := by decide +kernel
theorem dX5_quake_66 : decode cX5_quake 66 = .ok (.if_icmp .ge 17, 3) := by decide +kernel
theorem dX5_quake_69 : decode cX5_quake 69 = .ok (.iload_n 2, 1) := by decide +kernel
theorem dX5_quake_70 : decode cX5_quake 70 = .ok (.aload_n 0, 1) := by decide +kernel
theorem dX5_quake_71 : decode cX5_quake 71 = .ok (.iload_n 3, 1) := by decide +kernel
theorem dX5_quake_72 : decode cX5_quake 72 = .ok (.invokevirtual 70, 3) := by decide +kernel
theorem dX5_quake_75 : decode cX5_quake 75 = .ok (.iadd, 1) := by decide +kernel
theorem dX5_quake_76 : decode cX5_quake 76 = .ok (.istore_n 2, 1) := by decide +kernel
theorem dX5_quake_77 : decode cX5_quake 77 = .ok (.iinc 3 1, 3) := by decide +kernel
theorem dX5_quake_80 : decode cX5_quake 80 = .ok (.goto (-17), 3) := by decide +kernel
theorem dX5_quake_83 : decode cX5_quake 83 = .ok (.iload_n 2, 1) := by decide +kernel
theorem dX5_quake_84 : decode cX5_quake 84 = .ok (.ireturn, 1) := by decide +kernel
theorem dX5_rateFor_0 : decode cX5_rateFor 0 = .ok (.iload_n 1, 1) := by decide +kernel
theorem dX5_rateFor_1 : decode cX5_rateFor 1 = .ok (.invokestatic 159, 3) := by decide +kernel
theorem dX5_rateFor_4 : decode cX5_rateFor 4 = .ok (.ifCond .ne 10, 3) := by decide +kernel
theorem dX5_rateFor_7 : decode cX5_rateFor 7 = .ok (.aload_n 0, 1) := by decide +kernel
theorem dX5_rateFor_8 : decode cX5_rateFor 8 = .ok (.ldc 43, 2) := by decide +kernel
theorem dX5_rateFor_10 : decode cX5_rateFor 10 = .ok (.invokevirtual 75, 3) := by decide +kernel
theorem dX5_rateFor_13 : decode cX5_rateFor 13 = .ok (.ireturn, 1) := by decide +kernel
theorem dX5_rateFor_14 : decode cX5_rateFor 14 = .ok (.aload_n 0, 1) := by decide +kernel
theorem dX5_rateFor_15 : decode cX5_rateFor 15 = .ok (.getfield 7, 3) := by decide +kernel
theorem dX5_rateFor_18 : decode cX5_rateFor 18 = .ok (.iconst 3, 1) := by decide +kernel
theorem dX5_rateFor_19 : decode cX5_rateFor 19 = .ok (.iaload, 1) := by decide +kernel
theorem dX5_rateFor_20 : decode cX5_rateFor 20 = .ok (.istore_n 2, 1) := by decide +kernel
theorem dX5_rateFor_21 : decode cX5_rateFor 21 = .ok (.iconst (-1), 1) := by decide +kernel
theorem dX5_rateFor_22 : decode cX5_rateFor 22 = .ok (.istore_n 3, 1) := by decide +kernel
theorem dX5_rateFor_23 : decode cX5_rateFor 23 = .ok (.iconst 0, 1) := by decide +kernel
theorem dX5_rateFor_24 : decode cX5_rateFor 24 = .ok (.istore 4, 2) := by decide +kernel
theorem dX5_rateFor_26 : decode cX5_rateFor 26 = .ok (.iload 4, 2) := by decide +kernel
theorem dX5_rateFor_28 : decode cX5_rateFor 28 = .ok (.bipush 100, 2) := by decide +kernel
theorem dX5_rateFor_30 : decode cX5_rateFor 30 = .ok (.if_icmp .ge 36, 3) := by decide +kernel
theorem dX5_rateFor_33 : decode cX5_rateFor 33 = .ok (.iload_n 3, 1) := by decide +kernel
theorem dX5_rateFor_34 : decode cX5_rateFor 34 = .ok (.ifCond .ge 32, 3) := by decide +kernel
theorem dX5_rateFor_37 : decode cX5_rateFor 37 = .ok (.aload_n 0, 1) := by decide +kernel
theorem dX5_rateFor_38 : decode cX5_rateFor 38 = .ok (.getfield 7, 3) := by decide +kernel
theorem dX5_rateFor_41 : decode cX5_rateFor 41 = .ok (.iconst 3, 1) := by decide +kernel
theorem dX5_rateFor_42 : decode cX5_rateFor 42 = .ok (.iload 4, 2) := by decide +kernel
theorem dX5_rateFor_44 : decode cX5_rateFor 44 = .ok (.iastore, 1) := by decide +kernel
theorem dX5_rateFor_45 : decode cX5_rateFor 45 = .ok (.aload_n 0, 1) := by decide +kernel
theorem dX5_rateFor_46 : decode cX5_rateFor 46 = .ok (.invokevirtual 149, 3) := by decide +kernel
theorem dX5_rateFor_49 : decode cX5_rateFor 49 = .ok (.iload_n 1, 1) := by decide +kernel
theorem dX5_rateFor_50 : decode cX5_rateFor 50 = .ok (.if_icmp .lt 8, 3) := by decide +kernel
theorem dX5_rateFor_53 : decode cX5_rateFor 53 = .ok (.iload 4, 2) := by decide +kernel
theorem dX5_rateFor_55 : decode cX5_rateFor 55 = .ok (.goto 4, 3) := by decide +kernel
theorem dX5_rateFor_58 : decode cX5_rateFor 58 = .ok (.iconst (-1), 1) := by decide +kernel
theorem dX5_rateFor_59 : decode cX5_rateFor 59 = .ok (.istore_n 3, 1) := by decide +kernel
theorem dX5_rateFor_60 : decode cX5_rateFor 60 = .ok (.iinc 4 1, 3) := by decide +kernel
theorem dX5_rateFor_63 : decode cX5_rateFor 63 = .ok (.goto (-37), 3) := by decide +kernel
theorem dX5_rateFor_66 : decode cX5_rateFor 66 = .ok (.aload_n 0, 1) := by decide +kernel
theorem dX5_rateFor_67 : decode cX5_rateFor 67 = .ok (.getfield 7, 3) := by decide +kernel
theorem dX5_rateFor_70 : decode cX5_rateFor 70 = .ok (.iconst 3, 1) := by decide +kernel
theorem dX5_rateFor_71 : decode cX5_rateFor 71 = .ok (.iload_n 2, 1) := by decide +kernel
theorem dX5_rateFor_72 : decode cX5_rateFor 72 = .ok (.iastore, 1) := by decide +kernel
theorem dX5_rateFor_73 : decode cX5_rateFor 73 = .ok (.iload_n 3, 1) := by decide +kernel
theorem dX5_rateFor_74 : decode cX5_rateFor 74 = .ok (.ifCond .ge 12, 3) := by decide +kernel
theorem dX5_rateFor_77 : decode cX5_rateFor 77 = .ok (.aload_n 0, 1) := by decide +kernel
theorem dX5_rateFor_78 : decode cX5_rateFor 78 = .ok (.ldc 145, 2) := by decide +kernel
theorem dX5_rateFor_80 : decode cX5_rateFor 80 = .ok (.invokevirtual 75, 3) := by decide +kernel
theorem dX5_rateFor_83 : decode cX5_rateFor 83 = .ok (.goto 4, 3) := by decide +kernel
theorem dX5_rateFor_86 : decode cX5_rateFor 86 = .ok (.iload_n 3, 1) := by decide +kernel
theorem dX5_rateFor_87 : decode cX5_rateFor 87 = .ok (.ireturn, 1) := by decide +kernel
theorem dX5_restless_0 : decode cX5_restless 0 = .ok (.iconst 0, 1) := by decide +kernel
theorem dX5_restless_1 : decode cX5_restless 1 = .ok (.istore_n 1, 1) := by decide +kernel
theorem dX5_restless_2 : decode cX5_restless 2 = .ok (.iconst 0, 1) := by decide +kernel
theorem dX5_restless_3 : decode cX5_restless 3 = .ok (.istore_n 2, 1) := by decide +kernel
theorem dX5_restless_4 : decode cX5_restless 4 = .ok (.iload_n 2, 1) := by decide +kernel
theorem dX5_restless_5 : decode cX5_restless 5 = .ok (.aload_n 0, 1) := by decide +kernel
theorem dX5_restless_6 : decode cX5_restless 6 = .ok (.getfield 7, 3) := by decide +kernel
theorem dX5_restless_9 : decode cX5_restless 9 = .ok (.iconst 1, 1) := by decide +kernel
theorem dX5_restless_10 : decode cX5_restless 10 = .ok (.iaload, 1) := by decide +kernel
theorem dX5_restless_11 : decode cX5_restless 11 = .ok (.if_icmp .ge 84, 3) := by decide +kernel
theorem dX5_restless_14 : decode cX5_restless 14 = .ok (.aload_n 0, 1) := by decide +kernel
theorem dX5_restless_15 : decode cX5_restless 15 = .ok (.getfield 7, 3) := by decide +kernel
theorem dX5_restless_18 : decode cX5_restless 18 = .ok (.bipush 77, 2) := by decide +kernel
theorem dX5_restless_20 : decode cX5_restless 20 = .ok (.iconst 3, 1) := by decide +kernel
theorem dX5_restless_21 : decode cX5_restless 21 = .ok (.iload_n 2, 1) := by decide +kernel
theorem dX5_restless_22 : decode cX5_restless 22 = .ok (.imul, 1) := by decide +kernel
theorem dX5_restless_23 : decode cX5_restless 23 = .ok (.iadd, 1) := by decide +kernel
theorem dX5_restless_24 : decode cX5_restless 24 = .ok (.iconst 1, 1) := by decide +kernel
theorem dX5_restless_25 : decode cX5_restless 25 = .ok (.iadd, 1) := by decide +kernel
theorem dX5_restless_26 : decode cX5_restless 26 = .ok (.iaload, 1) := by decide +kernel
theorem dX5_restless_27 : decode cX5_restless 27 = .ok (.istore_n 3, 1) := by decide +kernel
theorem dX5_restless_28 : decode cX5_restless 28 = .ok (.aload_n 0, 1) := by decide +kernel
theorem dX5_restless_29 : decode cX5_restless 29 = .ok (.iload_n 2, 1) := by decide +kernel
theorem dX5_restless_30 : decode cX5_restless 30 = .ok (.invokevirtual 146, 3) := by decide +kernel
theorem dX5_restless_33 : decode cX5_restless 33 = .ok (.istore 4, 2) := by decide +kernel
theorem dX5_restless_35 : decode cX5_restless 35 = .ok (.aload_n 0, 1) := by decide +kernel
theorem dX5_restless_36 : decode cX5_restless 36 = .ok (.iload_n 2, 1) := by decide +kernel
theorem dX5_restless_37 : decode cX5_restless 37 = .ok (.invokevirtual 153, 3) := by decide +kernel
theorem dX5_restless_40 : decode cX5_restless 40 = .ok (.istore 5, 2) := by decide +kernel
theorem dX5_restless_42 : decode cX5_restless 42 = .ok (.aload_n 0, 1) := by decide +kernel
theorem dX5_restless_43 : decode cX5_restless 43 = .ok (.getfield 7, 3) := by decide +kernel
theorem dX5_restless_46 : decode cX5_restless 46 = .ok (.bipush 77, 2) := by decide +kernel
theorem dX5_restless_48 : decode cX5_restless 48 = .ok (.iconst 3, 1) := by decide +kernel
theorem dX5_restless_49 : decode cX5_restless 49 = .ok (.iload_n 2, 1) := by decide +kernel
theorem dX5_restless_50 : decode cX5_restless 50 = .ok (.imul, 1) := by decide +kernel
theorem dX5_restless_51 : decode cX5_restless 51 = .ok (.iadd, 1) := by decide +kernel
theorem dX5_restless_52 : decode cX5_restless 52 = .ok (.iconst 1, 1) := by decide +kernel
theorem dX5_restless_53 : decode cX5_restless 53 = .ok (.iadd, 1) := by decide +kernel
theorem dX5_restless_54 : decode cX5_restless 54 = .ok (.iload 5, 2) := by decide +kernel
theorem dX5_restless_56 : decode cX5_restless 56 = .ok (.iastore, 1) := by decide +kernel
theorem dX5_restless_57 : decode cX5_restless 57 = .ok (.iload_n 1, 1) := by decide +kernel
theorem dX5_restless_58 : decode cX5_restless 58 = .ok (.aload_n 0, 1) := by decide +kernel
theorem dX5_restless_59 : decode cX5_restless 59 = .ok (.iload_n 2, 1) := by decide +kernel
theorem dX5_restless_60 : decode cX5_restless 60 = .ok (.invokevirtual 146, 3) := by decide +kernel
theorem dX5_restless_63 : decode cX5_restless 63 = .ok (.iload 4, 2) := by decide +kernel
theorem dX5_restless_65 : decode cX5_restless 65 = .ok (.if_icmp .ge 7, 3) := by decide +kernel
theorem dX5_restless_68 : decode cX5_restless 68 = .ok (.iconst 1, 1) := by decide +kernel
theorem dX5_restless_69 : decode cX5_restless 69 = .ok (.goto 4, 3) := by decide +kernel
theorem dX5_restless_72 : decode cX5_restless 72 = .ok (.iconst 0, 1) := by decide +kernel
theorem dX5_restless_73 : decode cX5_restless 73 = .ok (.iadd, 1) := by decide +kernel
theorem dX5_restless_74 : decode cX5_restless 74 = .ok (.istore_n 1, 1) := by decide +kernel
theorem dX5_restless_75 : decode cX5_restless 75 = .ok (.aload_n 0, 1) := by decide +kernel
theorem dX5_restless_76 : decode cX5_restless 76 = .ok (.getfield 7, 3) := by decide +kernel
theorem dX5_restless_79 : decode cX5_restless 79 = .ok (.bipush 77, 2) := by decide +kernel
theorem dX5_restless_81 : decode cX5_restless 81 = .ok (.iconst 3, 1) := by decide +kernel
theorem dX5_restless_82 : decode cX5_restless 82 = .ok (.iload_n 2, 1) := by decide +kernel
theorem dX5_restless_83 : decode cX5_restless 83 = .ok (.imul, 1) := by decide +kernel
theorem dX5_restless_84 : decode cX5_restless 84 = .ok (.iadd, 1) := by decide +kernel
theorem dX5_restless_85 : decode cX5_restless 85 = .ok (.iconst 1, 1) := by decide +kernel
theorem dX5_restless_86 : decode cX5_restless 86 = .ok (.iadd, 1) := by decide +kernel
theorem dX5_restless_87 : decode cX5_restless 87 = .ok (.iload_n 3, 1) := by decide +kernel
theorem dX5_restless_88 : decode cX5_restless 88 = .ok (.iastore, 1) := by decide +kernel
theorem dX5_restless_89 : decode cX5_restless 89 = .ok (.iinc 2 1, 3) := by decide +kernel
theorem dX5_restless_92 : decode cX5_restless 92 = .ok (.goto (-88), 3) := by decide +kernel
theorem dX5_restless_95 : decode cX5_restless 95 = .ok (.iload_n 1, 1) := by decide +kernel
theorem dX5_restless_96 : decode cX5_restless 96 = .ok (.ireturn, 1) := by decide +kernel
theorem dX5_seed_0 : decode cX5_seed 0 = .ok (.aload_n 0, 1) := by decide +kernel
theorem dX5_seed_1 : decode cX5_seed 1 = .ok (.getfield 7, 3) := by decide +kernel
theorem dX5_seed_4 : decode cX5_seed 4 = .ok (.iconst 4, 1) := by decide +kernel
theorem dX5_seed_5 : decode cX5_seed 5 = .ok (.iaload, 1) := by decide +kernel
theorem dX5_seed_6 : decode cX5_seed 6 = .ok (.istore_n 2, 1) := by decide +kernel
theorem dX5_seed_7 : decode cX5_seed 7 = .ok (.aload_n 0, 1) := by decide +kernel
theorem dX5_seed_8 : decode cX5_seed 8 = .ok (.getfield 7, 3) := by decide +kernel
theorem dX5_seed_11 : decode cX5_seed 11 = .ok (.iconst 4, 1) := by decide +kernel
theorem dX5_seed_12 : decode cX5_seed 12 = .ok (.iload_n 1, 1) := by decide +kernel
theorem dX5_seed_13 : decode cX5_seed 13 = .ok (.iastore, 1) := by decide +kernel
theorem dX5_seed_14 : decode cX5_seed 14 = .ok (.iload_n 2, 1) := by decide +kernel
theorem dX5_seed_15 : decode cX5_seed 15 = .ok (.ireturn, 1) := by decide +kernel
theorem dX5_seenBy_0 : decode cX5_seenBy 0 = .ok (.iload_n 1, 1) := by decide +kernel
theorem dX5_seenBy_1 : decode cX5_seenBy 1 = .ok (.invokestatic 58, 3) := by decide +kernel
theorem dX5_seenBy_4 : decode cX5_seenBy 4 = .ok (.ifCond .ne 10, 3) := by decide +kernel
theorem dX5_seenBy_7 : decode cX5_seenBy 7 = .ok (.aload_n 0, 1) := by decide +kernel
theorem dX5_seenBy_8 : decode cX5_seenBy 8 = .ok (.ldc 43, 2) := by decide +kernel
theorem dX5_seenBy_10 : decode cX5_seenBy 10 = .ok (.invokevirtual 75, 3) := by decide +kernel
theorem dX5_seenBy_13 : decode cX5_seenBy 13 = .ok (.ireturn, 1) := by decide +kernel
theorem dX5_seenBy_14 : decode cX5_seenBy 14 = .ok (.iconst 0, 1) := by decide +kernel
theorem dX5_seenBy_15 : decode cX5_seenBy 15 = .ok (.istore_n 2, 1) := by decide +kernel
theorem dX5_seenBy_16 : decode cX5_seenBy 16 = .ok (.iconst 0, 1) := by decide +kernel
theorem dX5_seenBy_17 : decode cX5_seenBy 17 = .ok (.istore_n 3, 1) := by decide +kernel
theorem dX5_seenBy_18 : decode cX5_seenBy 18 = .ok (.iload_n 3, 1) := by decide +kernel
theorem dX5_seenBy_19 : decode cX5_seenBy 19 = .ok (.aload_n 0, 1) := by decide +kernel
theorem dX5_seenBy_20 : decode cX5_seenBy 20 = .ok (.getfield 7, 3) := by decide +kernel
theorem dX5_seenBy_23 : decode cX5_seenBy 23 = .ok (.iconst 1, 1) := by decide +kernel
theorem dX5_seenBy_24 : decode cX5_seenBy 24 = .ok (.iaload, 1) := by decide +kernel
theorem dX5_seenBy_25 : decode cX5_seenBy 25 = .ok (.if_icmp .ge 31, 3) := by decide +kernel
theorem dX5_seenBy_28 : decode cX5_seenBy 28 = .ok (.iload_n 2, 1) := by decide +kernel
theorem dX5_seenBy_29 : decode cX5_seenBy 29 = .ok (.aload_n 0, 1) := by decide +kernel
theorem dX5_seenBy_30 : decode cX5_seenBy 30 = .ok (.iload_n 3, 1) := by decide +kernel
theorem dX5_seenBy_31 : decode cX5_seenBy 31 = .ok (.invokevirtual 141, 3) := by decide +kernel
theorem dX5_seenBy_34 : decode cX5_seenBy 34 = .ok (.iload_n 1, 1) := by decide +kernel
theorem dX5_seenBy_35 : decode cX5_seenBy 35 = .ok (.invokestatic 127, 3) := by decide +kernel
theorem dX5_seenBy_38 : decode cX5_seenBy 38 = .ok (.ifCond .eq 9, 3) := by decide +kernel
theorem dX5_seenBy_41 : decode cX5_seenBy 41 = .ok (.iconst 1, 1) := by decide +kernel
theorem dX5_seenBy_42 : decode cX5_seenBy 42 = .ok (.iload_n 3, 1) := by decide +kernel
theorem dX5_seenBy_43 : decode cX5_seenBy 43 = .ok (.ishl, 1) := by decide +kernel
theorem dX5_seenBy_44 : decode cX5_seenBy 44 = .ok (.goto 4, 3) := by decide +kernel
theorem dX5_seenBy_47 : decode cX5_seenBy 47 = .ok (.iconst 0, 1) := by decide +kernel
theorem dX5_seenBy_48 : decode cX5_seenBy 48 = .ok (.ior, 1) := by decide +kernel
theorem dX5_seenBy_49 : decode cX5_seenBy 49 = .ok (.istore_n 2, 1) := by decide +kernel
theorem dX5_seenBy_50 : decode cX5_seenBy 50 = .ok (.iinc 3 1, 3) := by decide +kernel
theorem dX5_seenBy_53 : decode cX5_seenBy 53 = .ok (.goto (-35), 3) := by decide +kernel
theorem dX5_seenBy_56 : decode cX5_seenBy 56 = .ok (.iload_n 2, 1) := by decide +kernel
theorem dX5_seenBy_57 : decode cX5_seenBy 57 = .ok (.ireturn, 1) := by decide +kernel
theorem dX5_sees_0 : decode cX5_sees 0 = .ok (.aload_n 0, 1) := by decide +kernel
theorem dX5_sees_1 : decode cX5_sees 1 = .ok (.iload_n 1, 1) := by decide +kernel
theorem dX5_sees_2 : decode cX5_sees 2 = .ok (.invokevirtual 104, 3) := by decide +kernel
theorem dX5_sees_5 : decode cX5_sees 5 = .ok (.ifCond .eq 10, 3) := by decide +kernel
theorem dX5_sees_8 : decode cX5_sees 8 = .ok (.iload_n 2, 1) := by decide +kernel
theorem dX5_sees_9 : decode cX5_sees 9 = .ok (.invokestatic 58, 3) := by decide +kernel
theorem dX5_sees_12 : decode cX5_sees 12 = .ok (.ifCond .ne 10, 3) := by decide +kernel
theorem dX5_sees_15 : decode cX5_sees 15 = .ok (.aload_n 0, 1) := by decide +kernel
theorem dX5_sees_16 : decode cX5_sees 16 = .ok (.ldc 43, 2) := by decide +kernel
theorem dX5_sees_18 : decode cX5_sees 18 = .ok (.invokevirtual 75, 3) := by decide +kernel
theorem dX5_sees_21 : decode cX5_sees 21 = .ok (.ireturn, 1) := by decide +kernel
theorem dX5_sees_22 : decode cX5_sees 22 = .ok (.aload_n 0, 1) := by decide +kernel
theorem dX5_sees_23 : decode cX5_sees 23 = .ok (.iload_n 1, 1) := by decide +kernel
theorem dX5_sees_24 : decode cX5_sees 24 = .ok (.invokevirtual 141, 3) := by decide +kernel
theorem dX5_sees_27 : decode cX5_sees 27 = .ok (.iload_n 2, 1) := by decide +kernel
theorem dX5_sees_28 : decode cX5_sees 28 = .ok (.invokestatic 127, 3) := by decide +kernel
theorem dX5_sees_31 : decode cX5_sees 31 = .ok (.ifCond .eq 7, 3) := by decide +kernel
theorem dX5_sees_34 : decode cX5_sees 34 = .ok (.iconst 1, 1) := by decide +kernel
theorem dX5_sees_35 : decode cX5_sees 35 = .ok (.goto 4, 3) := by decide +kernel
theorem dX5_sees_38 : decode cX5_sees 38 = .ok (.iconst 0, 1) := by decide +kernel
theorem dX5_sees_39 : decode cX5_sees 39 = .ok (.ireturn, 1) := by decide +kernel
theorem dX5_set_0 : decode cX5_set 0 = .ok (.iload_n 1, 1) := by decide +kernel
theorem dX5_set_1 : decode cX5_set 1 = .ok (.invokestatic 58, 3) := by decide +kernel
theorem dX5_set_4 : decode cX5_set 4 = .ok (.ifCond .eq 10, 3) := by decide +kernel
theorem dX5_set_7 : decode cX5_set 7 = .ok (.iload_n 2, 1) := by decide +kernel
theorem dX5_set_8 : decode cX5_set 8 = .ok (.invokestatic 78, 3) := by decide +kernel
theorem dX5_set_11 : decode cX5_set 11 = .ok (.ifCond .ne 10, 3) := by decide +kernel
theorem dX5_set_14 : decode cX5_set 14 = .ok (.aload_n 0, 1) := by decide +kernel
theorem dX5_set_15 : decode cX5_set 15 = .ok (.ldc 43, 2) := by decide +kernel
theorem dX5_set_17 : decode cX5_set 17 = .ok (.invokevirtual 75, 3) := by decide +kernel
theorem dX5_set_20 : decode cX5_set 20 = .ok (.ireturn, 1) := by decide +kernel
theorem dX5_set_21 : decode cX5_set 21 = .ok (.aload_n 0, 1) := by decide +kernel
theorem dX5_set_22 : decode cX5_set 22 = .ok (.iload_n 1, 1) := by decide +kernel
theorem dX5_set_23 : decode cX5_set 23 = .ok (.invokevirtual 67, 3) := by decide +kernel
theorem dX5_set_26 : decode cX5_set 26 = .ok (.istore_n 3, 1) := by decide +kernel
theorem dX5_set_27 : decode cX5_set 27 = .ok (.aload_n 0, 1) := by decide +kernel
theorem dX5_set_28 : decode cX5_set 28 = .ok (.iload_n 1, 1) := by decide +kernel
theorem dX5_set_29 : decode cX5_set 29 = .ok (.iload_n 2, 1) := by decide +kernel
theorem dX5_set_30 : decode cX5_set 30 = .ok (.invokevirtual 81, 3) := by decide +kernel
theorem dX5_set_33 : decode cX5_set 33 = .ok (.iload_n 3, 1) := by decide +kernel
theorem dX5_set_34 : decode cX5_set 34 = .ok (.ireturn, 1) := by decide +kernel
theorem dX5_sets_0 : decode cX5_sets 0 = .ok (.aload_n 0, 1) := by decide +kernel
theorem dX5_sets_1 : decode cX5_sets 1 = .ok (.getfield 7, 3) := by decide +kernel
theorem dX5_sets_4 : decode cX5_sets 4 = .ok (.iconst 5, 1) := by decide +kernel
theorem dX5_sets_5 : decode cX5_sets 5 = .ok (.iconst 3, 1) := by decide +kernel
theorem dX5_sets_6 : decode cX5_sets 6 = .ok (.iload_n 1, 1) := by decide +kernel
theorem dX5_sets_7 : decode cX5_sets 7 = .ok (.imul, 1) := by decide +kernel
theorem dX5_sets_8 : decode cX5_sets 8 = .ok (.iadd, 1) := by decide +kernel
theorem dX5_sets_9 : decode cX5_sets 9 = .ok (.iload_n 2, 1) := by decide +kernel
theorem dX5_sets_10 : decode cX5_sets 10 = .ok (.iastore, 1) := by decide +kernel
theorem dX5_sets_11 : decode cX5_sets 11 = .ok (.aload_n 0, 1) := by decide +kernel
theorem dX5_sets_12 : decode cX5_sets 12 = .ok (.getfield 7, 3) := by decide +kernel
theorem dX5_sets_15 : decode cX5_sets 15 = .ok (.iconst 5, 1) := by decide +kernel
theorem dX5_sets_16 : decode cX5_sets 16 = .ok (.iconst 3, 1) := by decide +kernel
theorem dX5_sets_17 : decode cX5_sets 17 = .ok (.iload_n 1, 1) := by decide +kernel
theorem dX5_sets_18 : decode cX5_sets 18 = .ok (.imul, 1) := by decide +kernel
theorem dX5_sets_19 : decode cX5_sets 19 = .ok (.iadd, 1) := by decide +kernel
theorem dX5_sets_20 : decode cX5_sets 20 = .ok (.iconst 2, 1) := by decide +kernel
theorem dX5_sets_21 : decode cX5_sets 21 = .ok (.iadd, 1) := by decide +kernel
theorem dX5_sets_22 : decode cX5_sets 22 = .ok (.iconst 0, 1) := by decide +kernel
theorem dX5_sets_23 : decode cX5_sets 23 = .ok (.iastore, 1) := by decide +kernel
theorem dX5_sets_24 : decode cX5_sets 24 = .ok (.return_, 1) := by decide +kernel
theorem dX5_shade_0 : decode cX5_shade 0 = .ok (.aload_n 0, 1) := by decide +kernel
theorem dX5_shade_1 : decode cX5_shade 1 = .ok (.iload_n 1, 1) := by decide +kernel
theorem dX5_shade_2 : decode cX5_shade 2 = .ok (.invokevirtual 104, 3) := by decide +kernel
theorem dX5_shade_5 : decode cX5_shade 5 = .ok (.ifCond .eq 17, 3) := by decide +kernel
theorem dX5_shade_8 : decode cX5_shade 8 = .ok (.iload_n 2, 1) := by decide +kernel
theorem dX5_shade_9 : decode cX5_shade 9 = .ok (.invokestatic 78, 3) := by decide +kernel
theorem dX5_shade_12 : decode cX5_shade 12 = .ok (.ifCond .eq 10, 3) := by decide +kernel
theorem dX5_shade_15 : decode cX5_shade 15 = .ok (.iload_n 3, 1) := by decide +kernel
theorem dX5_shade_16 : decode cX5_shade 16 = .ok (.invokestatic 165, 3) := by decide +kernel
theorem dX5_shade_19 : decode cX5_shade 19 = .ok (.ifCond .ne 10, 3) := by decide +kernel
theorem dX5_shade_22 : decode cX5_shade 22 = .ok (.aload_n 0, 1) := by decide +kernel
theorem dX5_shade_23 : decode cX5_shade 23 = .ok (.ldc 43, 2) := by decide +kernel
theorem dX5_shade_25 : decode cX5_shade 25 = .ok (.invokevirtual 75, 3) := by decide +kernel
theorem dX5_shade_28 : decode cX5_shade 28 = .ok (.ireturn, 1) := by decide +kernel
theorem dX5_shade_29 : decode cX5_shade 29 = .ok (.aload_n 0, 1) := by decide +kernel
theorem dX5_shade_30 : decode cX5_shade 30 = .ok (.iload_n 3, 1) := by decide +kernel
theorem dX5_shade_31 : decode cX5_shade 31 = .ok (.invokevirtual 168, 3) := by decide +kernel
theorem dX5_shade_34 : decode cX5_shade 34 = .ok (.ifCond .eq 10, 3) := by decide +kernel
theorem dX5_shade_37 : decode cX5_shade 37 = .ok (.aload_n 0, 1) := by decide +kernel
theorem dX5_shade_38 : decode cX5_shade 38 = .ok (.ldc 144, 2) := by decide +kernel
theorem dX5_shade_40 : decode cX5_shade 40 = .ok (.invokevirtual 75, 3) := by decide +kernel
theorem dX5_shade_43 : decode cX5_shade 43 = .ok (.ireturn, 1) := by decide +kernel
theorem dX5_shade_44 : decode cX5_shade 44 = .ok (.iconst (-1), 1) := by decide +kernel
theorem dX5_shade_45 : decode cX5_shade 45 = .ok (.istore 4, 2) := by decide +kernel
theorem dX5_shade_47 : decode cX5_shade 47 = .ok (.iconst 0, 1) := by decide +kernel
theorem dX5_shade_48 : decode cX5_shade 48 = .ok (.istore 5, 2) := by decide +kernel
theorem dX5_shade_50 : decode cX5_shade 50 = .ok (.iconst 0, 1) := by decide +kernel
theorem dX5_shade_51 : decode cX5_shade 51 = .ok (.istore 6, 2) := by decide +kernel
theorem dX5_shade_53 : decode cX5_shade 53 = .ok (.iload 6, 2) := by decide +kernel
theorem dX5_shade_55 : decode cX5_shade 55 = .ok (.bipush 24, 2) := by decide +kernel
theorem dX5_shade_57 : decode cX5_shade 57 = .ok (.if_icmp .ge 56, 3) := by decide +kernel
theorem dX5_shade_60 : decode cX5_shade 60 = .ok (.aload_n 0, 1) := by decide +kernel
theorem dX5_shade_61 : decode cX5_shade 61 = .ok (.invokevirtual 171, 3) := by decide +kernel
theorem dX5_shade_64 : decode cX5_shade 64 = .ok (.aload_n 0, 1) := by decide +kernel
theorem dX5_shade_65 : decode cX5_shade 65 = .ok (.iload 6, 2) := by decide +kernel
theorem dX5_shade_67 : decode cX5_shade 67 = .ok (.iload_n 2, 1) := by decide +kernel
theorem dX5_shade_68 : decode cX5_shade 68 = .ok (.invokevirtual 81, 3) := by decide +kernel
theorem dX5_shade_71 : decode cX5_shade 71 = .ok (.aload_n 0, 1) := by decide +kernel
theorem dX5_shade_72 : decode cX5_shade 72 = .ok (.iload_n 3, 1) := by decide +kernel
theorem dX5_shade_73 : decode cX5_shade 73 = .ok (.invokevirtual 174, 3) := by decide +kernel
theorem dX5_shade_76 : decode cX5_shade 76 = .ok (.aload_n 0, 1) := by decide +kernel
theorem dX5_shade_77 : decode cX5_shade 77 = .ok (.iload_n 1, 1) := by decide +kernel
theorem dX5_shade_78 : decode cX5_shade 78 = .ok (.invokevirtual 146, 3) := by decide +kernel
theorem dX5_shade_81 : decode cX5_shade 81 = .ok (.istore 7, 2) := by decide +kernel
theorem dX5_shade_83 : decode cX5_shade 83 = .ok (.aload_n 0, 1) := by decide +kernel
theorem dX5_shade_84 : decode cX5_shade 84 = .ok (.invokevirtual 178, 3) := by decide +kernel
theorem dX5_shade_87 : decode cX5_shade 87 = .ok (.iload 4, 2) := by decide +kernel
theorem dX5_shade_89 : decode cX5_shade 89 = .ok (.ifCond .lt 10, 3) := by decide +kernel
theorem dX5_shade_92 : decode cX5_shade 92 = .ok (.iload 7, 2) := by decide +kernel
theorem dX5_shade_94 : decode cX5_shade 94 = .ok (.iload 5, 2) := by decide +kernel
theorem dX5_shade_96 : decode cX5_shade 96 = .ok (.if_icmp .ge 11, 3) := by decide +kernel
theorem dX5_shade_99 : decode cX5_shade 99 = .ok (.iload 6, 2) := by decide +kernel
theorem dX5_shade_101 : decode cX5_shade 101 = .ok (.istore 4, 2) := by decide +kernel
theorem dX5_shade_103 : decode cX5_shade 103 = .ok (.iload 7, 2) := by decide +kernel
theorem dX5_shade_105 : decode cX5_shade 105 = .ok (.istore 5, 2) := by decide +kernel
theorem dX5_shade_107 : decode cX5_shade 107 = .ok (.iinc 6 1, 3) := by decide +kernel
theorem dX5_shade_110 : decode cX5_shade 110 = .ok (.goto (-57), 3) := by decide +kernel
theorem dX5_shade_113 : decode cX5_shade 113 = .ok (.iload 4, 2) := by decide +kernel
theorem dX5_shade_115 : decode cX5_shade 115 = .ok (.ireturn, 1) := by decide +kernel
theorem dX5_sheet_0 : decode cX5_sheet 0 = .ok (.iload_n 1, 1) := by decide +kernel
theorem dX5_sheet_1 : decode cX5_sheet 1 = .ok (.invokestatic 310, 3) := by decide +kernel
theorem dX5_sheet_4 : decode cX5_sheet 4 = .ok (.ifCond .eq 25, 3) := by decide +kernel
theorem dX5_sheet_7 : decode cX5_sheet 7 = .ok (.iload_n 2, 1) := by decide +kernel
theorem dX5_sheet_8 : decode cX5_sheet 8 = .ok (.ifCond .eq 28, 3) := by decide +kernel
theorem dX5_sheet_11 : decode cX5_sheet 11 = .ok (.iload_n 2, 1) := by decide +kernel
theorem dX5_sheet_12 : decode cX5_sheet 12 = .ok (.bipush 8, 2) := by decide +kernel
theorem dX5_sheet_14 : decode cX5_sheet 14 = .ok (.if_icmp .eq 22, 3) := by decide +kernel
theorem dX5_sheet_17 : decode cX5_sheet 17 = .ok (.iload_n 2, 1) := by decide +kernel
theorem dX5_sheet_18 : decode cX5_sheet 18 = .ok (.bipush 16, 2) := by decide +kernel
theorem dX5_sheet_20 : decode cX5_sheet 20 = .ok (.if_icmp .eq 16, 3) := by decide +kernel
theorem dX5_sheet_23 : decode cX5_sheet 23 = .ok (.iload_n 2, 1) := by decide +kernel
theorem dX5_sheet_24 : decode cX5_sheet 24 = .ok (.bipush 32, 2) := by decide +kernel
theorem dX5_sheet_26 : decode cX5_sheet 26 = .ok (.if_icmp .eq 10, 3) := by decide +kernel
theorem dX5_sheet_29 : decode cX5_sheet 29 = .ok (.aload_n 0, 1) := by decide +kernel
theorem dX5_sheet_30 : decode cX5_sheet 30 = .ok (.ldc 43, 2) := by decide +kernel
theorem dX5_sheet_32 : decode cX5_sheet 32 = .ok (.invokevirtual 75, 3) := by decide +kernel
theorem dX5_sheet_35 : decode cX5_sheet 35 = .ok (.ireturn, 1) := by decide +kernel
theorem dX5_sheet_36 : decode cX5_sheet 36 = .ok (.iload_n 3, 1) := by decide +kernel
theorem dX5_sheet_37 : decode cX5_sheet 37 = .ok (.ifCond .ge 11, 3) := by decide +kernel
theorem dX5_sheet_40 : decode cX5_sheet 40 = .ok (.aload_n 0, 1) := by decide +kernel
theorem dX5_sheet_41 : decode cX5_sheet 41 = .ok (.ldc_w 313, 3) := by decide +kernel
theorem dX5_sheet_44 : decode cX5_sheet 44 = .ok (.invokevirtual 75, 3) := by decide +kernel
theorem dX5_sheet_47 : decode cX5_sheet 47 = .ok (.ireturn, 1) := by decide +kernel
theorem dX5_sheet_48 : decode cX5_sheet 48 = .ok (.iload_n 3, 1) := by decide +kernel
theorem dX5_sheet_49 : decode cX5_sheet 49 = .ok (.bipush 40, 2) := by decide +kernel
theorem dX5_sheet_51 : decode cX5_sheet 51 = .ok (.if_icmp .le 10, 3) := by decide +kernel
theorem dX5_sheet_54 : decode cX5_sheet 54 = .ok (.aload_n 0, 1) := by decide +kernel
theorem dX5_sheet_55 : decode cX5_sheet 55 = .ok (.ldc 43, 2) := by decide +kernel
theorem dX5_sheet_57 : decode cX5_sheet 57 = .ok (.invokevirtual 75, 3) := by decide +kernel
theorem dX5_sheet_60 : decode cX5_sheet 60 = .ok (.ireturn, 1) := by decide +kernel
theorem dX5_sheet_61 : decode cX5_sheet 61 = .ok (.aload_n 0, 1) := by decide +kernel
theorem dX5_sheet_62 : decode cX5_sheet 62 = .ok (.getfield 31, 3) := by decide +kernel
theorem dX5_sheet_65 : decode cX5_sheet 65 = .ok (.iload_n 1, 1) := by decide +kernel
theorem dX5_sheet_66 : decode cX5_sheet 66 = .ok (.iload_n 2, 1) := by decide +kernel
theorem dX5_sheet_67 : decode cX5_sheet 67 = .ok (.iastore, 1) := by decide +kernel
theorem dX5_sheet_68 : decode cX5_sheet 68 = .ok (.aload_n 0, 1) := by decide +kernel
theorem dX5_sheet_69 : decode cX5_sheet 69 = .ok (.getfield 34, 3) := by decide +kernel
theorem dX5_sheet_72 : decode cX5_sheet 72 = .ok (.iload_n 1, 1) := by decide +kernel
theorem dX5_sheet_73 : decode cX5_sheet 73 = .ok (.iload_n 2, 1) := by decide +kernel
theorem dX5_sheet_74 : decode cX5_sheet 74 = .ok (.ifCond .ne 7, 3) := by decide +kernel
theorem dX5_sheet_77 : decode cX5_sheet 77 = .ok (.iconst 0, 1) := by decide +kernel
theorem dX5_sheet_78 : decode cX5_sheet 78 = .ok (.goto 4, 3) := by decide +kernel
theorem dX5_sheet_81 : decode cX5_sheet 81 = .ok (.iload_n 3, 1) := by decide +kernel
theorem dX5_sheet_82 : decode cX5_sheet 82 = .ok (.iastore, 1) := by decide +kernel
theorem dX5_sheet_83 : decode cX5_sheet 83 = .ok (.iconst 0, 1) := by decide +kernel
theorem dX5_sheet_84 : decode cX5_sheet 84 = .ok (.istore 4, 2) := by decide +kernel
theorem dX5_sheet_86 : decode cX5_sheet 86 = .ok (.iload 4, 2) := by decide +kernel
theorem dX5_sheet_88 : decode cX5_sheet 88 = .ok (.bipush 40, 2) := by decide +kernel
theorem dX5_sheet_90 : decode cX5_sheet 90 = .ok (.if_icmp .ge 22, 3) := by decide +kernel
theorem dX5_sheet_93 : decode cX5_sheet 93 = .ok (.aload_n 0, 1) := by decide +kernel
theorem dX5_sheet_94 : decode cX5_sheet 94 = .ok (.getfield 37, 3) := by decide +kernel
theorem dX5_sheet_97 : decode cX5_sheet 97 = .ok (.bipush 40, 2) := by decide +kernel
theorem dX5_sheet_99 : decode cX5_sheet 99 = .ok (.iload_n 1, 1) := by decide +kernel
theorem dX5_sheet_100 : decode cX5_sheet 100 = .ok (.imul, 1) := by decide +kernel
theorem dX5_sheet_101 : decode cX5_sheet 101 = .ok (.iload 4, 2) := by decide +kernel
theorem dX5_sheet_103 : decode cX5_sheet 103 = .ok (.iadd, 1) := by decide +kernel
theorem dX5_sheet_104 : decode cX5_sheet 104 = .ok (.iconst 0, 1) := by decide +kernel
theorem dX5_sheet_105 : decode cX5_sheet 105 = .ok (.iastore, 1) := by decide +kernel
theorem dX5_sheet_106 : decode cX5_sheet 106 = .ok (.iinc 4 1, 3) := by decide +kernel
theorem dX5_sheet_109 : decode cX5_sheet 109 = .ok (.goto (-23), 3) := by decide +kernel
theorem dX5_sheet_112 : decode cX5_sheet 112 = .ok (.aload_n 0, 1) := by decide +kernel
theorem dX5_sheet_113 : decode cX5_sheet 113 = .ok (.getfield 34, 3) := by decide +kernel
theorem dX5_sheet_116 : decode cX5_sheet 116 = .ok (.iload_n 1, 1) := by decide +kernel
theorem dX5_sheet_117 : decode cX5_sheet 117 = .ok (.iaload, 1) := by decide +kernel
theorem dX5_sheet_118 : decode cX5_sheet 118 = .ok (.ireturn, 1) := by decide +kernel
theorem dX5_sight_0 : decode cX5_sight 0 = .ok (.aload_n 0, 1) := by decide +kernel
theorem dX5_sight_1 : decode cX5_sight 1 = .ok (.iload_n 1, 1) := by decide +kernel
theorem dX5_sight_2 : decode cX5_sight 2 = .ok (.invokevirtual 104, 3) := by decide +kernel
theorem dX5_sight_5 : decode cX5_sight 5 = .ok (.ifCond .eq 11, 3) := by decide +kernel
theorem dX5_sight_8 : decode cX5_sight 8 = .ok (.aload_n 0, 1) := by decide +kernel
theorem dX5_sight_9 : decode cX5_sight 9 = .ok (.iload_n 1, 1) := by decide +kernel
theorem dX5_sight_10 : decode cX5_sight 10 = .ok (.invokevirtual 141, 3) := by decide +kernel
theorem dX5_sight_13 : decode cX5_sight 13 = .ok (.goto 9, 3) := by decide +kernel
theorem dX5_sight_16 : decode cX5_sight 16 = .ok (.aload_n 0, 1) := by decide +kernel
theorem dX5_sight_17 : decode cX5_sight 17 = .ok (.ldc 43, 2) := by decide +kernel
theorem dX5_sight_19 : decode cX5_sight 19 = .ok (.invokevirtual 75, 3) := by decide +kernel
theorem dX5_sight_22 : decode cX5_sight 22 = .ok (.ireturn, 1) := by decide +kernel
theorem dX5_sightOf_0 : decode cX5_sightOf 0 = .ok (.iconst 1, 1) := by decide +kernel
theorem dX5_sightOf_1 : decode cX5_sightOf 1 = .ok (.aload_n 0, 1) := by decide +kernel
theorem dX5_sightOf_2 : decode cX5_sightOf 2 = .ok (.iload_n 1, 1) := by decide +kernel
theorem dX5_sightOf_3 : decode cX5_sightOf 3 = .ok (.invokevirtual 93, 3) := by decide +kernel
theorem dX5_sightOf_6 : decode cX5_sightOf 6 = .ok (.ishl, 1) := by decide +kernel
theorem dX5_sightOf_7 : decode cX5_sightOf 7 = .ok (.istore_n 2, 1) := by decide +kernel
theorem dX5_sightOf_8 : decode cX5_sightOf 8 = .ok (.iconst 0, 1) := by decide +kernel
theorem dX5_sightOf_9 : decode cX5_sightOf 9 = .ok (.istore_n 3, 1) := by decide +kernel
theorem dX5_sightOf_10 : decode cX5_sightOf 10 = .ok (.iload_n 3, 1) := by decide +kernel
theorem dX5_sightOf_11 : decode cX5_sightOf 11 = .ok (.bipush 24, 2) := by decide +kernel
theorem dX5_sightOf_13 : decode cX5_sightOf 13 = .ok (.if_icmp .ge 37, 3) := by decide +kernel
theorem dX5_sightOf_16 : decode cX5_sightOf 16 = .ok (.iload_n 2, 1) := by decide +kernel
theorem dX5_sightOf_17 : decode cX5_sightOf 17 = .ok (.aload_n 0, 1) := by decide +kernel
theorem dX5_sightOf_18 : decode cX5_sightOf 18 = .ok (.iload_n 1, 1) := by decide +kernel
theorem dX5_sightOf_19 : decode cX5_sightOf 19 = .ok (.iload_n 3, 1) := by decide +kernel
theorem dX5_sightOf_20 : decode cX5_sightOf 20 = .ok (.invokevirtual 134, 3) := by decide +kernel
theorem dX5_sightOf_23 : decode cX5_sightOf 23 = .ok (.ifCond .eq 18, 3) := by decide +kernel
theorem dX5_sightOf_26 : decode cX5_sightOf 26 = .ok (.aload_n 0, 1) := by decide +kernel
theorem dX5_sightOf_27 : decode cX5_sightOf 27 = .ok (.iload_n 1, 1) := by decide +kernel
theorem dX5_sightOf_28 : decode cX5_sightOf 28 = .ok (.iload_n 3, 1) := by decide +kernel
theorem dX5_sightOf_29 : decode cX5_sightOf 29 = .ok (.invokevirtual 137, 3) := by decide +kernel
theorem dX5_sightOf_32 : decode cX5_sightOf 32 = .ok (.ifCond .ge 9, 3) := by decide +kernel
theorem dX5_sightOf_35 : decode cX5_sightOf 35 = .ok (.iconst 1, 1) := by decide +kernel
theorem dX5_sightOf_36 : decode cX5_sightOf 36 = .ok (.iload_n 3, 1) := by decide +kernel
theorem dX5_sightOf_37 : decode cX5_sightOf 37 = .ok (.ishl, 1) := by decide +kernel
theorem dX5_sightOf_38 : decode cX5_sightOf 38 = .ok (.goto 4, 3) := by decide +kernel
theorem dX5_sightOf_41 : decode cX5_sightOf 41 = .ok (.iconst 0, 1) := by decide +kernel
theorem dX5_sightOf_42 : decode cX5_sightOf 42 = .ok (.ior, 1) := by decide +kernel
theorem dX5_sightOf_43 : decode cX5_sightOf 43 = .ok (.istore_n 2, 1) := by decide +kernel
theorem dX5_sightOf_44 : decode cX5_sightOf 44 = .ok (.iinc 3 1, 3) := by decide +kernel
theorem dX5_sightOf_47 : decode cX5_sightOf 47 = .ok (.goto (-37), 3) := by decide +kernel
theorem dX5_sightOf_50 : decode cX5_sightOf 50 = .ok (.iload_n 2, 1) := by decide +kernel
theorem dX5_sightOf_51 : decode cX5_sightOf 51 = .ok (.ireturn, 1) := by decide +kernel
theorem dX5_size_0 : decode cX5_size 0 = .ok (.iload_n 0, 1) := by decide +kernel
theorem dX5_size_1 : decode cX5_size 1 = .ok (.ifCond .ge 9, 3) := by decide +kernel
theorem dX5_size_4 : decode cX5_size 4 = .ok (.iconst 0, 1) := by decide +kernel
theorem dX5_size_5 : decode cX5_size 5 = .ok (.iload_n 0, 1) := by decide +kernel
theorem dX5_size_6 : decode cX5_size 6 = .ok (.isub, 1) := by decide +kernel
theorem dX5_size_7 : decode cX5_size 7 = .ok (.goto 4, 3) := by decide +kernel
theorem dX5_size_10 : decode cX5_size 10 = .ok (.iload_n 0, 1) := by decide +kernel
theorem dX5_size_11 : decode cX5_size 11 = .ok (.ireturn, 1) := by decide +kernel
theorem dX5_status_0 : decode cX5_status 0 = .ok (.iload_n 1, 1) := by decide +kernel
theorem dX5_status_1 : decode cX5_status 1 = .ok (.i2l, 1) := by decide +kernel
theorem dX5_status_2 : decode cX5_status 2 = .ok (.ldc2_w 306, 3) := by decide +kernel
theorem dX5_status_5 : decode cX5_status 5 = .ok (.ldc2_w 50, 3) := by decide +kernel
theorem dX5_status_8 : decode cX5_status 8 = .ok (.invokestatic 46, 3) := by decide +kernel
theorem dX5_status_11 : decode cX5_status 11 = .ok (.ifCond .ne 10, 3) := by decide +kernel
theorem dX5_status_14 : decode cX5_status 14 = .ok (.aload_n 0, 1) := by decide +kernel
theorem dX5_status_15 : decode cX5_status 15 = .ok (.ldc 43, 2) := by decide +kernel
theorem dX5_status_17 : decode cX5_status 17 = .ok (.invokevirtual 75, 3) := by decide +kernel
theorem dX5_status_20 : decode cX5_status 20 = .ok (.ireturn, 1) := by decide +kernel
theorem dX5_status_21 : decode cX5_status 21 = .ok (.iconst 0, 1) := by decide +kernel
theorem dX5_status_22 : decode cX5_status 22 = .ok (.istore_n 2, 1) := by decide +kernel
theorem dX5_status_23 : decode cX5_status 23 = .ok (.iconst 0, 1) := by decide +kernel
theorem dX5_status_24 : decode cX5_status 24 = .ok (.istore_n 3, 1) := by decide +kernel
theorem dX5_status_25 : decode cX5_status 25 = .ok (.iload_n 3, 1) := by decide +kernel
theorem dX5_status_26 : decode cX5_status 26 = .ok (.bipush 7, 2) := by decide +kernel
theorem dX5_status_28 : decode cX5_status 28 = .ok (.if_icmp .ge 31, 3) := by decide +kernel
theorem dX5_status_31 : decode cX5_status 31 = .ok (.iload_n 2, 1) := by decide +kernel
theorem dX5_status_32 : decode cX5_status 32 = .ok (.iload_n 1, 1) := by decide +kernel
theorem dX5_status_33 : decode cX5_status 33 = .ok (.ifCond .lt 8, 3) := by decide +kernel
theorem dX5_status_36 : decode cX5_status 36 = .ok (.iload_n 3, 1) := by decide +kernel
theorem dX5_status_37 : decode cX5_status 37 = .ok (.iload_n 1, 1) := by decide +kernel
theorem dX5_status_38 : decode cX5_status 38 = .ok (.if_icmp .ne 12, 3) := by decide +kernel
theorem dX5_status_41 : decode cX5_status 41 = .ok (.aload_n 0, 1) := by decide +kernel
theorem dX5_status_42 : decode cX5_status 42 = .ok (.getfield 19, 3) := by decide +kernel
theorem dX5_status_45 : decode cX5_status 45 = .ok (.iload_n 3, 1) := by decide +kernel
theorem dX5_status_46 : decode cX5_status 46 = .ok (.iaload, 1) := by decide +kernel
theorem dX5_status_47 : decode cX5_status 47 = .ok (.goto 4, 3) := by decide +kernel
theorem dX5_status_50 : decode cX5_status 50 = .ok (.iconst 0, 1) := by decide +kernel
theorem dX5_status_51 : decode cX5_status 51 = .ok (.iadd, 1) := by decide +kernel
theorem dX5_status_52 : decode cX5_status 52 = .ok (.istore_n 2, 1) := by decide +kernel
theorem dX5_status_53 : decode cX5_status 53 = .ok (.iinc 3 1, 3) := by decide +kernel
theorem dX5_status_56 : decode cX5_status 56 = .ok (.goto (-31), 3) := by decide +kernel
theorem dX5_status_59 : decode cX5_status 59 = .ok (.iload_n 2, 1) := by decide +kernel
theorem dX5_status_60 : decode cX5_status 60 = .ok (.ireturn, 1) := by decide +kernel
theorem dX5_tax_0 : decode cX5_tax 0 = .ok (.aload_n 0, 1) := by decide +kernel
theorem dX5_tax_1 : decode cX5_tax 1 = .ok (.iload_n 1, 1) := by decide +kernel
theorem dX5_tax_2 : decode cX5_tax 2 = .ok (.invokevirtual 104, 3) := by decide +kernel
theorem dX5_tax_5 : decode cX5_tax 5 = .ok (.ifCond .eq 11, 3) := by decide +kernel
theorem dX5_tax_8 : decode cX5_tax 8 = .ok (.aload_n 0, 1) := by decide +kernel
theorem dX5_tax_9 : decode cX5_tax 9 = .ok (.iload_n 1, 1) := by decide +kernel
theorem dX5_tax_10 : decode cX5_tax 10 = .ok (.invokevirtual 146, 3) := by decide +kernel
theorem dX5_tax_13 : decode cX5_tax 13 = .ok (.goto 9, 3) := by decide +kernel
theorem dX5_tax_16 : decode cX5_tax 16 = .ok (.aload_n 0, 1) := by decide +kernel
theorem dX5_tax_17 : decode cX5_tax 17 = .ok (.ldc 43, 2) := by decide +kernel
theorem dX5_tax_19 : decode cX5_tax 19 = .ok (.invokevirtual 75, 3) := by decide +kernel
theorem dX5_tax_22 : decode cX5_tax 22 = .ok (.ireturn, 1) := by decide +kernel
theorem dX5_taxOf_0 : decode cX5_taxOf 0 = .ok (.aload_n 0, 1) := by decide +kernel
theorem dX5_taxOf_1 : decode cX5_taxOf 1 = .ok (.iload_n 1, 1) := by decide +kernel
theorem dX5_taxOf_2 : decode cX5_taxOf 2 = .ok (.invokevirtual 141, 3) := by decide +kernel
theorem dX5_taxOf_5 : decode cX5_taxOf 5 = .ok (.iconst 1, 1) := by decide +kernel
theorem dX5_taxOf_6 : decode cX5_taxOf 6 = .ok (.aload_n 0, 1) := by decide +kernel
theorem dX5_taxOf_7 : decode cX5_taxOf 7 = .ok (.iload_n 1, 1) := by decide +kernel
theorem dX5_taxOf_8 : decode cX5_taxOf 8 = .ok (.invokevirtual 93, 3) := by decide +kernel
theorem dX5_taxOf_11 : decode cX5_taxOf 11 = .ok (.ishl, 1) := by decide +kernel
theorem dX5_taxOf_12 : decode cX5_taxOf 12 = .ok (.iconst (-1), 1) := by decide +kernel
theorem dX5_taxOf_13 : decode cX5_taxOf 13 = .ok (.ixor, 1) := by decide +kernel
theorem dX5_taxOf_14 : decode cX5_taxOf 14 = .ok (.iand, 1) := by decide +kernel
theorem dX5_taxOf_15 : decode cX5_taxOf 15 = .ok (.istore_n 2, 1) := by decide +kernel
theorem dX5_taxOf_16 : decode cX5_taxOf 16 = .ok (.iconst 0, 1) := by decide +kernel
theorem dX5_taxOf_17 : decode cX5_taxOf 17 = .ok (.istore_n 3, 1) := by decide +kernel
theorem dX5_taxOf_18 : decode cX5_taxOf 18 = .ok (.iconst 0, 1) := by decide +kernel
theorem dX5_taxOf_19 : decode cX5_taxOf 19 = .ok (.istore 4, 2) := by decide +kernel
theorem dX5_taxOf_21 : decode cX5_taxOf 21 = .ok (.iload 4, 2) := by decide +kernel
theorem dX5_taxOf_23 : decode cX5_taxOf 23 = .ok (.bipush 24, 2) := by decide +kernel
theorem dX5_taxOf_25 : decode cX5_taxOf 25 = .ok (.if_icmp .ge 31, 3) := by decide +kernel
theorem dX5_taxOf_28 : decode cX5_taxOf 28 = .ok (.iload_n 3, 1) := by decide +kernel
theorem dX5_taxOf_29 : decode cX5_taxOf 29 = .ok (.iload_n 2, 1) := by decide +kernel
theorem dX5_taxOf_30 : decode cX5_taxOf 30 = .ok (.iload 4, 2) := by decide +kernel
theorem dX5_taxOf_32 : decode cX5_taxOf 32 = .ok (.invokestatic 127, 3) := by decide +kernel
theorem dX5_taxOf_35 : decode cX5_taxOf 35 = .ok (.ifCond .eq 12, 3) := by decide +kernel
theorem dX5_taxOf_38 : decode cX5_taxOf 38 = .ok (.aload_n 0, 1) := by decide +kernel
theorem dX5_taxOf_39 : decode cX5_taxOf 39 = .ok (.iload 4, 2) := by decide +kernel
theorem dX5_taxOf_41 : decode cX5_taxOf 41 = .ok (.invokevirtual 90, 3) := by decide +kernel
theorem dX5_taxOf_44 : decode cX5_taxOf 44 = .ok (.goto 4, 3) := by decide +kernel
theorem dX5_taxOf_47 : decode cX5_taxOf 47 = .ok (.iconst 0, 1) := by decide +kernel
theorem dX5_taxOf_48 : decode cX5_taxOf 48 = .ok (.iadd, 1) := by decide +kernel
theorem dX5_taxOf_49 : decode cX5_taxOf 49 = .ok (.istore_n 3, 1) := by decide +kernel
theorem dX5_taxOf_50 : decode cX5_taxOf 50 = .ok (.iinc 4 1, 3) := by decide +kernel
theorem dX5_taxOf_53 : decode cX5_taxOf 53 = .ok (.goto (-32), 3) := by decide +kernel
theorem dX5_taxOf_56 : decode cX5_taxOf 56 = .ok (.iload_n 3, 1) := by decide +kernel
theorem dX5_taxOf_57 : decode cX5_taxOf 57 = .ok (.aload_n 0, 1) := by decide +kernel
theorem dX5_taxOf_58 : decode cX5_taxOf 58 = .ok (.getfield 7, 3) := by decide +kernel
theorem dX5_taxOf_61 : decode cX5_taxOf 61 = .ok (.iconst 3, 1) := by decide +kernel
theorem dX5_taxOf_62 : decode cX5_taxOf 62 = .ok (.iaload, 1) := by decide +kernel
theorem dX5_taxOf_63 : decode cX5_taxOf 63 = .ok (.imul, 1) := by decide +kernel
theorem dX5_taxOf_64 : decode cX5_taxOf 64 = .ok (.bipush 10, 2) := by decide +kernel
theorem dX5_taxOf_66 : decode cX5_taxOf 66 = .ok (.idiv, 1) := by decide +kernel
theorem dX5_taxOf_67 : decode cX5_taxOf 67 = .ok (.ireturn, 1) := by decide +kernel
theorem dX5_tear_0 : decode cX5_tear 0 = .ok (.aload_n 0, 1) := by decide +kernel
theorem dX5_tear_1 : decode cX5_tear 1 = .ok (.getfield 320, 3) := by decide +kernel
theorem dX5_tear_4 : decode cX5_tear 4 = .ok (.ifCond .eq 7, 3) := by decide +kernel
theorem dX5_tear_7 : decode cX5_tear 7 = .ok (.iconst 1, 1) := by decide +kernel
theorem dX5_tear_8 : decode cX5_tear 8 = .ok (.goto 4, 3) := by decide +kernel
theorem dX5_tear_11 : decode cX5_tear 11 = .ok (.iconst 0, 1) := by decide +kernel
theorem dX5_tear_12 : decode cX5_tear 12 = .ok (.istore_n 1, 1) := by decide +kernel
theorem dX5_tear_13 : decode cX5_tear 13 = .ok (.aload_n 0, 1) := by decide +kernel
theorem dX5_tear_14 : decode cX5_tear 14 = .ok (.iconst 0, 1) := by decide +kernel
theorem dX5_tear_15 : decode cX5_tear 15 = .ok (.putfield 320, 3) := by decide +kernel
theorem dX5_tear_18 : decode cX5_tear 18 = .ok (.iload_n 1, 1) := by decide +kernel
theorem dX5_tear_19 : decode cX5_tear 19 = .ok (.ireturn, 1) := by decide +kernel
theorem dX5_text_0 : decode cX5_text 0 = .ok (.aload_n 0, 1) := by decide +kernel
theorem dX5_text_1 : decode cX5_text 1 = .ok (.invokevirtual 171, 3) := by decide +kernel
theorem dX5_text_4 : decode cX5_text 4 = .ok (.aload_n 0, 1) := by decide +kernel
theorem dX5_text_5 : decode cX5_text 5 = .ok (.iconst 0, 1) := by decide +kernel
theorem dX5_text_6 : decode cX5_text 6 = .ok (.putfield 215, 3) := by decide +kernel
theorem dX5_text_9 : decode cX5_text 9 = .ok (.aload_n 0, 1) := by decide +kernel
theorem dX5_text_10 : decode cX5_text 10 = .ok (.iconst 0, 1) := by decide +kernel
theorem dX5_text_11 : decode cX5_text 11 = .ok (.putfield 230, 3) := by decide +kernel
theorem dX5_text_14 : decode cX5_text 14 = .ok (.aload_n 0, 1) := by decide +kernel
theorem dX5_text_15 : decode cX5_text 15 = .ok (.invokevirtual 234, 3) := by decide +kernel
theorem dX5_text_18 : decode cX5_text 18 = .ok (.iconst 1, 1) := by decide +kernel
theorem dX5_text_19 : decode cX5_text 19 = .ok (.istore_n 1, 1) := by decide +kernel
theorem dX5_text_20 : decode cX5_text 20 = .ok (.aload_n 0, 1) := by decide +kernel
theorem dX5_text_21 : decode cX5_text 21 = .ok (.invokevirtual 301, 3) := by decide +kernel
theorem dX5_text_24 : decode cX5_text 24 = .ok (.aload_n 0, 1) := by decide +kernel
theorem dX5_text_25 : decode cX5_text 25 = .ok (.getfield 230, 3) := by decide +kernel
theorem dX5_text_28 : decode cX5_text 28 = .ok (.ifCond .ne 46, 3) := by decide +kernel
theorem dX5_text_31 : decode cX5_text 31 = .ok (.aload_n 0, 1) := by decide +kernel
theorem dX5_text_32 : decode cX5_text 32 = .ok (.getfield 218, 3) := by decide +kernel
theorem dX5_text_35 : decode cX5_text 35 = .ok (.aload_n 0, 1) := by decide +kernel
theorem dX5_text_36 : decode cX5_text 36 = .ok (.getfield 204, 3) := by decide +kernel
theorem dX5_text_39 : decode cX5_text 39 = .ok (.if_icmp .ge 35, 3) := by decide +kernel
theorem dX5_text_42 : decode cX5_text 42 = .ok (.aload_n 0, 1) := by decide +kernel
theorem dX5_text_43 : decode cX5_text 43 = .ok (.aload_n 0, 1) := by decide +kernel
theorem dX5_text_44 : decode cX5_text 44 = .ok (.aload_n 0, 1) := by decide +kernel
theorem dX5_text_45 : decode cX5_text 45 = .ok (.getfield 218, 3) := by decide +kernel
theorem dX5_text_48 : decode cX5_text 48 = .ok (.invokevirtual 221, 3) := by decide +kernel
theorem dX5_text_51 : decode cX5_text 51 = .ok (.bipush 59, 2) := by decide +kernel
theorem dX5_text_53 : decode cX5_text 53 = .ok (.if_icmp .ne 7, 3) := by decide +kernel
theorem dX5_text_56 : decode cX5_text 56 = .ok (.iconst 1, 1) := by decide +kernel
theorem dX5_text_57 : decode cX5_text 57 = .ok (.goto 4, 3) := by decide +kernel
theorem dX5_text_60 : decode cX5_text 60 = .ok (.iconst 0, 1) := by decide +kernel
theorem dX5_text_61 : decode cX5_text 61 = .ok (.invokevirtual 244, 3) := by decide +kernel
theorem dX5_text_64 : decode cX5_text 64 = .ok (.aload_n 0, 1) := by decide +kernel
theorem dX5_text_65 : decode cX5_text 65 = .ok (.invokevirtual 301, 3) := by decide +kernel
theorem dX5_text_68 : decode cX5_text 68 = .ok (.iinc 1 1, 3) := by decide +kernel
theorem dX5_text_71 : decode cX5_text 71 = .ok (.goto (-47), 3) := by decide +kernel
theorem dX5_text_74 : decode cX5_text 74 = .ok (.aload_n 0, 1) := by decide +kernel
theorem dX5_text_75 : decode cX5_text 75 = .ok (.iconst 0, 1) := by decide +kernel
theorem dX5_text_76 : decode cX5_text 76 = .ok (.putfield 204, 3) := by decide +kernel
theorem dX5_text_79 : decode cX5_text 79 = .ok (.aload_n 0, 1) := by decide +kernel
theorem dX5_text_80 : decode cX5_text 80 = .ok (.getfield 230, 3) := by decide +kernel
theorem dX5_text_83 : decode cX5_text 83 = .ok (.ifCond .eq 14, 3) := by decide +kernel
theorem dX5_text_86 : decode cX5_text 86 = .ok (.aload_n 0, 1) := by decide +kernel
theorem dX5_text_87 : decode cX5_text 87 = .ok (.invokevirtual 178, 3) := by decide +kernel
theorem dX5_text_90 : decode cX5_text 90 = .ok (.iconst (-1), 1) := by decide +kernel
theorem dX5_text_91 : decode cX5_text 91 = .ok (.aload_n 0, 1) := by decide +kernel
theorem dX5_text_92 : decode cX5_text 92 = .ok (.getfield 218, 3) := by decide +kernel
theorem dX5_text_95 : decode cX5_text 95 = .ok (.isub, 1) := by decide +kernel
theorem dX5_text_96 : decode cX5_text 96 = .ok (.ireturn, 1) := by decide +kernel
theorem dX5_text_97 : decode cX5_text 97 = .ok (.iload_n 1, 1) := by decide +kernel
theorem dX5_text_98 : decode cX5_text 98 = .ok (.ireturn, 1) := by decide +kernel
theorem dX5_token_0 : decode cX5_token 0 = .ok (.aload_n 0, 1) := by decide +kernel
theorem dX5_token_1 : decode cX5_token 1 = .ok (.aload_n 0, 1) := by decide +kernel
theorem dX5_token_2 : decode cX5_token 2 = .ok (.getfield 215, 3) := by decide +kernel
theorem dX5_token_5 : decode cX5_token 5 = .ok (.putfield 218, 3) := by decide +kernel
theorem dX5_token_8 : decode cX5_token 8 = .ok (.aload_n 0, 1) := by decide +kernel
theorem dX5_token_9 : decode cX5_token 9 = .ok (.aload_n 0, 1) := by decide +kernel
theorem dX5_token_10 : decode cX5_token 10 = .ok (.getfield 218, 3) := by decide +kernel
theorem dX5_token_13 : decode cX5_token 13 = .ok (.invokevirtual 221, 3) := by decide +kernel
theorem dX5_token_16 : decode cX5_token 16 = .ok (.bipush 32, 2) := by decide +kernel
theorem dX5_token_18 : decode cX5_token 18 = .ok (.if_icmp .ne 16, 3) := by decide +kernel
theorem dX5_token_21 : decode cX5_token 21 = .ok (.aload_n 0, 1) := by decide +kernel
theorem dX5_token_22 : decode cX5_token 22 = .ok (.dup, 1) := by decide +kernel
theorem dX5_token_23 : decode cX5_token 23 = .ok (.getfield 218, 3) := by decide +kernel
theorem dX5_token_26 : decode cX5_token 26 = .ok (.iconst 1, 1) := by decide +kernel
theorem dX5_token_27 : decode cX5_token 27 = .ok (.iadd, 1) := by decide +kernel
theorem dX5_token_28 : decode cX5_token 28 = .ok (.putfield 218, 3) := by decide +kernel
theorem dX5_token_31 : decode cX5_token 31 = .ok (.goto (-23), 3) := by decide +kernel
theorem dX5_token_34 : decode cX5_token 34 = .ok (.aload_n 0, 1) := by decide +kernel
theorem dX5_token_35 : decode cX5_token 35 = .ok (.aload_n 0, 1) := by decide +kernel
theorem dX5_token_36 : decode cX5_token 36 = .ok (.getfield 218, 3) := by decide +kernel
theorem dX5_token_39 : decode cX5_token 39 = .ok (.invokevirtual 221, 3) := by decide +kernel
theorem dX5_token_42 : decode cX5_token 42 = .ok (.invokestatic 224, 3) := by decide +kernel
theorem dX5_token_45 : decode cX5_token 45 = .ok (.istore_n 1, 1) := by decide +kernel
theorem dX5_token_46 : decode cX5_token 46 = .ok (.aload_n 0, 1) := by decide +kernel
theorem dX5_token_47 : decode cX5_token 47 = .ok (.aload_n 0, 1) := by decide +kernel
theorem dX5_token_48 : decode cX5_token 48 = .ok (.getfield 218, 3) := by decide +kernel
theorem dX5_token_51 : decode cX5_token 51 = .ok (.invokevirtual 221, 3) := by decide +kernel
theorem dX5_token_54 : decode cX5_token 54 = .ok (.invokestatic 227, 3) := by decide +kernel
theorem dX5_token_57 : decode cX5_token 57 = .ok (.istore_n 2, 1) := by decide +kernel
theorem dX5_token_58 : decode cX5_token 58 = .ok (.aload_n 0, 1) := by decide +kernel
theorem dX5_token_59 : decode cX5_token 59 = .ok (.aload_n 0, 1) := by decide +kernel
theorem dX5_token_60 : decode cX5_token 60 = .ok (.getfield 218, 3) := by decide +kernel
theorem dX5_token_63 : decode cX5_token 63 = .ok (.aload_n 0, 1) := by decide +kernel
theorem dX5_token_64 : decode cX5_token 64 = .ok (.getfield 204, 3) := by decide +kernel
theorem dX5_token_67 : decode cX5_token 67 = .ok (.if_icmp .ge 12, 3) := by decide +kernel
theorem dX5_token_70 : decode cX5_token 70 = .ok (.aload_n 0, 1) := by decide +kernel
theorem dX5_token_71 : decode cX5_token 71 = .ok (.getfield 218, 3) := by decide +kernel
theorem dX5_token_74 : decode cX5_token 74 = .ok (.iconst 1, 1) := by decide +kernel
theorem dX5_token_75 : decode cX5_token 75 = .ok (.iadd, 1) := by decide +kernel
theorem dX5_token_76 : decode cX5_token 76 = .ok (.goto 7, 3) := by decide +kernel
theorem dX5_token_79 : decode cX5_token 79 = .ok (.aload_n 0, 1) := by decide +kernel
theorem dX5_token_80 : decode cX5_token 80 = .ok (.getfield 218, 3) := by decide +kernel
theorem dX5_token_83 : decode cX5_token 83 = .ok (.putfield 215, 3) := by decide +kernel
theorem dX5_token_86 : decode cX5_token 86 = .ok (.iload_n 1, 1) := by decide +kernel
theorem dX5_token_87 : decode cX5_token 87 = .ok (.ifCond .eq 17, 3) := by decide +kernel
theorem dX5_token_90 : decode cX5_token 90 = .ok (.aload_n 0, 1) := by decide +kernel
theorem dX5_token_91 : decode cX5_token 91 = .ok (.aload_n 0, 1) := by decide +kernel
theorem dX5_token_92 : decode cX5_token 92 = .ok (.getfield 215, 3) := by decide +kernel
theorem dX5_token_95 : decode cX5_token 95 = .ok (.invokevirtual 221, 3) := by decide +kernel
theorem dX5_token_98 : decode cX5_token 98 = .ok (.invokestatic 224, 3) := by decide +kernel
theorem dX5_token_101 : decode cX5_token 101 = .ok (.ifCond .ne 21, 3) := by decide +kernel
theorem dX5_token_104 : decode cX5_token 104 = .ok (.iload_n 2, 1) := by decide +kernel
theorem dX5_token_105 : decode cX5_token 105 = .ok (.ifCond .eq 30, 3) := by decide +kernel
theorem dX5_token_108 : decode cX5_token 108 = .ok (.aload_n 0, 1) := by decide +kernel
theorem dX5_token_109 : decode cX5_token 109 = .ok (.aload_n 0, 1) := by decide +kernel
theorem dX5_token_110 : decode cX5_token 110 = .ok (.getfield 215, 3) := by decide +kernel
theorem dX5_token_113 : decode cX5_token 113 = .ok (.invokevirtual 221, 3) := by decide +kernel
theorem dX5_token_116 : decode cX5_token 116 = .ok (.invokestatic 227, 3) := by decide +kernel
theorem dX5_token_119 : decode cX5_token 119 = .ok (.ifCond .eq 16, 3) := by decide +kernel
theorem dX5_token_122 : decode cX5_token 122 = .ok (.aload_n 0, 1) := by decide +kernel
theorem dX5_token_123 : decode cX5_token 123 = .ok (.dup, 1) := by decide +kernel
theorem dX5_token_124 : decode cX5_token 124 = .ok (.getfield 215, 3) := by decide +kernel
theorem dX5_token_127 : decode cX5_token 127 = .ok (.iconst 1, 1) := by decide +kernel
theorem dX5_token_128 : decode cX5_token 128 = .ok (.iadd, 1) := by decide +kernel
theorem dX5_token_129 : decode cX5_token 129 = .ok (.putfield 215, 3) := by decide +kernel
theorem dX5_token_132 : decode cX5_token 132 = .ok (.goto (-46), 3) := by decide +kernel
theorem dX5_token_135 : decode cX5_token 135 = .ok (.return_, 1) := by decide +kernel
theorem dX5_top_0 : decode cX5_top 0 = .ok (.aload_n 0, 1) := by decide +kernel
theorem dX5_top_1 : decode cX5_top 1 = .ok (.iload_n 1, 1) := by decide +kernel
theorem dX5_top_2 : decode cX5_top 2 = .ok (.invokevirtual 63, 3) := by decide +kernel
theorem dX5_top_5 : decode cX5_top 5 = .ok (.bipush 30, 2) := by decide +kernel
theorem dX5_top_7 : decode cX5_top 7 = .ok (.if_icmp .ge 11, 3) := by decide +kernel
theorem dX5_top_10 : decode cX5_top 10 = .ok (.aload_n 0, 1) := by decide +kernel
theorem dX5_top_11 : decode cX5_top 11 = .ok (.iload_n 1, 1) := by decide +kernel
theorem dX5_top_12 : decode cX5_top 12 = .ok (.invokevirtual 63, 3) := by decide +kernel
theorem dX5_top_15 : decode cX5_top 15 = .ok (.goto 5, 3) := by decide +kernel
theorem dX5_top_18 : decode cX5_top 18 = .ok (.bipush 30, 2) := by decide +kernel
theorem dX5_top_20 : decode cX5_top 20 = .ok (.istore_n 2, 1) := by decide +kernel
theorem dX5_top_21 : decode cX5_top 21 = .ok (.aload_n 0, 1) := by decide +kernel
theorem dX5_top_22 : decode cX5_top 22 = .ok (.iload_n 1, 1) := by decide +kernel
theorem dX5_top_23 : decode cX5_top 23 = .ok (.invokevirtual 67, 3) := by decide +kernel
theorem dX5_top_26 : decode cX5_top 26 = .ok (.tableswitch 64 3 6 #[30, 32, 40, 48], 30) := by decide +kernel
theorem dX5_top_56 : decode cX5_top 56 = .ok (.iconst 0, 1) := by decide +kernel
theorem dX5_top_57 : decode cX5_top 57 = .ok (.ireturn, 1) := by decide +kernel
theorem dX5_top_58 : decode cX5_top 58 = .ok (.aload_n 0, 1) := by decide +kernel
theorem dX5_top_59 : decode cX5_top 59 = .ok (.iload_n 1, 1) := by decide +kernel
theorem dX5_top_60 : decode cX5_top 60 = .ok (.invokevirtual 70, 3) := by decide +kernel
theorem dX5_top_63 : decode cX5_top 63 = .ok (.iconst 5, 1) := by decide +kernel
theorem dX5_top_64 : decode cX5_top 64 = .ok (.iadd, 1) := by decide +kernel
theorem dX5_top_65 : decode cX5_top 65 = .ok (.ireturn, 1) := by decide +kernel
theorem dX5_top_66 : decode cX5_top 66 = .ok (.aload_n 0, 1) := by decide +kernel
theorem dX5_top_67 : decode cX5_top 67 = .ok (.iload_n 1, 1) := by decide +kernel
theorem dX5_top_68 : decode cX5_top 68 = .ok (.invokevirtual 70, 3) := by decide +kernel
theorem dX5_top_71 : decode cX5_top 71 = .ok (.iload_n 2, 1) := by decide +kernel
theorem dX5_top_72 : decode cX5_top 72 = .ok (.iadd, 1) := by decide +kernel
theorem dX5_top_73 : decode cX5_top 73 = .ok (.ireturn, 1) := by decide +kernel
theorem dX5_top_74 : decode cX5_top 74 = .ok (.aload_n 0, 1) := by decide +kernel
theorem dX5_top_75 : decode cX5_top 75 = .ok (.iload_n 1, 1) := by decide +kernel
theorem dX5_top_76 : decode cX5_top 76 = .ok (.invokevirtual 70, 3) := by decide +kernel
theorem dX5_top_79 : decode cX5_top 79 = .ok (.iload_n 2, 1) := by decide +kernel
theorem dX5_top_80 : decode cX5_top 80 = .ok (.iadd, 1) := by decide +kernel
theorem dX5_top_81 : decode cX5_top 81 = .ok (.aload_n 0, 1) := by decide +kernel
theorem dX5_top_82 : decode cX5_top 82 = .ok (.iload_n 1, 1) := by decide +kernel
theorem dX5_top_83 : decode cX5_top 83 = .ok (.invokevirtual 63, 3) := by decide +kernel
theorem dX5_top_86 : decode cX5_top 86 = .ok (.iconst 2, 1) := by decide +kernel
theorem dX5_top_87 : decode cX5_top 87 = .ok (.idiv, 1) := by decide +kernel
theorem dX5_top_88 : decode cX5_top 88 = .ok (.iadd, 1) := by decide +kernel
theorem dX5_top_89 : decode cX5_top 89 = .ok (.ireturn, 1) := by decide +kernel
theorem dX5_top_90 : decode cX5_top 90 = .ok (.aload_n 0, 1) := by decide +kernel
theorem dX5_top_91 : decode cX5_top 91 = .ok (.iload_n 1, 1) := by decide +kernel
theorem dX5_top_92 : decode cX5_top 92 = .ok (.invokevirtual 70, 3) := by decide +kernel
theorem dX5_top_95 : decode cX5_top 95 = .ok (.ireturn, 1) := by decide +kernel
theorem dX5_two_0 : decode cX5_two 0 = .ok (.iload_n 1, 1) := by decide +kernel
theorem dX5_two_1 : decode cX5_two 1 = .ok (.invokestatic 78, 3) := by decide +kernel
theorem dX5_two_4 : decode cX5_two 4 = .ok (.ifCond .ne 10, 3) := by decide +kernel
theorem dX5_two_7 : decode cX5_two 7 = .ok (.aload_n 0, 1) := by decide +kernel
theorem dX5_two_8 : decode cX5_two 8 = .ok (.ldc 43, 2) := by decide +kernel
theorem dX5_two_10 : decode cX5_two 10 = .ok (.invokevirtual 75, 3) := by decide +kernel
theorem dX5_two_13 : decode cX5_two 13 = .ok (.ireturn, 1) := by decide +kernel
theorem dX5_two_14 : decode cX5_two 14 = .ok (.iconst (-1), 1) := by decide +kernel
theorem dX5_two_15 : decode cX5_two 15 = .ok (.istore_n 2, 1) := by decide +kernel
theorem dX5_two_16 : decode cX5_two 16 = .ok (.iconst 0, 1) := by decide +kernel
theorem dX5_two_17 : decode cX5_two 17 = .ok (.istore_n 3, 1) := by decide +kernel
theorem dX5_two_18 : decode cX5_two 18 = .ok (.aload_n 0, 1) := by decide +kernel
theorem dX5_two_19 : decode cX5_two 19 = .ok (.invokevirtual 171, 3) := by decide +kernel
theorem dX5_two_22 : decode cX5_two 22 = .ok (.iconst 0, 1) := by decide +kernel
theorem dX5_two_23 : decode cX5_two 23 = .ok (.istore 4, 2) := by decide +kernel
theorem dX5_two_25 : decode cX5_two 25 = .ok (.iload 4, 2) := by decide +kernel
theorem dX5_two_27 : decode cX5_two 27 = .ok (.bipush 24, 2) := by decide +kernel
theorem dX5_two_29 : decode cX5_two 29 = .ok (.if_icmp .ge 74, 3) := by decide +kernel
theorem dX5_two_32 : decode cX5_two 32 = .ok (.iload 4, 2) := by decide +kernel
theorem dX5_two_34 : decode cX5_two 34 = .ok (.iconst 1, 1) := by decide +kernel
theorem dX5_two_35 : decode cX5_two 35 = .ok (.iadd, 1) := by decide +kernel
theorem dX5_two_36 : decode cX5_two 36 = .ok (.istore 5, 2) := by decide +kernel
theorem dX5_two_38 : decode cX5_two 38 = .ok (.iload 5, 2) := by decide +kernel
theorem dX5_two_40 : decode cX5_two 40 = .ok (.bipush 24, 2) := by decide +kernel
theorem dX5_two_42 : decode cX5_two 42 = .ok (.if_icmp .ge 55, 3) := by decide +kernel
theorem dX5_two_45 : decode cX5_two 45 = .ok (.aload_n 0, 1) := by decide +kernel
theorem dX5_two_46 : decode cX5_two 46 = .ok (.iload 4, 2) := by decide +kernel
theorem dX5_two_48 : decode cX5_two 48 = .ok (.iload_n 1, 1) := by decide +kernel
theorem dX5_two_49 : decode cX5_two 49 = .ok (.invokevirtual 81, 3) := by decide +kernel
theorem dX5_two_52 : decode cX5_two 52 = .ok (.aload_n 0, 1) := by decide +kernel
theorem dX5_two_53 : decode cX5_two 53 = .ok (.iload 5, 2) := by decide +kernel
theorem dX5_two_55 : decode cX5_two 55 = .ok (.iload_n 1, 1) := by decide +kernel
theorem dX5_two_56 : decode cX5_two 56 = .ok (.invokevirtual 81, 3) := by decide +kernel
theorem dX5_two_59 : decode cX5_two 59 = .ok (.aload_n 0, 1) := by decide +kernel
theorem dX5_two_60 : decode cX5_two 60 = .ok (.invokevirtual 149, 3) := by decide +kernel
theorem dX5_two_63 : decode cX5_two 63 = .ok (.istore 6, 2) := by decide +kernel
theorem dX5_two_65 : decode cX5_two 65 = .ok (.aload_n 0, 1) := by decide +kernel
theorem dX5_two_66 : decode cX5_two 66 = .ok (.invokevirtual 178, 3) := by decide +kernel
theorem dX5_two_69 : decode cX5_two 69 = .ok (.iload_n 2, 1) := by decide +kernel
theorem dX5_two_70 : decode cX5_two 70 = .ok (.ifCond .lt 9, 3) := by decide +kernel
theorem dX5_two_73 : decode cX5_two 73 = .ok (.iload 6, 2) := by decide +kernel
theorem dX5_two_75 : decode cX5_two 75 = .ok (.iload_n 3, 1) := by decide +kernel
theorem dX5_two_76 : decode cX5_two 76 = .ok (.if_icmp .ge 15, 3) := by decide +kernel
theorem dX5_two_79 : decode cX5_two 79 = .ok (.bipush 100, 2) := by decide +kernel
theorem dX5_two_81 : decode cX5_two 81 = .ok (.iload 4, 2) := by decide +kernel
theorem dX5_two_83 : decode cX5_two 83 = .ok (.imul, 1) := by decide +kernel
theorem dX5_two_84 : decode cX5_two 84 = .ok (.iload 5, 2) := by decide +kernel
theorem dX5_two_86 : decode cX5_two 86 = .ok (.iadd, 1) := by decide +kernel
theorem dX5_two_87 : decode cX5_two 87 = .ok (.istore_n 2, 1) := by decide +kernel
theorem dX5_two_88 : decode cX5_two 88 = .ok (.iload 6, 2) := by decide +kernel
theorem dX5_two_90 : decode cX5_two 90 = .ok (.istore_n 3, 1) := by decide +kernel
theorem dX5_two_91 : decode cX5_two 91 = .ok (.iinc 5 1, 3) := by decide +kernel
theorem dX5_two_94 : decode cX5_two 94 = .ok (.goto (-56), 3) := by decide +kernel
theorem dX5_two_97 : decode cX5_two 97 = .ok (.iinc 4 1, 3) := by decide +kernel
theorem dX5_two_100 : decode cX5_two 100 = .ok (.goto (-75), 3) := by decide +kernel
theorem dX5_two_103 : decode cX5_two 103 = .ok (.iload_n 2, 1) := by decide +kernel
theorem dX5_two_104 : decode cX5_two 104 = .ok (.ireturn, 1) := by decide +kernel
theorem dX5_undo_0 : decode cX5_undo 0 = .ok (.aload_n 0, 1) := by decide +kernel
theorem dX5_undo_1 : decode cX5_undo 1 = .ok (.getfield 320, 3) := by decide +kernel
theorem dX5_undo_4 : decode cX5_undo 4 = .ok (.ifCond .ne 10, 3) := by decide +kernel
theorem dX5_undo_7 : decode cX5_undo 7 = .ok (.aload_n 0, 1) := by decide +kernel
theorem dX5_undo_8 : decode cX5_undo 8 = .ok (.ldc 145, 2) := by decide +kernel
theorem dX5_undo_10 : decode cX5_undo 10 = .ok (.invokevirtual 75, 3) := by decide +kernel
theorem dX5_undo_13 : decode cX5_undo 13 = .ok (.ireturn, 1) := by decide +kernel
theorem dX5_undo_14 : decode cX5_undo 14 = .ok (.iconst 0, 1) := by decide +kernel
theorem dX5_undo_15 : decode cX5_undo 15 = .ok (.istore_n 1, 1) := by decide +kernel
theorem dX5_undo_16 : decode cX5_undo 16 = .ok (.iload_n 1, 1) := by decide +kernel
theorem dX5_undo_17 : decode cX5_undo 17 = .ok (.bipush 111, 2) := by decide +kernel
theorem dX5_undo_19 : decode cX5_undo 19 = .ok (.if_icmp .ge 21, 3) := by decide +kernel
theorem dX5_undo_22 : decode cX5_undo 22 = .ok (.aload_n 0, 1) := by decide +kernel
theorem dX5_undo_23 : decode cX5_undo 23 = .ok (.getfield 7, 3) := by decide +kernel
theorem dX5_undo_26 : decode cX5_undo 26 = .ok (.iload_n 1, 1) := by decide +kernel
theorem dX5_undo_27 : decode cX5_undo 27 = .ok (.aload_n 0, 1) := by decide +kernel
theorem dX5_undo_28 : decode cX5_undo 28 = .ok (.getfield 13, 3) := by decide +kernel
theorem dX5_undo_31 : decode cX5_undo 31 = .ok (.iload_n 1, 1) := by decide +kernel
theorem dX5_undo_32 : decode cX5_undo 32 = .ok (.iaload, 1) := by decide +kernel
theorem dX5_undo_33 : decode cX5_undo 33 = .ok (.iastore, 1) := by decide +kernel
theorem dX5_undo_34 : decode cX5_undo 34 = .ok (.iinc 1 1, 3) := by decide +kernel
theorem dX5_undo_37 : decode cX5_undo 37 = .ok (.goto (-21), 3) := by decide +kernel
theorem dX5_undo_40 : decode cX5_undo 40 = .ok (.aload_n 0, 1) := by decide +kernel
theorem dX5_undo_41 : decode cX5_undo 41 = .ok (.getfield 7, 3) := by decide +kernel
theorem dX5_undo_44 : decode cX5_undo 44 = .ok (.iconst 0, 1) := by decide +kernel
theorem dX5_undo_45 : decode cX5_undo 45 = .ok (.iaload, 1) := by decide +kernel
theorem dX5_undo_46 : decode cX5_undo 46 = .ok (.ireturn, 1) := by decide +kernel
theorem dX5_walk_0 : decode cX5_walk 0 = .ok (.aload_n 0, 1) := by decide +kernel
theorem dX5_walk_1 : decode cX5_walk 1 = .ok (.invokevirtual 181, 3) := by decide +kernel
theorem dX5_walk_4 : decode cX5_walk 4 = .ok (.istore_n 1, 1) := by decide +kernel
theorem dX5_walk_5 : decode cX5_walk 5 = .ok (.iconst (-1), 1) := by decide +kernel
theorem dX5_walk_6 : decode cX5_walk 6 = .ok (.istore_n 2, 1) := by decide +kernel
theorem dX5_walk_7 : decode cX5_walk 7 = .ok (.iconst 0, 1) := by decide +kernel
theorem dX5_walk_8 : decode cX5_walk 8 = .ok (.istore_n 3, 1) := by decide +kernel
theorem dX5_walk_9 : decode cX5_walk 9 = .ok (.iload_n 3, 1) := by decide +kernel
theorem dX5_walk_10 : decode cX5_walk 10 = .ok (.iconst 1, 1) := by decide +kernel
theorem dX5_walk_11 : decode cX5_walk 11 = .ok (.aload_n 0, 1) := by decide +kernel
theorem dX5_walk_12 : decode cX5_walk 12 = .ok (.getfield 7, 3) := by decide +kernel
theorem dX5_walk_15 : decode cX5_walk 15 = .ok (.iconst 1, 1) := by decide +kernel
theorem dX5_walk_16 : decode cX5_walk 16 = .ok (.iaload, 1) := by decide +kernel
theorem dX5_walk_17 : decode cX5_walk 17 = .ok (.ishl, 1) := by decide +kernel
theorem dX5_walk_18 : decode cX5_walk 18 = .ok (.if_icmp .ge 84, 3) := by decide +kernel
theorem dX5_walk_21 : decode cX5_walk 21 = .ok (.iconst 0, 1) := by decide +kernel
theorem dX5_walk_22 : decode cX5_walk 22 = .ok (.istore 4, 2) := by decide +kernel
theorem dX5_walk_24 : decode cX5_walk 24 = .ok (.iconst 0, 1) := by decide +kernel
theorem dX5_walk_25 : decode cX5_walk 25 = .ok (.istore 5, 2) := by decide +kernel
theorem dX5_walk_27 : decode cX5_walk 27 = .ok (.iload 5, 2) := by decide +kernel
theorem dX5_walk_29 : decode cX5_walk 29 = .ok (.aload_n 0, 1) := by decide +kernel
theorem dX5_walk_30 : decode cX5_walk 30 = .ok (.getfield 7, 3) := by decide +kernel
theorem dX5_walk_33 : decode cX5_walk 33 = .ok (.iconst 1, 1) := by decide +kernel
theorem dX5_walk_34 : decode cX5_walk 34 = .ok (.iaload, 1) := by decide +kernel
theorem dX5_walk_35 : decode cX5_walk 35 = .ok (.if_icmp .ge 34, 3) := by decide +kernel
theorem dX5_walk_38 : decode cX5_walk 38 = .ok (.iload 4, 2) := by decide +kernel
theorem dX5_walk_40 : decode cX5_walk 40 = .ok (.iload_n 3, 1) := by decide +kernel
theorem dX5_walk_41 : decode cX5_walk 41 = .ok (.iload 5, 2) := by decide +kernel
theorem dX5_walk_43 : decode cX5_walk 43 = .ok (.invokestatic 127, 3) := by decide +kernel
theorem dX5_walk_46 : decode cX5_walk 46 = .ok (.ifCond .eq 13, 3) := by decide +kernel
theorem dX5_walk_49 : decode cX5_walk 49 = .ok (.aload_n 0, 1) := by decide +kernel
theorem dX5_walk_50 : decode cX5_walk 50 = .ok (.getfield 25, 3) := by decide +kernel
theorem dX5_walk_53 : decode cX5_walk 53 = .ok (.iload 5, 2) := by decide +kernel
theorem dX5_walk_55 : decode cX5_walk 55 = .ok (.iaload, 1) := by decide +kernel
theorem dX5_walk_56 : decode cX5_walk 56 = .ok (.goto 4, 3) := by decide +kernel
theorem dX5_walk_59 : decode cX5_walk 59 = .ok (.iconst 0, 1) := by decide +kernel
theorem dX5_walk_60 : decode cX5_walk 60 = .ok (.ior, 1) := by decide +kernel
theorem dX5_walk_61 : decode cX5_walk 61 = .ok (.istore 4, 2) := by decide +kernel
theorem dX5_walk_63 : decode cX5_walk 63 = .ok (.iinc 5 1, 3) := by decide +kernel
theorem dX5_walk_66 : decode cX5_walk 66 = .ok (.goto (-39), 3) := by decide +kernel
theorem dX5_walk_69 : decode cX5_walk 69 = .ok (.iload 4, 2) := by decide +kernel
theorem dX5_walk_71 : decode cX5_walk 71 = .ok (.iload_n 1, 1) := by decide +kernel
theorem dX5_walk_72 : decode cX5_walk 72 = .ok (.if_icmp .ne 22, 3) := by decide +kernel
theorem dX5_walk_75 : decode cX5_walk 75 = .ok (.iload_n 2, 1) := by decide +kernel
theorem dX5_walk_76 : decode cX5_walk 76 = .ok (.ifCond .lt 14, 3) := by decide +kernel
theorem dX5_walk_79 : decode cX5_walk 79 = .ok (.iload_n 3, 1) := by decide +kernel
theorem dX5_walk_80 : decode cX5_walk 80 = .ok (.invokestatic 156, 3) := by decide +kernel
theorem dX5_walk_83 : decode cX5_walk 83 = .ok (.iload_n 2, 1) := by decide +kernel
theorem dX5_walk_84 : decode cX5_walk 84 = .ok (.invokestatic 156, 3) := by decide +kernel
theorem dX5_walk_87 : decode cX5_walk 87 = .ok (.if_icmp .ge 7, 3) := by decide +kernel
theorem dX5_walk_90 : decode cX5_walk 90 = .ok (.iload_n 3, 1) := by decide +kernel
theorem dX5_walk_91 : decode cX5_walk 91 = .ok (.goto 4, 3) := by decide +kernel
theorem dX5_walk_94 : decode cX5_walk 94 = .ok (.iload_n 2, 1) := by decide +kernel
theorem dX5_walk_95 : decode cX5_walk 95 = .ok (.istore_n 2, 1) := by decide +kernel
theorem dX5_walk_96 : decode cX5_walk 96 = .ok (.iinc 3 1, 3) := by decide +kernel
theorem dX5_walk_99 : decode cX5_walk 99 = .ok (.goto (-90), 3) := by decide +kernel
theorem dX5_walk_102 : decode cX5_walk 102 = .ok (.iload_n 2, 1) := by decide +kernel
theorem dX5_walk_103 : decode cX5_walk 103 = .ok (.ireturn, 1) := by decide +kernel
theorem dX5_wall_0 : decode cX5_wall 0 = .ok (.aload_n 0, 1) := by decide +kernel
theorem dX5_wall_1 : decode cX5_wall 1 = .ok (.iload_n 1, 1) := by decide +kernel
theorem dX5_wall_2 : decode cX5_wall 2 = .ok (.invokevirtual 104, 3) := by decide +kernel
theorem dX5_wall_5 : decode cX5_wall 5 = .ok (.ifCond .eq 10, 3) := by decide +kernel
theorem dX5_wall_8 : decode cX5_wall 8 = .ok (.iload_n 2, 1) := by decide +kernel
theorem dX5_wall_9 : decode cX5_wall 9 = .ok (.invokestatic 58, 3) := by decide +kernel
theorem dX5_wall_12 : decode cX5_wall 12 = .ok (.ifCond .ne 10, 3) := by decide +kernel
theorem dX5_wall_15 : decode cX5_wall 15 = .ok (.aload_n 0, 1) := by decide +kernel
theorem dX5_wall_16 : decode cX5_wall 16 = .ok (.ldc 43, 2) := by decide +kernel
theorem dX5_wall_18 : decode cX5_wall 18 = .ok (.invokevirtual 75, 3) := by decide +kernel
theorem dX5_wall_21 : decode cX5_wall 21 = .ok (.ireturn, 1) := by decide +kernel
theorem dX5_wall_22 : decode cX5_wall 22 = .ok (.aload_n 0, 1) := by decide +kernel
theorem dX5_wall_23 : decode cX5_wall 23 = .ok (.iload_n 1, 1) := by decide +kernel
theorem dX5_wall_24 : decode cX5_wall 24 = .ok (.invokevirtual 112, 3) := by decide +kernel
theorem dX5_wall_27 : decode cX5_wall 27 = .ok (.istore_n 3, 1) := by decide +kernel
theorem dX5_wall_28 : decode cX5_wall 28 = .ok (.iconst (-1), 1) := by decide +kernel
theorem dX5_wall_29 : decode cX5_wall 29 = .ok (.istore 4, 2) := by decide +kernel
theorem dX5_wall_31 : decode cX5_wall 31 = .ok (.iconst 0, 1) := by decide +kernel
theorem dX5_wall_32 : decode cX5_wall 32 = .ok (.istore 5, 2) := by decide +kernel
theorem dX5_wall_34 : decode cX5_wall 34 = .ok (.iconst 0, 1) := by decide +kernel
theorem dX5_wall_35 : decode cX5_wall 35 = .ok (.istore 6, 2) := by decide +kernel
theorem dX5_wall_37 : decode cX5_wall 37 = .ok (.iload 6, 2) := by decide +kernel
theorem dX5_wall_39 : decode cX5_wall 39 = .ok (.iconst 4, 1) := by decide +kernel
theorem dX5_wall_40 : decode cX5_wall 40 = .ok (.if_icmp .ge 63, 3) := by decide +kernel
theorem dX5_wall_43 : decode cX5_wall 43 = .ok (.aload_n 0, 1) := by decide +kernel
theorem dX5_wall_44 : decode cX5_wall 44 = .ok (.getfield 7, 3) := by decide +kernel
theorem dX5_wall_47 : decode cX5_wall 47 = .ok (.bipush 77, 2) := by decide +kernel
theorem dX5_wall_49 : decode cX5_wall 49 = .ok (.iconst 3, 1) := by decide +kernel
theorem dX5_wall_50 : decode cX5_wall 50 = .ok (.iload_n 1, 1) := by decide +kernel
theorem dX5_wall_51 : decode cX5_wall 51 = .ok (.imul, 1) := by decide +kernel
theorem dX5_wall_52 : decode cX5_wall 52 = .ok (.iadd, 1) := by decide +kernel
theorem dX5_wall_53 : decode cX5_wall 53 = .ok (.iconst 2, 1) := by decide +kernel
theorem dX5_wall_54 : decode cX5_wall 54 = .ok (.iadd, 1) := by decide +kernel
theorem dX5_wall_55 : decode cX5_wall 55 = .ok (.iload 6, 2) := by decide +kernel
theorem dX5_wall_57 : decode cX5_wall 57 = .ok (.iastore, 1) := by decide +kernel
theorem dX5_wall_58 : decode cX5_wall 58 = .ok (.aload_n 0, 1) := by decide +kernel
theorem dX5_wall_59 : decode cX5_wall 59 = .ok (.iload_n 1, 1) := by decide +kernel
theorem dX5_wall_60 : decode cX5_wall 60 = .ok (.invokevirtual 146, 3) := by decide +kernel
theorem dX5_wall_63 : decode cX5_wall 63 = .ok (.istore 7, 2) := by decide +kernel
theorem dX5_wall_65 : decode cX5_wall 65 = .ok (.aload_n 0, 1) := by decide +kernel
theorem dX5_wall_66 : decode cX5_wall 66 = .ok (.iload_n 1, 1) := by decide +kernel
theorem dX5_wall_67 : decode cX5_wall 67 = .ok (.invokevirtual 141, 3) := by decide +kernel
theorem dX5_wall_70 : decode cX5_wall 70 = .ok (.iload_n 2, 1) := by decide +kernel
theorem dX5_wall_71 : decode cX5_wall 71 = .ok (.invokestatic 127, 3) := by decide +kernel
theorem dX5_wall_74 : decode cX5_wall 74 = .ok (.ifCond .eq 23, 3) := by decide +kernel
theorem dX5_wall_77 : decode cX5_wall 77 = .ok (.iload 4, 2) := by decide +kernel
theorem dX5_wall_79 : decode cX5_wall 79 = .ok (.ifCond .lt 10, 3) := by decide +kernel
theorem dX5_wall_82 : decode cX5_wall 82 = .ok (.iload 7, 2) := by decide +kernel
theorem dX5_wall_84 : decode cX5_wall 84 = .ok (.iload 5, 2) := by decide +kernel
theorem dX5_wall_86 : decode cX5_wall 86 = .ok (.if_icmp .ge 11, 3) := by decide +kernel
theorem dX5_wall_89 : decode cX5_wall 89 = .ok (.iload 6, 2) := by decide +kernel
theorem dX5_wall_91 : decode cX5_wall 91 = .ok (.istore 4, 2) := by decide +kernel
theorem dX5_wall_93 : decode cX5_wall 93 = .ok (.iload 7, 2) := by decide +kernel
theorem dX5_wall_95 : decode cX5_wall 95 = .ok (.istore 5, 2) := by decide +kernel
theorem dX5_wall_97 : decode cX5_wall 97 = .ok (.iinc 6 1, 3) := by decide +kernel
theorem dX5_wall_100 : decode cX5_wall 100 = .ok (.goto (-63), 3) := by decide +kernel
theorem dX5_wall_103 : decode cX5_wall 103 = .ok (.aload_n 0, 1) := by decide +kernel
theorem dX5_wall_104 : decode cX5_wall 104 = .ok (.getfield 7, 3) := by decide +kernel
theorem dX5_wall_107 : decode cX5_wall 107 = .ok (.bipush 77, 2) := by decide +kernel
theorem dX5_wall_109 : decode cX5_wall 109 = .ok (.iconst 3, 1) := by decide +kernel
theorem dX5_wall_110 : decode cX5_wall 110 = .ok (.iload_n 1, 1) := by decide +kernel
theorem dX5_wall_111 : decode cX5_wall 111 = .ok (.imul, 1) := by decide +kernel
theorem dX5_wall_112 : decode cX5_wall 112 = .ok (.iadd, 1) := by decide +kernel
theorem dX5_wall_113 : decode cX5_wall 113 = .ok (.iconst 2, 1) := by decide +kernel
theorem dX5_wall_114 : decode cX5_wall 114 = .ok (.iadd, 1) := by decide +kernel
theorem dX5_wall_115 : decode cX5_wall 115 = .ok (.iload_n 3, 1) := by decide +kernel
theorem dX5_wall_116 : decode cX5_wall 116 = .ok (.iastore, 1) := by decide +kernel
theorem dX5_wall_117 : decode cX5_wall 117 = .ok (.iload 4, 2) := by decide +kernel
theorem dX5_wall_119 : decode cX5_wall 119 = .ok (.ifCond .ge 12, 3) := by decide +kernel
theorem dX5_wall_122 : decode cX5_wall 122 = .ok (.aload_n 0, 1) := by decide +kernel
theorem dX5_wall_123 : decode cX5_wall 123 = .ok (.ldc 145, 2) := by decide +kernel
theorem dX5_wall_125 : decode cX5_wall 125 = .ok (.invokevirtual 75, 3) := by decide +kernel
theorem dX5_wall_128 : decode cX5_wall 128 = .ok (.goto 5, 3) := by decide +kernel
theorem dX5_wall_131 : decode cX5_wall 131 = .ok (.iload 4, 2) := by decide +kernel
theorem dX5_wall_133 : decode cX5_wall 133 = .ok (.ireturn, 1) := by decide +kernel
theorem dX5_when_0 : decode cX5_when 0 = .ok (.aload_n 0, 1) := by decide +kernel
theorem dX5_when_1 : decode cX5_when 1 = .ok (.iload_n 1, 1) := by decide +kernel
theorem dX5_when_2 : decode cX5_when 2 = .ok (.invokevirtual 104, 3) := by decide +kernel
theorem dX5_when_5 : decode cX5_when 5 = .ok (.ifCond .ne 10, 3) := by decide +kernel
theorem dX5_when_8 : decode cX5_when 8 = .ok (.aload_n 0, 1) := by decide +kernel
theorem dX5_when_9 : decode cX5_when 9 = .ok (.ldc 43, 2) := by decide +kernel
theorem dX5_when_11 : decode cX5_when 11 = .ok (.invokevirtual 75, 3) := by decide +kernel
theorem dX5_when_14 : decode cX5_when 14 = .ok (.ireturn, 1) := by decide +kernel
theorem dX5_when_15 : decode cX5_when 15 = .ok (.aload_n 0, 1) := by decide +kernel
theorem dX5_when_16 : decode cX5_when 16 = .ok (.bipush 60, 2) := by decide +kernel
theorem dX5_when_18 : decode cX5_when 18 = .ok (.invokevirtual 168, 3) := by decide +kernel
theorem dX5_when_21 : decode cX5_when 21 = .ok (.ifCond .eq 10, 3) := by decide +kernel
theorem dX5_when_24 : decode cX5_when 24 = .ok (.aload_n 0, 1) := by decide +kernel
theorem dX5_when_25 : decode cX5_when 25 = .ok (.ldc 144, 2) := by decide +kernel
theorem dX5_when_27 : decode cX5_when 27 = .ok (.invokevirtual 75, 3) := by decide +kernel
theorem dX5_when_30 : decode cX5_when 30 = .ok (.ireturn, 1) := by decide +kernel
theorem dX5_when_31 : decode cX5_when 31 = .ok (.aload_n 0, 1) := by decide +kernel
theorem dX5_when_32 : decode cX5_when 32 = .ok (.invokevirtual 171, 3) := by decide +kernel
theorem dX5_when_35 : decode cX5_when 35 = .ok (.iconst 0, 1) := by decide +kernel
theorem dX5_when_36 : decode cX5_when 36 = .ok (.istore_n 2, 1) := by decide +kernel
theorem dX5_when_37 : decode cX5_when 37 = .ok (.aload_n 0, 1) := by decide +kernel
theorem dX5_when_38 : decode cX5_when 38 = .ok (.iload_n 1, 1) := by decide +kernel
theorem dX5_when_39 : decode cX5_when 39 = .ok (.invokevirtual 146, 3) := by decide +kernel
theorem dX5_when_42 : decode cX5_when 42 = .ok (.istore_n 3, 1) := by decide +kernel
theorem dX5_when_43 : decode cX5_when 43 = .ok (.iconst 1, 1) := by decide +kernel
theorem dX5_when_44 : decode cX5_when 44 = .ok (.istore 4, 2) := by decide +kernel
theorem dX5_when_46 : decode cX5_when 46 = .ok (.iload 4, 2) := by decide +kernel
theorem dX5_when_48 : decode cX5_when 48 = .ok (.bipush 60, 2) := by decide +kernel
theorem dX5_when_50 : decode cX5_when 50 = .ok (.if_icmp .gt 46, 3) := by decide +kernel
theorem dX5_when_53 : decode cX5_when 53 = .ok (.aload_n 0, 1) := by decide +kernel
theorem dX5_when_54 : decode cX5_when 54 = .ok (.invokevirtual 162, 3) := by decide +kernel
theorem dX5_when_57 : decode cX5_when 57 = .ok (.aload_n 0, 1) := by decide +kernel
theorem dX5_when_58 : decode cX5_when 58 = .ok (.iload_n 1, 1) := by decide +kernel
theorem dX5_when_59 : decode cX5_when 59 = .ok (.invokevirtual 146, 3) := by decide +kernel
theorem dX5_when_62 : decode cX5_when 62 = .ok (.istore 5, 2) := by decide +kernel
theorem dX5_when_64 : decode cX5_when 64 = .ok (.iload 5, 2) := by decide +kernel
theorem dX5_when_66 : decode cX5_when 66 = .ok (.iload_n 3, 1) := by decide +kernel
theorem dX5_when_67 : decode cX5_when 67 = .ok (.if_icmp .ge 8, 3) := by decide +kernel
theorem dX5_when_70 : decode cX5_when 70 = .ok (.iload 4, 2) := by decide +kernel
theorem dX5_when_72 : decode cX5_when 72 = .ok (.goto 4, 3) := by decide +kernel
theorem dX5_when_75 : decode cX5_when 75 = .ok (.iload_n 2, 1) := by decide +kernel
theorem dX5_when_76 : decode cX5_when 76 = .ok (.istore_n 2, 1) := by decide +kernel
theorem dX5_when_77 : decode cX5_when 77 = .ok (.iload 5, 2) := by decide +kernel
theorem dX5_when_79 : decode cX5_when 79 = .ok (.iload_n 3, 1) := by decide +kernel
theorem dX5_when_80 : decode cX5_when 80 = .ok (.if_icmp .ge 8, 3) := by decide +kernel
theorem dX5_when_83 : decode cX5_when 83 = .ok (.iload 5, 2) := by decide +kernel
theorem dX5_when_85 : decode cX5_when 85 = .ok (.goto 4, 3) := by decide +kernel
theorem dX5_when_88 : decode cX5_when 88 = .ok (.iload_n 3, 1) := by decide +kernel
theorem dX5_when_89 : decode cX5_when 89 = .ok (.istore_n 3, 1) := by decide +kernel
theorem dX5_when_90 : decode cX5_when 90 = .ok (.iinc 4 1, 3) := by decide +kernel
theorem dX5_when_93 : decode cX5_when 93 = .ok (.goto (-47), 3) := by decide +kernel
theorem dX5_when_96 : decode cX5_when 96 = .ok (.aload_n 0, 1) := by decide +kernel
theorem dX5_when_97 : decode cX5_when 97 = .ok (.invokevirtual 178, 3) := by decide +kernel
theorem dX5_when_100 : decode cX5_when 100 = .ok (.iload_n 2, 1) := by decide +kernel
theorem dX5_when_101 : decode cX5_when 101 = .ok (.ireturn, 1) := by decide +kernel
theorem dX5_which_0 : decode cX5_which 0 = .ok (.iload_n 1, 1) := by decide +kernel
theorem dX5_which_1 : decode cX5_which 1 = .ok (.invokestatic 58, 3) := by decide +kernel
theorem dX5_which_4 : decode cX5_which 4 = .ok (.ifCond .eq 10, 3) := by decide +kernel
theorem dX5_which_7 : decode cX5_which 7 = .ok (.iload_n 2, 1) := by decide +kernel
theorem dX5_which_8 : decode cX5_which 8 = .ok (.invokestatic 159, 3) := by decide +kernel
theorem dX5_which_11 : decode cX5_which 11 = .ok (.ifCond .ne 10, 3) := by decide +kernel
theorem dX5_which_14 : decode cX5_which 14 = .ok (.aload_n 0, 1) := by decide +kernel
theorem dX5_which_15 : decode cX5_which 15 = .ok (.ldc 43, 2) := by decide +kernel
theorem dX5_which_17 : decode cX5_which 17 = .ok (.invokevirtual 75, 3) := by decide +kernel
theorem dX5_which_20 : decode cX5_which 20 = .ok (.ireturn, 1) := by decide +kernel
theorem dX5_which_21 : decode cX5_which 21 = .ok (.iconst (-1), 1) := by decide +kernel
theorem dX5_which_22 : decode cX5_which 22 = .ok (.istore_n 3, 1) := by decide +kernel
theorem dX5_which_23 : decode cX5_which 23 = .ok (.iconst 0, 1) := by decide +kernel
theorem dX5_which_24 : decode cX5_which 24 = .ok (.istore 4, 2) := by decide +kernel
theorem dX5_which_26 : decode cX5_which 26 = .ok (.iload 4, 2) := by decide +kernel
theorem dX5_which_28 : decode cX5_which 28 = .ok (.aload_n 0, 1) := by decide +kernel
theorem dX5_which_29 : decode cX5_which 29 = .ok (.getfield 7, 3) := by decide +kernel
theorem dX5_which_32 : decode cX5_which 32 = .ok (.iconst 1, 1) := by decide +kernel
theorem dX5_which_33 : decode cX5_which 33 = .ok (.iaload, 1) := by decide +kernel
theorem dX5_which_34 : decode cX5_which 34 = .ok (.if_icmp .ge 65, 3) := by decide +kernel
theorem dX5_which_37 : decode cX5_which 37 = .ok (.iload_n 3, 1) := by decide +kernel
theorem dX5_which_38 : decode cX5_which 38 = .ok (.ifCond .ge 61, 3) := by decide +kernel
theorem dX5_which_41 : decode cX5_which 41 = .ok (.aload_n 0, 1) := by decide +kernel
theorem dX5_which_42 : decode cX5_which 42 = .ok (.iload 4, 2) := by decide +kernel
theorem dX5_which_44 : decode cX5_which 44 = .ok (.invokevirtual 93, 3) := by decide +kernel
theorem dX5_which_47 : decode cX5_which 47 = .ok (.istore 5, 2) := by decide +kernel
theorem dX5_which_49 : decode cX5_which 49 = .ok (.aload_n 0, 1) := by decide +kernel
theorem dX5_which_50 : decode cX5_which 50 = .ok (.getfield 7, 3) := by decide +kernel
theorem dX5_which_53 : decode cX5_which 53 = .ok (.bipush 77, 2) := by decide +kernel
theorem dX5_which_55 : decode cX5_which 55 = .ok (.iconst 3, 1) := by decide +kernel
theorem dX5_which_56 : decode cX5_which 56 = .ok (.iload 4, 2) := by decide +kernel
theorem dX5_which_58 : decode cX5_which 58 = .ok (.imul, 1) := by decide +kernel
theorem dX5_which_59 : decode cX5_which 59 = .ok (.iadd, 1) := by decide +kernel
theorem dX5_which_60 : decode cX5_which 60 = .ok (.iload_n 1, 1) := by decide +kernel
theorem dX5_which_61 : decode cX5_which 61 = .ok (.iastore, 1) := by decide +kernel
theorem dX5_which_62 : decode cX5_which 62 = .ok (.aload_n 0, 1) := by decide +kernel
theorem dX5_which_63 : decode cX5_which 63 = .ok (.iload 4, 2) := by decide +kernel
theorem dX5_which_65 : decode cX5_which 65 = .ok (.invokevirtual 146, 3) := by decide +kernel
theorem dX5_which_68 : decode cX5_which 68 = .ok (.iload_n 2, 1) := by decide +kernel
theorem dX5_which_69 : decode cX5_which 69 = .ok (.if_icmp .ne 8, 3) := by decide +kernel
theorem dX5_which_72 : decode cX5_which 72 = .ok (.iload 4, 2) := by decide +kernel
theorem dX5_which_74 : decode cX5_which 74 = .ok (.goto 4, 3) := by decide +kernel
theorem dX5_which_77 : decode cX5_which 77 = .ok (.iconst (-1), 1) := by decide +kernel
theorem dX5_which_78 : decode cX5_which 78 = .ok (.istore_n 3, 1) := by decide +kernel
theorem dX5_which_79 : decode cX5_which 79 = .ok (.aload_n 0, 1) := by decide +kernel
theorem dX5_which_80 : decode cX5_which 80 = .ok (.getfield 7, 3) := by decide +kernel
theorem dX5_which_83 : decode cX5_which 83 = .ok (.bipush 77, 2) := by decide +kernel
theorem dX5_which_85 : decode cX5_which 85 = .ok (.iconst 3, 1) := by decide +kernel
theorem dX5_which_86 : decode cX5_which 86 = .ok (.iload 4, 2) := by decide +kernel
theorem dX5_which_88 : decode cX5_which 88 = .ok (.imul, 1) := by decide +kernel
theorem dX5_which_89 : decode cX5_which 89 = .ok (.iadd, 1) := by decide +kernel
theorem dX5_which_90 : decode cX5_which 90 = .ok (.iload 5, 2) := by decide +kernel
theorem dX5_which_92 : decode cX5_which 92 = .ok (.iastore, 1) := by decide +kernel
theorem dX5_which_93 : decode cX5_which 93 = .ok (.iinc 4 1, 3) := by decide +kernel
theorem dX5_which_96 : decode cX5_which 96 = .ok (.goto (-70), 3) := by decide +kernel
theorem dX5_which_99 : decode cX5_which 99 = .ok (.iload_n 3, 1) := by decide +kernel
theorem dX5_which_100 : decode cX5_which 100 = .ok (.ifCond .ge 12, 3) := by decide +kernel
theorem dX5_which_103 : decode cX5_which 103 = .ok (.aload_n 0, 1) := by decide +kernel
theorem dX5_which_104 : decode cX5_which 104 = .ok (.ldc 145, 2) := by decide +kernel
theorem dX5_which_106 : decode cX5_which 106 = .ok (.invokevirtual 75, 3) := by decide +kernel
theorem dX5_which_109 : decode cX5_which 109 = .ok (.goto 4, 3) := by decide +kernel
theorem dX5_which_112 : decode cX5_which 112 = .ok (.iload_n 3, 1) := by decide +kernel
theorem dX5_which_113 : decode cX5_which 113 = .ok (.ireturn, 1) := by decide +kernel
theorem dX5_widest_0 : decode cX5_widest 0 = .ok (.aload_n 0, 1) := by decide +kernel
theorem dX5_widest_1 : decode cX5_widest 1 = .ok (.iload_n 1, 1) := by decide +kernel
theorem dX5_widest_2 : decode cX5_widest 2 = .ok (.invokevirtual 104, 3) := by decide +kernel
theorem dX5_widest_5 : decode cX5_widest 5 = .ok (.ifCond .ne 10, 3) := by decide +kernel
theorem dX5_widest_8 : decode cX5_widest 8 = .ok (.aload_n 0, 1) := by decide +kernel
theorem dX5_widest_9 : decode cX5_widest 9 = .ok (.ldc 43, 2) := by decide +kernel
theorem dX5_widest_11 : decode cX5_widest 11 = .ok (.invokevirtual 75, 3) := by decide +kernel
theorem dX5_widest_14 : decode cX5_widest 14 = .ok (.ireturn, 1) := by decide +kernel
theorem dX5_widest_15 : decode cX5_widest 15 = .ok (.aload_n 0, 1) := by decide +kernel
theorem dX5_widest_16 : decode cX5_widest 16 = .ok (.getfield 7, 3) := by decide +kernel
theorem dX5_widest_19 : decode cX5_widest 19 = .ok (.bipush 77, 2) := by decide +kernel
theorem dX5_widest_21 : decode cX5_widest 21 = .ok (.iconst 3, 1) := by decide +kernel
theorem dX5_widest_22 : decode cX5_widest 22 = .ok (.iload_n 1, 1) := by decide +kernel
theorem dX5_widest_23 : decode cX5_widest 23 = .ok (.imul, 1) := by decide +kernel
theorem dX5_widest_24 : decode cX5_widest 24 = .ok (.iadd, 1) := by decide +kernel
theorem dX5_widest_25 : decode cX5_widest 25 = .ok (.iconst 1, 1) := by decide +kernel
theorem dX5_widest_26 : decode cX5_widest 26 = .ok (.iadd, 1) := by decide +kernel
theorem dX5_widest_27 : decode cX5_widest 27 = .ok (.iaload, 1) := by decide +kernel
theorem dX5_widest_28 : decode cX5_widest 28 = .ok (.istore_n 2, 1) := by decide +kernel
theorem dX5_widest_29 : decode cX5_widest 29 = .ok (.iconst 0, 1) := by decide +kernel
theorem dX5_widest_30 : decode cX5_widest 30 = .ok (.istore_n 3, 1) := by decide +kernel
theorem dX5_widest_31 : decode cX5_widest 31 = .ok (.iconst 0, 1) := by decide +kernel
theorem dX5_widest_32 : decode cX5_widest 32 = .ok (.istore 4, 2) := by decide +kernel
theorem dX5_widest_34 : decode cX5_widest 34 = .ok (.iconst 1, 1) := by decide +kernel
theorem dX5_widest_35 : decode cX5_widest 35 = .ok (.istore 5, 2) := by decide +kernel
theorem dX5_widest_37 : decode cX5_widest 37 = .ok (.iload 5, 2) := by decide +kernel
theorem dX5_widest_39 : decode cX5_widest 39 = .ok (.bipush 40, 2) := by decide +kernel
theorem dX5_widest_41 : decode cX5_widest 41 = .ok (.if_icmp .gt 64, 3) := by decide +kernel
theorem dX5_widest_44 : decode cX5_widest 44 = .ok (.aload_n 0, 1) := by decide +kernel
theorem dX5_widest_45 : decode cX5_widest 45 = .ok (.getfield 7, 3) := by decide +kernel
theorem dX5_widest_48 : decode cX5_widest 48 = .ok (.bipush 77, 2) := by decide +kernel
theorem dX5_widest_50 : decode cX5_widest 50 = .ok (.iconst 3, 1) := by decide +kernel
theorem dX5_widest_51 : decode cX5_widest 51 = .ok (.iload_n 1, 1) := by decide +kernel
theorem dX5_widest_52 : decode cX5_widest 52 = .ok (.imul, 1) := by decide +kernel
theorem dX5_widest_53 : decode cX5_widest 53 = .ok (.iadd, 1) := by decide +kernel
theorem dX5_widest_54 : decode cX5_widest 54 = .ok (.iconst 1, 1) := by decide +kernel
theorem dX5_widest_55 : decode cX5_widest 55 = .ok (.iadd, 1) := by decide +kernel
theorem dX5_widest_56 : decode cX5_widest 56 = .ok (.iload 5, 2) := by decide +kernel
theorem dX5_widest_58 : decode cX5_widest 58 = .ok (.iastore, 1) := by decide +kernel
theorem dX5_widest_59 : decode cX5_widest 59 = .ok (.aload_n 0, 1) := by decide +kernel
theorem dX5_widest_60 : decode cX5_widest 60 = .ok (.iload_n 1, 1) := by decide +kernel
theorem dX5_widest_61 : decode cX5_widest 61 = .ok (.invokevirtual 141, 3) := by decide +kernel
theorem dX5_widest_64 : decode cX5_widest 64 = .ok (.invokestatic 156, 3) := by decide +kernel
theorem dX5_widest_67 : decode cX5_widest 67 = .ok (.istore 6, 2) := by decide +kernel
theorem dX5_widest_69 : decode cX5_widest 69 = .ok (.iload 6, 2) := by decide +kernel
theorem dX5_widest_71 : decode cX5_widest 71 = .ok (.iload 4, 2) := by decide +kernel
theorem dX5_widest_73 : decode cX5_widest 73 = .ok (.if_icmp .le 8, 3) := by decide +kernel
theorem dX5_widest_76 : decode cX5_widest 76 = .ok (.iload 5, 2) := by decide +kernel
theorem dX5_widest_78 : decode cX5_widest 78 = .ok (.goto 4, 3) := by decide +kernel
theorem dX5_widest_81 : decode cX5_widest 81 = .ok (.iload_n 3, 1) := by decide +kernel
theorem dX5_widest_82 : decode cX5_widest 82 = .ok (.istore_n 3, 1) := by decide +kernel
theorem dX5_widest_83 : decode cX5_widest 83 = .ok (.iload 6, 2) := by decide +kernel
theorem dX5_widest_85 : decode cX5_widest 85 = .ok (.iload 4, 2) := by decide +kernel
theorem dX5_widest_87 : decode cX5_widest 87 = .ok (.if_icmp .le 8, 3) := by decide +kernel
theorem dX5_widest_90 : decode cX5_widest 90 = .ok (.iload 6, 2) := by decide +kernel
theorem dX5_widest_92 : decode cX5_widest 92 = .ok (.goto 5, 3) := by decide +kernel
theorem dX5_widest_95 : decode cX5_widest 95 = .ok (.iload 4, 2) := by decide +kernel
theorem dX5_widest_97 : decode cX5_widest 97 = .ok (.istore 4, 2) := by decide +kernel
theorem dX5_widest_99 : decode cX5_widest 99 = .ok (.iinc 5 1, 3) := by decide +kernel
theorem dX5_widest_102 : decode cX5_widest 102 = .ok (.goto (-65), 3) := by decide +kernel
theorem dX5_widest_105 : decode cX5_widest 105 = .ok (.aload_n 0, 1) := by decide +kernel
theorem dX5_widest_106 : decode cX5_widest 106 = .ok (.getfield 7, 3) := by decide +kernel
theorem dX5_widest_109 : decode cX5_widest 109 = .ok (.bipush 77, 2) := by decide +kernel
theorem dX5_widest_111 : decode cX5_widest 111 = .ok (.iconst 3, 1) := by decide +kernel
theorem dX5_widest_112 : decode cX5_widest 112 = .ok (.iload_n 1, 1) := by decide +kernel
theorem dX5_widest_113 : decode cX5_widest 113 = .ok (.imul, 1) := by decide +kernel
theorem dX5_widest_114 : decode cX5_widest 114 = .ok (.iadd, 1) := by decide +kernel
theorem dX5_widest_115 : decode cX5_widest 115 = .ok (.iconst 1, 1) := by decide +kernel
theorem dX5_widest_116 : decode cX5_widest 116 = .ok (.iadd, 1) := by decide +kernel
theorem dX5_widest_117 : decode cX5_widest 117 = .ok (.iload_n 2, 1) := by decide +kernel
theorem dX5_widest_118 : decode cX5_widest 118 = .ok (.iastore, 1) := by decide +kernel
theorem dX5_widest_119 : decode cX5_widest 119 = .ok (.iload_n 3, 1) := by decide +kernel
theorem dX5_widest_120 : decode cX5_widest 120 = .ok (.ireturn, 1) := by decide +kernel
theorem dX5_windows_0 : decode cX5_windows 0 = .ok (.aload_n 0, 1) := by decide +kernel
theorem dX5_windows_1 : decode cX5_windows 1 = .ok (.iload_n 1, 1) := by decide +kernel
theorem dX5_windows_2 : decode cX5_windows 2 = .ok (.invokevirtual 104, 3) := by decide +kernel
theorem dX5_windows_5 : decode cX5_windows 5 = .ok (.ifCond .eq 15, 3) := by decide +kernel
theorem dX5_windows_8 : decode cX5_windows 8 = .ok (.iload_n 2, 1) := by decide +kernel
theorem dX5_windows_9 : decode cX5_windows 9 = .ok (.i2l, 1) := by decide +kernel
theorem dX5_windows_10 : decode cX5_windows 10 = .ok (.lconst 0, 1) := by decide +kernel
theorem dX5_windows_11 : decode cX5_windows 11 = .ok (.ldc2_w 107, 3) := by decide +kernel
theorem dX5_windows_14 : decode cX5_windows 14 = .ok (.invokestatic 46, 3) := by decide +kernel
theorem dX5_windows_17 : decode cX5_windows 17 = .ok (.ifCond .ne 10, 3) := by decide +kernel
theorem dX5_windows_20 : decode cX5_windows 20 = .ok (.aload_n 0, 1) := by decide +kernel
theorem dX5_windows_21 : decode cX5_windows 21 = .ok (.ldc 43, 2) := by decide +kernel
theorem dX5_windows_23 : decode cX5_windows 23 = .ok (.invokevirtual 75, 3) := by decide +kernel
theorem dX5_windows_26 : decode cX5_windows 26 = .ok (.ireturn, 1) := by decide +kernel
theorem dX5_windows_27 : decode cX5_windows 27 = .ok (.aload_n 0, 1) := by decide +kernel
theorem dX5_windows_28 : decode cX5_windows 28 = .ok (.iload_n 1, 1) := by decide +kernel
theorem dX5_windows_29 : decode cX5_windows 29 = .ok (.invokevirtual 112, 3) := by decide +kernel
theorem dX5_windows_32 : decode cX5_windows 32 = .ok (.istore_n 3, 1) := by decide +kernel
theorem dX5_windows_33 : decode cX5_windows 33 = .ok (.aload_n 0, 1) := by decide +kernel
theorem dX5_windows_34 : decode cX5_windows 34 = .ok (.getfield 7, 3) := by decide +kernel
theorem dX5_windows_37 : decode cX5_windows 37 = .ok (.bipush 77, 2) := by decide +kernel
theorem dX5_windows_39 : decode cX5_windows 39 = .ok (.iconst 3, 1) := by decide +kernel
theorem dX5_windows_40 : decode cX5_windows 40 = .ok (.iload_n 1, 1) := by decide +kernel
theorem dX5_windows_41 : decode cX5_windows 41 = .ok (.imul, 1) := by decide +kernel
theorem dX5_windows_42 : decode cX5_windows 42 = .ok (.iadd, 1) := by decide +kernel
theorem dX5_windows_43 : decode cX5_windows 43 = .ok (.iconst 2, 1) := by decide +kernel
theorem dX5_windows_44 : decode cX5_windows 44 = .ok (.iadd, 1) := by decide +kernel
theorem dX5_windows_45 : decode cX5_windows 45 = .ok (.iload_n 2, 1) := by decide +kernel
theorem dX5_windows_46 : decode cX5_windows 46 = .ok (.iastore, 1) := by decide +kernel
theorem dX5_windows_47 : decode cX5_windows 47 = .ok (.iload_n 3, 1) := by decide +kernel
theorem dX5_windows_48 : decode cX5_windows 48 = .ok (.ireturn, 1) := by decide +kernel
theorem dX5_wipe_0 : decode cX5_wipe 0 = .ok (.aload_n 0, 1) := by decide +kernel
theorem dX5_wipe_1 : decode cX5_wipe 1 = .ok (.getfield 204, 3) := by decide +kernel
theorem dX5_wipe_4 : decode cX5_wipe 4 = .ok (.istore_n 1, 1) := by decide +kernel
theorem dX5_wipe_5 : decode cX5_wipe 5 = .ok (.aload_n 0, 1) := by decide +kernel
theorem dX5_wipe_6 : decode cX5_wipe 6 = .ok (.iconst 0, 1) := by decide +kernel
theorem dX5_wipe_7 : decode cX5_wipe 7 = .ok (.putfield 204, 3) := by decide +kernel
theorem dX5_wipe_10 : decode cX5_wipe 10 = .ok (.iload_n 1, 1) := by decide +kernel
theorem dX5_wipe_11 : decode cX5_wipe 11 = .ok (.ireturn, 1) := by decide +kernel
theorem dX5_word_0 : decode cX5_word 0 = .ok (.lconst 0, 1) := by decide +kernel
theorem dX5_word_1 : decode cX5_word 1 = .ok (.lstore_n 1, 1) := by decide +kernel
theorem dX5_word_2 : decode cX5_word 2 = .ok (.aload_n 0, 1) := by decide +kernel
theorem dX5_word_3 : decode cX5_word 3 = .ok (.getfield 218, 3) := by decide +kernel
theorem dX5_word_6 : decode cX5_word 6 = .ok (.istore_n 3, 1) := by decide +kernel
theorem dX5_word_7 : decode cX5_word 7 = .ok (.iload_n 3, 1) := by decide +kernel
theorem dX5_word_8 : decode cX5_word 8 = .ok (.aload_n 0, 1) := by decide +kernel
theorem dX5_word_9 : decode cX5_word 9 = .ok (.getfield 215, 3) := by decide +kernel
theorem dX5_word_12 : decode cX5_word 12 = .ok (.if_icmp .ge 38, 3) := by decide +kernel
theorem dX5_word_15 : decode cX5_word 15 = .ok (.lload_n 1, 1) := by decide +kernel
theorem dX5_word_16 : decode cX5_word 16 = .ok (.ldc2_w 237, 3) := by decide +kernel
theorem dX5_word_19 : decode cX5_word 19 = .ok (.lcmp, 1) := by decide +kernel
theorem dX5_word_20 : decode cX5_word 20 = .ok (.ifCond .le 7, 3) := by decide +kernel
theorem dX5_word_23 : decode cX5_word 23 = .ok (.lload_n 1, 1) := by decide +kernel
theorem dX5_word_24 : decode cX5_word 24 = .ok (.goto 19, 3) := by decide +kernel
theorem dX5_word_27 : decode cX5_word 27 = .ok (.ldc2_w 239, 3) := by decide +kernel
theorem dX5_word_30 : decode cX5_word 30 = .ok (.lload_n 1, 1) := by decide +kernel
theorem dX5_word_31 : decode cX5_word 31 = .ok (.lmul, 1) := by decide +kernel
theorem dX5_word_32 : decode cX5_word 32 = .ok (.aload_n 0, 1) := by decide +kernel
theorem dX5_word_33 : decode cX5_word 33 = .ok (.getfield 28, 3) := by decide +kernel
theorem dX5_word_36 : decode cX5_word 36 = .ok (.iload_n 3, 1) := by decide +kernel
theorem dX5_word_37 : decode cX5_word 37 = .ok (.iaload, 1) := by decide +kernel
theorem dX5_word_38 : decode cX5_word 38 = .ok (.bipush 96, 2) := by decide +kernel
theorem dX5_word_40 : decode cX5_word 40 = .ok (.isub, 1) := by decide +kernel
theorem dX5_word_41 : decode cX5_word 41 = .ok (.i2l, 1) := by decide +kernel
theorem dX5_word_42 : decode cX5_word 42 = .ok (.ladd, 1) := by decide +kernel
theorem dX5_word_43 : decode cX5_word 43 = .ok (.lstore_n 1, 1) := by decide +kernel
theorem dX5_word_44 : decode cX5_word 44 = .ok (.iinc 3 1, 3) := by decide +kernel
theorem dX5_word_47 : decode cX5_word 47 = .ok (.goto (-40), 3) := by decide +kernel
theorem dX5_word_50 : decode cX5_word 50 = .ok (.aload_n 0, 1) := by decide +kernel
theorem dX5_word_51 : decode cX5_word 51 = .ok (.getfield 230, 3) := by decide +kernel
theorem dX5_word_54 : decode cX5_word 54 = .ok (.ifCond .ne 17, 3) := by decide +kernel
theorem dX5_word_57 : decode cX5_word 57 = .ok (.aload_n 0, 1) := by decide +kernel
theorem dX5_word_58 : decode cX5_word 58 = .ok (.aload_n 0, 1) := by decide +kernel
theorem dX5_word_59 : decode cX5_word 59 = .ok (.getfield 218, 3) := by decide +kernel
theorem dX5_word_62 : decode cX5_word 62 = .ok (.invokevirtual 221, 3) := by decide +kernel
theorem dX5_word_65 : decode cX5_word 65 = .ok (.invokestatic 224, 3) := by decide +kernel
theorem dX5_word_68 : decode cX5_word 68 = .ok (.ifCond .ne 7, 3) := by decide +kernel
theorem dX5_word_71 : decode cX5_word 71 = .ok (.lconst 0, 1) := by decide +kernel
theorem dX5_word_72 : decode cX5_word 72 = .ok (.goto 4, 3) := by decide +kernel
theorem dX5_word_75 : decode cX5_word 75 = .ok (.lload_n 1, 1) := by decide +kernel
theorem dX5_word_76 : decode cX5_word 76 = .ok (.lreturn, 1) := by decide +kernel
theorem dX5_worth_0 : decode cX5_worth 0 = .ok (.aload_n 0, 1) := by decide +kernel
theorem dX5_worth_1 : decode cX5_worth 1 = .ok (.iload_n 1, 1) := by decide +kernel
theorem dX5_worth_2 : decode cX5_worth 2 = .ok (.invokevirtual 67, 3) := by decide +kernel
theorem dX5_worth_5 : decode cX5_worth 5 = .ok (.tableswitch 48 1 6 #[39, 41, 43, 46, 48, 41], 39) := by decide +kernel
theorem dX5_worth_44 : decode cX5_worth 44 = .ok (.iconst 5, 1) := by decide +kernel
theorem dX5_worth_45 : decode cX5_worth 45 = .ok (.ireturn, 1) := by decide +kernel
theorem dX5_worth_46 : decode cX5_worth 46 = .ok (.iconst 3, 1) := by decide +kernel
theorem dX5_worth_47 : decode cX5_worth 47 = .ok (.ireturn, 1) := by decide +kernel
theorem dX5_worth_48 : decode cX5_worth 48 = .ok (.bipush 20, 2) := by decide +kernel
theorem dX5_worth_50 : decode cX5_worth 50 = .ok (.ireturn, 1) := by decide +kernel
theorem dX5_worth_51 : decode cX5_worth 51 = .ok (.iconst 0, 1) := by decide +kernel
theorem dX5_worth_52 : decode cX5_worth 52 = .ok (.ireturn, 1) := by decide +kernel
theorem dX5_worth_53 : decode cX5_worth 53 = .ok (.iconst 1, 1) := by decide +kernel
theorem dX5_worth_54 : decode cX5_worth 54 = .ok (.ireturn, 1) := by decide +kernel
theorem dX5_write_0 : decode cX5_write 0 = .ok (.aload_n 0, 1) := by decide +kernel
theorem dX5_write_1 : decode cX5_write 1 = .ok (.iload_n 1, 1) := by decide +kernel
theorem dX5_write_2 : decode cX5_write 2 = .ok (.invokevirtual 314, 3) := by decide +kernel
theorem dX5_write_5 : decode cX5_write 5 = .ok (.istore 4, 2) := by decide +kernel
theorem dX5_write_7 : decode cX5_write 7 = .ok (.iload 4, 2) := by decide +kernel
theorem dX5_write_9 : decode cX5_write 9 = .ok (.ifCond .eq 10, 3) := by decide +kernel
theorem dX5_write_12 : decode cX5_write 12 = .ok (.aload_n 0, 1) := by decide +kernel
theorem dX5_write_13 : decode cX5_write 13 = .ok (.iload 4, 2) := by decide +kernel
theorem dX5_write_15 : decode cX5_write 15 = .ok (.invokevirtual 75, 3) := by decide +kernel
theorem dX5_write_18 : decode cX5_write 18 = .ok (.ireturn, 1) := by decide +kernel
theorem dX5_write_19 : decode cX5_write 19 = .ok (.iload_n 2, 1) := by decide +kernel
theorem dX5_write_20 : decode cX5_write 20 = .ok (.i2l, 1) := by decide +kernel
theorem dX5_write_21 : decode cX5_write 21 = .ok (.lconst 0, 1) := by decide +kernel
theorem dX5_write_22 : decode cX5_write 22 = .ok (.aload_n 0, 1) := by decide +kernel
theorem dX5_write_23 : decode cX5_write 23 = .ok (.getfield 34, 3) := by decide +kernel
theorem dX5_write_26 : decode cX5_write 26 = .ok (.iload_n 1, 1) := by decide +kernel
theorem dX5_write_27 : decode cX5_write 27 = .ok (.iaload, 1) := by decide +kernel
theorem dX5_write_28 : decode cX5_write 28 = .ok (.iconst 1, 1) := by decide +kernel
theorem dX5_write_29 : decode cX5_write 29 = .ok (.isub, 1) := by decide +kernel
theorem dX5_write_30 : decode cX5_write 30 = .ok (.i2l, 1) := by decide +kernel
theorem dX5_write_31 : decode cX5_write 31 = .ok (.invokestatic 46, 3) := by decide +kernel
theorem dX5_write_34 : decode cX5_write 34 = .ok (.ifCond .ne 10, 3) := by decide +kernel
theorem dX5_write_37 : decode cX5_write 37 = .ok (.aload_n 0, 1) := by decide +kernel
theorem dX5_write_38 : decode cX5_write 38 = .ok (.ldc 43, 2) := by decide +kernel
theorem dX5_write_40 : decode cX5_write 40 = .ok (.invokevirtual 75, 3) := by decide +kernel
theorem dX5_write_43 : decode cX5_write 43 = .ok (.ireturn, 1) := by decide +kernel
theorem dX5_write_44 : decode cX5_write 44 = .ok (.aload_n 0, 1) := by decide +kernel
theorem dX5_write_45 : decode cX5_write 45 = .ok (.getfield 37, 3) := by decide +kernel
theorem dX5_write_48 : decode cX5_write 48 = .ok (.bipush 40, 2) := by decide +kernel
theorem dX5_write_50 : decode cX5_write 50 = .ok (.iload_n 1, 1) := by decide +kernel
theorem dX5_write_51 : decode cX5_write 51 = .ok (.imul, 1) := by decide +kernel
theorem dX5_write_52 : decode cX5_write 52 = .ok (.iload_n 2, 1) := by decide +kernel
theorem dX5_write_53 : decode cX5_write 53 = .ok (.iadd, 1) := by decide +kernel
theorem dX5_write_54 : decode cX5_write 54 = .ok (.aload_n 0, 1) := by decide +kernel
theorem dX5_write_55 : decode cX5_write 55 = .ok (.getfield 31, 3) := by decide +kernel
theorem dX5_write_58 : decode cX5_write 58 = .ok (.iload_n 1, 1) := by decide +kernel
theorem dX5_write_59 : decode cX5_write 59 = .ok (.iaload, 1) := by decide +kernel
theorem dX5_write_60 : decode cX5_write 60 = .ok (.iload_n 3, 1) := by decide +kernel
theorem dX5_write_61 : decode cX5_write 61 = .ok (.invokestatic 317, 3) := by decide +kernel
theorem dX5_write_64 : decode cX5_write 64 = .ok (.iastore, 1) := by decide +kernel
theorem dX5_write_65 : decode cX5_write 65 = .ok (.iconst 1, 1) := by decide +kernel
theorem dX5_write_66 : decode cX5_write 66 = .ok (.ireturn, 1) := by decide +kernel
theorem dX5_wrong_0 : decode cX5_wrong 0 = .ok (.iload_n 1, 1) := by decide +kernel
theorem dX5_wrong_1 : decode cX5_wrong 1 = .ok (.invokestatic 310, 3) := by decide +kernel
theorem dX5_wrong_4 : decode cX5_wrong 4 = .ok (.ifCond .ne 8, 3) := by decide +kernel
theorem dX5_wrong_7 : decode cX5_wrong 7 = .ok (.ldc 43, 2) := by decide +kernel
theorem dX5_wrong_9 : decode cX5_wrong 9 = .ok (.goto 19, 3) := by decide +kernel
theorem dX5_wrong_12 : decode cX5_wrong 12 = .ok (.aload_n 0, 1) := by decide +kernel
theorem dX5_wrong_13 : decode cX5_wrong 13 = .ok (.getfield 31, 3) := by decide +kernel
theorem dX5_wrong_16 : decode cX5_wrong 16 = .ok (.iload_n 1, 1) := by decide +kernel
theorem dX5_wrong_17 : decode cX5_wrong 17 = .ok (.iaload, 1) := by decide +kernel
theorem dX5_wrong_18 : decode cX5_wrong 18 = .ok (.ifCond .ne 9, 3) := by decide +kernel
theorem dX5_wrong_21 : decode cX5_wrong 21 = .ok (.ldc_w 308, 3) := by decide +kernel
theorem dX5_wrong_24 : decode cX5_wrong 24 = .ok (.goto 4, 3) := by decide +kernel
theorem dX5_wrong_27 : decode cX5_wrong 27 = .ok (.iconst 0, 1) := by decide +kernel
theorem dX5_wrong_28 : decode cX5_wrong 28 = .ok (.ireturn, 1) := by decide +kernel
theorem dX5_year_0 : decode cX5_year 0 = .ok (.aload_n 0, 1) := by decide +kernel
theorem dX5_year_1 : decode cX5_year 1 = .ok (.getfield 7, 3) := by decide +kernel
theorem dX5_year_4 : decode cX5_year 4 = .ok (.iconst 0, 1) := by decide +kernel
theorem dX5_year_5 : decode cX5_year 5 = .ok (.dup2, 1) := by decide +kernel
theorem dX5_year_6 : decode cX5_year 6 = .ok (.iaload, 1) := by decide +kernel
theorem dX5_year_7 : decode cX5_year 7 = .ok (.iconst 1, 1) := by decide +kernel
theorem dX5_year_8 : decode cX5_year 8 = .ok (.iadd, 1) := by decide +kernel
theorem dX5_year_9 : decode cX5_year 9 = .ok (.iastore, 1) := by decide +kernel
theorem dX5_year_10 : decode cX5_year 10 = .ok (.iconst 0, 1) := by decide +kernel
theorem dX5_year_11 : decode cX5_year 11 = .ok (.istore_n 1, 1) := by decide +kernel
theorem dX5_year_12 : decode cX5_year 12 = .ok (.iload_n 1, 1) := by decide +kernel
theorem dX5_year_13 : decode cX5_year 13 = .ok (.bipush 24, 2) := by decide +kernel
theorem dX5_year_15 : decode cX5_year 15 = .ok (.if_icmp .ge 39, 3) := by decide +kernel
theorem dX5_year_18 : decode cX5_year 18 = .ok (.aload_n 0, 1) := by decide +kernel
theorem dX5_year_19 : decode cX5_year 19 = .ok (.getfield 7, 3) := by decide +kernel
theorem dX5_year_22 : decode cX5_year 22 = .ok (.iconst 5, 1) := by decide +kernel
theorem dX5_year_23 : decode cX5_year 23 = .ok (.iconst 3, 1) := by decide +kernel
theorem dX5_year_24 : decode cX5_year 24 = .ok (.iload_n 1, 1) := by decide +kernel
theorem dX5_year_25 : decode cX5_year 25 = .ok (.imul, 1) := by decide +kernel
theorem dX5_year_26 : decode cX5_year 26 = .ok (.iadd, 1) := by decide +kernel
theorem dX5_year_27 : decode cX5_year 27 = .ok (.iconst 2, 1) := by decide +kernel
theorem dX5_year_28 : decode cX5_year 28 = .ok (.iadd, 1) := by decide +kernel
theorem dX5_year_29 : decode cX5_year 29 = .ok (.dup2, 1) := by decide +kernel
theorem dX5_year_30 : decode cX5_year 30 = .ok (.iaload, 1) := by decide +kernel
theorem dX5_year_31 : decode cX5_year 31 = .ok (.aload_n 0, 1) := by decide +kernel
theorem dX5_year_32 : decode cX5_year 32 = .ok (.iload_n 1, 1) := by decide +kernel
theorem dX5_year_33 : decode cX5_year 33 = .ok (.invokevirtual 63, 3) := by decide +kernel
theorem dX5_year_36 : decode cX5_year 36 = .ok (.bipush 99, 2) := by decide +kernel
theorem dX5_year_38 : decode cX5_year 38 = .ok (.if_icmp .ge 7, 3) := by decide +kernel
theorem dX5_year_41 : decode cX5_year 41 = .ok (.iconst 1, 1) := by decide +kernel
theorem dX5_year_42 : decode cX5_year 42 = .ok (.goto 4, 3) := by decide +kernel
theorem dX5_year_45 : decode cX5_year 45 = .ok (.iconst 0, 1) := by decide +kernel
theorem dX5_year_46 : decode cX5_year 46 = .ok (.iadd, 1) := by decide +kernel
theorem dX5_year_47 : decode cX5_year 47 = .ok (.iastore, 1) := by decide +kernel
theorem dX5_year_48 : decode cX5_year 48 = .ok (.iinc 1 1, 3) := by decide +kernel
theorem dX5_year_51 : decode cX5_year 51 = .ok (.goto (-39), 3) := by decide +kernel
theorem dX5_year_54 : decode cX5_year 54 = .ok (.return_, 1) := by decide +kernel
theorem dX5_years_0 : decode cX5_years 0 = .ok (.iload_n 1, 1) := by decide +kernel
theorem dX5_years_1 : decode cX5_years 1 = .ok (.i2l, 1) := by decide +kernel
theorem dX5_years_2 : decode cX5_years 2 = .ok (.lconst 1, 1) := by decide +kernel
theorem dX5_years_3 : decode cX5_years 3 = .ok (.ldc2_w 54, 3) := by decide +kernel
theorem dX5_years_6 : decode cX5_years 6 = .ok (.invokestatic 46, 3) := by decide +kernel
theorem dX5_years_9 : decode cX5_years 9 = .ok (.ifCond .ne 10, 3) := by decide +kernel
theorem dX5_years_12 : decode cX5_years 12 = .ok (.aload_n 0, 1) := by decide +kernel
theorem dX5_years_13 : decode cX5_years 13 = .ok (.ldc 43, 2) := by decide +kernel
theorem dX5_years_15 : decode cX5_years 15 = .ok (.invokevirtual 75, 3) := by decide +kernel
theorem dX5_years_18 : decode cX5_years 18 = .ok (.ireturn, 1) := by decide +kernel
theorem dX5_years_19 : decode cX5_years 19 = .ok (.aload_n 0, 1) := by decide +kernel
theorem dX5_years_20 : decode cX5_years 20 = .ok (.iload_n 1, 1) := by decide +kernel
theorem dX5_years_21 : decode cX5_years 21 = .ok (.invokevirtual 168, 3) := by decide +kernel
theorem dX5_years_24 : decode cX5_years 24 = .ok (.ifCond .eq 10, 3) := by decide +kernel
theorem dX5_years_27 : decode cX5_years 27 = .ok (.aload_n 0, 1) := by decide +kernel
theorem dX5_years_28 : decode cX5_years 28 = .ok (.ldc 144, 2) := by decide +kernel
theorem dX5_years_30 : decode cX5_years 30 = .ok (.invokevirtual 75, 3) := by decide +kernel
theorem dX5_years_33 : decode cX5_years 33 = .ok (.ireturn, 1) := by decide +kernel
theorem dX5_years_34 : decode cX5_years 34 = .ok (.aload_n 0, 1) := by decide +kernel
theorem dX5_years_35 : decode cX5_years 35 = .ok (.iload_n 1, 1) := by decide +kernel
theorem dX5_years_36 : decode cX5_years 36 = .ok (.invokevirtual 174, 3) := by decide +kernel
theorem dX5_years_39 : decode cX5_years 39 = .ok (.aload_n 0, 1) := by decide +kernel
theorem dX5_years_40 : decode cX5_years 40 = .ok (.getfield 7, 3) := by decide +kernel
theorem dX5_years_43 : decode cX5_years 43 = .ok (.iconst 0, 1) := by decide +kernel
theorem dX5_years_44 : decode cX5_years 44 = .ok (.iaload, 1) := by decide +kernel
theorem dX5_years_45 : decode cX5_years 45 = .ok (.ireturn, 1) := by decide +kernel
theorem dX5_yearsGo_0 : decode cX5_yearsGo 0 = .ok (.iconst 0, 1) := by decide +kernel
theorem dX5_yearsGo_1 : decode cX5_yearsGo 1 = .ok (.istore_n 2, 1) := by decide +kernel
theorem dX5_yearsGo_2 : decode cX5_yearsGo 2 = .ok (.iload_n 2, 1) := by decide +kernel
theorem dX5_yearsGo_3 : decode cX5_yearsGo 3 = .ok (.iload_n 1, 1) := by decide +kernel
theorem dX5_yearsGo_4 : decode cX5_yearsGo 4 = .ok (.if_icmp .ge 13, 3) := by decide +kernel
theorem dX5_yearsGo_7 : decode cX5_yearsGo 7 = .ok (.aload_n 0, 1) := by decide +kernel
theorem dX5_yearsGo_8 : decode cX5_yearsGo 8 = .ok (.invokevirtual 162, 3) := by decide +kernel
theorem dX5_yearsGo_11 : decode cX5_yearsGo 11 = .ok (.iinc 2 1, 3) := by decide +kernel
theorem dX5_yearsGo_14 : decode cX5_yearsGo 14 = .ok (.goto (-12), 3) := by decide +kernel
theorem dX5_yearsGo_17 : decode cX5_yearsGo 17 = .ok (.return_, 1) := by decide +kernel
end
