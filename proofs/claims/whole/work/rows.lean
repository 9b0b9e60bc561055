section
-- ===== PART A: goes FIRST, ahead of the names: the tables' words, and 'selects' of the private methods out of them =====
/-- a private method of a class that the tables say can be made, by its rows of tables_1 -/
def lw_okq (q : MethodName × Nat) : Prop := (q.1.cls ≠ "java/lang/invoke/MethodHandle" ∧ q.1.cls ≠ "java/lang/invoke/VarHandle") ∧ Cond.instantiable q.1.cls q.2 ∈ tables_1 ∧ Cond.privateMethod q.1 ∈ tables_1 ∧ Cond.instanceMethod q.1 ∈ tables_1
theorem lw_p0 : lw_okq (⟨"SeenLand", "tell", "(I)I"⟩, 9) := ⟨⟨by decide +kernel, by decide +kernel⟩, List.mem_of_getElem? (i := 15) (by decide +kernel), List.mem_of_getElem? (i := 180) (by decide +kernel), List.mem_of_getElem? (i := 181) (by decide +kernel)⟩
theorem lw_p1 : lw_okq (⟨"SeenLand$Land", "raiseTo", "(II)V"⟩, 13) := ⟨⟨by decide +kernel, by decide +kernel⟩, List.mem_of_getElem? (i := 23) (by decide +kernel), List.mem_of_getElem? (i := 185) (by decide +kernel), List.mem_of_getElem? (i := 186) (by decide +kernel)⟩
theorem lw_p2 : lw_okq (⟨"SeenLand$Land", "renewTop", "(I)V"⟩, 13) := ⟨⟨by decide +kernel, by decide +kernel⟩, List.mem_of_getElem? (i := 23) (by decide +kernel), List.mem_of_getElem? (i := 189) (by decide +kernel), List.mem_of_getElem? (i := 190) (by decide +kernel)⟩
theorem lw_p3 : lw_okq (⟨"SeenLand$Land", "ageTo", "(II)V"⟩, 13) := ⟨⟨by decide +kernel, by decide +kernel⟩, List.mem_of_getElem? (i := 23) (by decide +kernel), List.mem_of_getElem? (i := 199) (by decide +kernel), List.mem_of_getElem? (i := 200) (by decide +kernel)⟩
theorem lw_p4 : lw_okq (⟨"SeenLand$Land", "place", "(II)V"⟩, 13) := ⟨⟨by decide +kernel, by decide +kernel⟩, List.mem_of_getElem? (i := 23) (by decide +kernel), List.mem_of_getElem? (i := 210) (by decide +kernel), List.mem_of_getElem? (i := 211) (by decide +kernel)⟩
theorem lw_p5 : lw_okq (⟨"SeenLand$Land", "worthOf", "(I)I"⟩, 13) := ⟨⟨by decide +kernel, by decide +kernel⟩, List.mem_of_getElem? (i := 23) (by decide +kernel), List.mem_of_getElem? (i := 218) (by decide +kernel), List.mem_of_getElem? (i := 219) (by decide +kernel)⟩
theorem lw_p6 : lw_okq (⟨"SeenLand$Land", "isBuiltUp", "()Z"⟩, 13) := ⟨⟨by decide +kernel, by decide +kernel⟩, List.mem_of_getElem? (i := 23) (by decide +kernel), List.mem_of_getElem? (i := 231) (by decide +kernel), List.mem_of_getElem? (i := 232) (by decide +kernel)⟩
theorem lw_p7 : lw_okq (⟨"SeenLand$Land", "build", "(III)V"⟩, 13) := ⟨⟨by decide +kernel, by decide +kernel⟩, List.mem_of_getElem? (i := 23) (by decide +kernel), List.mem_of_getElem? (i := 235) (by decide +kernel), List.mem_of_getElem? (i := 236) (by decide +kernel)⟩
theorem lw_p8 : lw_okq (⟨"SeenLand", "isHouse", "(I)Z"⟩, 9) := ⟨⟨by decide +kernel, by decide +kernel⟩, List.mem_of_getElem? (i := 15) (by decide +kernel), List.mem_of_getElem? (i := 243) (by decide +kernel), List.mem_of_getElem? (i := 244) (by decide +kernel)⟩
theorem lw_p9 : lw_okq (⟨"SeenLand$Land", "eyeOf", "(I)I"⟩, 13) := ⟨⟨by decide +kernel, by decide +kernel⟩, List.mem_of_getElem? (i := 23) (by decide +kernel), List.mem_of_getElem? (i := 247) (by decide +kernel), List.mem_of_getElem? (i := 248) (by decide +kernel)⟩
theorem lw_p10 : lw_okq (⟨"SeenLand$Land", "lower", "(II)V"⟩, 13) := ⟨⟨by decide +kernel, by decide +kernel⟩, List.mem_of_getElem? (i := 23) (by decide +kernel), List.mem_of_getElem? (i := 267) (by decide +kernel), List.mem_of_getElem? (i := 268) (by decide +kernel)⟩
theorem lw_p11 : lw_okq (⟨"SeenLand$Land", "turnInto", "(II)V"⟩, 13) := ⟨⟨by decide +kernel, by decide +kernel⟩, List.mem_of_getElem? (i := 23) (by decide +kernel), List.mem_of_getElem? (i := 279) (by decide +kernel), List.mem_of_getElem? (i := 280) (by decide +kernel)⟩
theorem lw_p12 : lw_okq (⟨"SeenLand$Land", "sightOf", "(I)I"⟩, 13) := ⟨⟨by decide +kernel, by decide +kernel⟩, List.mem_of_getElem? (i := 23) (by decide +kernel), List.mem_of_getElem? (i := 287) (by decide +kernel), List.mem_of_getElem? (i := 288) (by decide +kernel)⟩
theorem lw_p13 : lw_okq (⟨"SeenLand$Land", "lookOut", "(II)I"⟩, 13) := ⟨⟨by decide +kernel, by decide +kernel⟩, List.mem_of_getElem? (i := 23) (by decide +kernel), List.mem_of_getElem? (i := 291) (by decide +kernel), List.mem_of_getElem? (i := 292) (by decide +kernel)⟩
theorem lw_p14 : lw_okq (⟨"SeenLand$Land", "hasInSight", "(II)Z"⟩, 13) := ⟨⟨by decide +kernel, by decide +kernel⟩, List.mem_of_getElem? (i := 23) (by decide +kernel), List.mem_of_getElem? (i := 300) (by decide +kernel), List.mem_of_getElem? (i := 301) (by decide +kernel)⟩
theorem lw_p15 : lw_okq (⟨"SeenLand$Land", "looksTowards", "(II)Z"⟩, 13) := ⟨⟨by decide +kernel, by decide +kernel⟩, List.mem_of_getElem? (i := 23) (by decide +kernel), List.mem_of_getElem? (i := 321) (by decide +kernel), List.mem_of_getElem? (i := 322) (by decide +kernel)⟩
def lw_privs_1 : List (MethodName × Nat) := [(⟨"SeenLand", "tell", "(I)I"⟩, 9), (⟨"SeenLand$Land", "raiseTo", "(II)V"⟩, 13), (⟨"SeenLand$Land", "renewTop", "(I)V"⟩, 13), (⟨"SeenLand$Land", "ageTo", "(II)V"⟩, 13), (⟨"SeenLand$Land", "place", "(II)V"⟩, 13), (⟨"SeenLand$Land", "worthOf", "(I)I"⟩, 13), (⟨"SeenLand$Land", "isBuiltUp", "()Z"⟩, 13), (⟨"SeenLand$Land", "build", "(III)V"⟩, 13), (⟨"SeenLand", "isHouse", "(I)Z"⟩, 9), (⟨"SeenLand$Land", "eyeOf", "(I)I"⟩, 13), (⟨"SeenLand$Land", "lower", "(II)V"⟩, 13), (⟨"SeenLand$Land", "turnInto", "(II)V"⟩, 13), (⟨"SeenLand$Land", "sightOf", "(I)I"⟩, 13), (⟨"SeenLand$Land", "lookOut", "(II)I"⟩, 13), (⟨"SeenLand$Land", "hasInSight", "(II)Z"⟩, 13), (⟨"SeenLand$Land", "looksTowards", "(II)Z"⟩, 13)]
theorem lw_r1 : ∀ q ∈ lw_privs_1, lw_okq q := List.forall_mem_cons.mpr ⟨lw_p0, List.forall_mem_cons.mpr ⟨lw_p1, List.forall_mem_cons.mpr ⟨lw_p2, List.forall_mem_cons.mpr ⟨lw_p3, List.forall_mem_cons.mpr ⟨lw_p4, List.forall_mem_cons.mpr ⟨lw_p5, List.forall_mem_cons.mpr ⟨lw_p6, List.forall_mem_cons.mpr ⟨lw_p7, List.forall_mem_cons.mpr ⟨lw_p8, List.forall_mem_cons.mpr ⟨lw_p9, List.forall_mem_cons.mpr ⟨lw_p10, List.forall_mem_cons.mpr ⟨lw_p11, List.forall_mem_cons.mpr ⟨lw_p12, List.forall_mem_cons.mpr ⟨lw_p13, List.forall_mem_cons.mpr ⟨lw_p14, List.forall_mem_cons.mpr ⟨lw_p15, fun _ h => absurd h List.not_mem_nil⟩⟩⟩⟩⟩⟩⟩⟩⟩⟩⟩⟩⟩⟩⟩⟩
theorem lw_p16 : lw_okq (⟨"SeenLand$Land", "hiderOf", "(II)I"⟩, 13) := ⟨⟨by decide +kernel, by decide +kernel⟩, List.mem_of_getElem? (i := 23) (by decide +kernel), List.mem_of_getElem? (i := 328) (by decide +kernel), List.mem_of_getElem? (i := 329) (by decide +kernel)⟩
theorem lw_p17 : lw_okq (⟨"SeenLand$Land", "taxOf", "(I)I"⟩, 13) := ⟨⟨by decide +kernel, by decide +kernel⟩, List.mem_of_getElem? (i := 23) (by decide +kernel), List.mem_of_getElem? (i := 336) (by decide +kernel), List.mem_of_getElem? (i := 337) (by decide +kernel)⟩
theorem lw_p18 : lw_okq (⟨"SeenLand$Land", "worthSeenBy", "(I)I"⟩, 13) := ⟨⟨by decide +kernel, by decide +kernel⟩, List.mem_of_getElem? (i := 23) (by decide +kernel), List.mem_of_getElem? (i := 340) (by decide +kernel), List.mem_of_getElem? (i := 341) (by decide +kernel)⟩
theorem lw_p19 : lw_okq (⟨"SeenLand$Land", "allTax", "()I"⟩, 13) := ⟨⟨by decide +kernel, by decide +kernel⟩, List.mem_of_getElem? (i := 23) (by decide +kernel), List.mem_of_getElem? (i := 352) (by decide +kernel), List.mem_of_getElem? (i := 353) (by decide +kernel)⟩
theorem lw_p20 : lw_okq (⟨"SeenLand", "thriftyFloor", "(I)I"⟩, 9) := ⟨⟨by decide +kernel, by decide +kernel⟩, List.mem_of_getElem? (i := 15) (by decide +kernel), List.mem_of_getElem? (i := 361) (by decide +kernel), List.mem_of_getElem? (i := 362) (by decide +kernel)⟩
theorem lw_p21 : lw_okq (⟨"SeenLand$Land", "takeAll", "(LSeenLand$Land;)V"⟩, 13) := ⟨⟨by decide +kernel, by decide +kernel⟩, List.mem_of_getElem? (i := 23) (by decide +kernel), List.mem_of_getElem? (i := 365) (by decide +kernel), List.mem_of_getElem? (i := 366) (by decide +kernel)⟩
theorem lw_p22 : lw_okq (⟨"SeenLand", "isTooLate", "(I)Z"⟩, 9) := ⟨⟨by decide +kernel, by decide +kernel⟩, List.mem_of_getElem? (i := 15) (by decide +kernel), List.mem_of_getElem? (i := 403) (by decide +kernel), List.mem_of_getElem? (i := 404) (by decide +kernel)⟩
theorem lw_p23 : lw_okq (⟨"SeenLand", "tryThing", "(III)V"⟩, 9) := ⟨⟨by decide +kernel, by decide +kernel⟩, List.mem_of_getElem? (i := 15) (by decide +kernel), List.mem_of_getElem? (i := 407) (by decide +kernel), List.mem_of_getElem? (i := 408) (by decide +kernel)⟩
theorem lw_p24 : lw_okq (⟨"SeenLand$Land", "grow", "(I)V"⟩, 13) := ⟨⟨by decide +kernel, by decide +kernel⟩, List.mem_of_getElem? (i := 23) (by decide +kernel), List.mem_of_getElem? (i := 411) (by decide +kernel), List.mem_of_getElem? (i := 412) (by decide +kernel)⟩
theorem lw_p25 : lw_okq (⟨"SeenLand", "tryYears", "(I)V"⟩, 9) := ⟨⟨by decide +kernel, by decide +kernel⟩, List.mem_of_getElem? (i := 15) (by decide +kernel), List.mem_of_getElem? (i := 420) (by decide +kernel), List.mem_of_getElem? (i := 421) (by decide +kernel)⟩
theorem lw_p26 : lw_okq (⟨"SeenLand$Land", "takeCell", "(LSeenLand$Land;I)V"⟩, 13) := ⟨⟨by decide +kernel, by decide +kernel⟩, List.mem_of_getElem? (i := 23) (by decide +kernel), List.mem_of_getElem? (i := 432) (by decide +kernel), List.mem_of_getElem? (i := 433) (by decide +kernel)⟩
theorem lw_p27 : lw_okq (⟨"SeenLand", "sightsOf", "(I)I"⟩, 9) := ⟨⟨by decide +kernel, by decide +kernel⟩, List.mem_of_getElem? (i := 15) (by decide +kernel), List.mem_of_getElem? (i := 444) (by decide +kernel), List.mem_of_getElem? (i := 445) (by decide +kernel)⟩
theorem lw_p28 : lw_okq (⟨"SeenLand$Land", "allSight", "()I"⟩, 13) := ⟨⟨by decide +kernel, by decide +kernel⟩, List.mem_of_getElem? (i := 23) (by decide +kernel), List.mem_of_getElem? (i := 453) (by decide +kernel), List.mem_of_getElem? (i := 454) (by decide +kernel)⟩
theorem lw_p29 : lw_okq (⟨"SeenLand$Land", "draw", "()I"⟩, 13) := ⟨⟨by decide +kernel, by decide +kernel⟩, List.mem_of_getElem? (i := 23) (by decide +kernel), List.mem_of_getElem? (i := 489) (by decide +kernel), List.mem_of_getElem? (i := 490) (by decide +kernel)⟩
theorem lw_p30 : lw_okq (⟨"SeenLand$Tape", "hasRoomFor", "(I)Z"⟩, 6) := ⟨⟨by decide +kernel, by decide +kernel⟩, List.mem_of_getElem? (i := 85) (by decide +kernel), List.mem_of_getElem? (i := 502) (by decide +kernel), List.mem_of_getElem? (i := 503) (by decide +kernel)⟩
theorem lw_p31 : lw_okq (⟨"SeenLand$Tape", "append", "(I)V"⟩, 6) := ⟨⟨by decide +kernel, by decide +kernel⟩, List.mem_of_getElem? (i := 85) (by decide +kernel), List.mem_of_getElem? (i := 506) (by decide +kernel), List.mem_of_getElem? (i := 507) (by decide +kernel)⟩
def lw_privs_2 : List (MethodName × Nat) := [(⟨"SeenLand$Land", "hiderOf", "(II)I"⟩, 13), (⟨"SeenLand$Land", "taxOf", "(I)I"⟩, 13), (⟨"SeenLand$Land", "worthSeenBy", "(I)I"⟩, 13), (⟨"SeenLand$Land", "allTax", "()I"⟩, 13), (⟨"SeenLand", "thriftyFloor", "(I)I"⟩, 9), (⟨"SeenLand$Land", "takeAll", "(LSeenLand$Land;)V"⟩, 13), (⟨"SeenLand", "isTooLate", "(I)Z"⟩, 9), (⟨"SeenLand", "tryThing", "(III)V"⟩, 9), (⟨"SeenLand$Land", "grow", "(I)V"⟩, 13), (⟨"SeenLand", "tryYears", "(I)V"⟩, 9), (⟨"SeenLand$Land", "takeCell", "(LSeenLand$Land;I)V"⟩, 13), (⟨"SeenLand", "sightsOf", "(I)I"⟩, 9), (⟨"SeenLand$Land", "allSight", "()I"⟩, 13), (⟨"SeenLand$Land", "draw", "()I"⟩, 13), (⟨"SeenLand$Tape", "hasRoomFor", "(I)Z"⟩, 6), (⟨"SeenLand$Tape", "append", "(I)V"⟩, 6)]
theorem lw_r2 : ∀ q ∈ lw_privs_2, lw_okq q := List.forall_mem_cons.mpr ⟨lw_p16, List.forall_mem_cons.mpr ⟨lw_p17, List.forall_mem_cons.mpr ⟨lw_p18, List.forall_mem_cons.mpr ⟨lw_p19, List.forall_mem_cons.mpr ⟨lw_p20, List.forall_mem_cons.mpr ⟨lw_p21, List.forall_mem_cons.mpr ⟨lw_p22, List.forall_mem_cons.mpr ⟨lw_p23, List.forall_mem_cons.mpr ⟨lw_p24, List.forall_mem_cons.mpr ⟨lw_p25, List.forall_mem_cons.mpr ⟨lw_p26, List.forall_mem_cons.mpr ⟨lw_p27, List.forall_mem_cons.mpr ⟨lw_p28, List.forall_mem_cons.mpr ⟨lw_p29, List.forall_mem_cons.mpr ⟨lw_p30, List.forall_mem_cons.mpr ⟨lw_p31, fun _ h => absurd h List.not_mem_nil⟩⟩⟩⟩⟩⟩⟩⟩⟩⟩⟩⟩⟩⟩⟩⟩
theorem lw_p32 : lw_okq (⟨"SeenLand$TextReader", "readInto", "(LSeenLand$Land;)I"⟩, 1) := ⟨⟨by decide +kernel, by decide +kernel⟩, List.mem_of_getElem? (i := 114) (by decide +kernel), List.mem_of_getElem? (i := 518) (by decide +kernel), List.mem_of_getElem? (i := 519) (by decide +kernel)⟩
theorem lw_p33 : lw_okq (⟨"SeenLand$Tape", "rewind", "()V"⟩, 6) := ⟨⟨by decide +kernel, by decide +kernel⟩, List.mem_of_getElem? (i := 85) (by decide +kernel), List.mem_of_getElem? (i := 522) (by decide +kernel), List.mem_of_getElem? (i := 523) (by decide +kernel)⟩
theorem lw_p34 : lw_okq (⟨"SeenLand$Tape", "step", "()V"⟩, 6) := ⟨⟨by decide +kernel, by decide +kernel⟩, List.mem_of_getElem? (i := 85) (by decide +kernel), List.mem_of_getElem? (i := 526) (by decide +kernel), List.mem_of_getElem? (i := 527) (by decide +kernel)⟩
theorem lw_p35 : lw_okq (⟨"SeenLand$Tape", "sortAt", "(I)I"⟩, 6) := ⟨⟨by decide +kernel, by decide +kernel⟩, List.mem_of_getElem? (i := 85) (by decide +kernel), List.mem_of_getElem? (i := 530) (by decide +kernel), List.mem_of_getElem? (i := 531) (by decide +kernel)⟩
theorem lw_p36 : lw_okq (⟨"SeenLand$Tape", "takeDigit", "(I)V"⟩, 6) := ⟨⟨by decide +kernel, by decide +kernel⟩, List.mem_of_getElem? (i := 85) (by decide +kernel), List.mem_of_getElem? (i := 534) (by decide +kernel), List.mem_of_getElem? (i := 535) (by decide +kernel)⟩
theorem lw_p37 : lw_okq (⟨"SeenLand$TextReader", "readItem", "(LSeenLand$Land;)Z"⟩, 1) := ⟨⟨by decide +kernel, by decide +kernel⟩, List.mem_of_getElem? (i := 114) (by decide +kernel), List.mem_of_getElem? (i := 538) (by decide +kernel), List.mem_of_getElem? (i := 539) (by decide +kernel)⟩
theorem lw_p38 : lw_okq (⟨"SeenLand$Tape", "isWord", "(Ljava/lang/String;)Z"⟩, 6) := ⟨⟨by decide +kernel, by decide +kernel⟩, List.mem_of_getElem? (i := 85) (by decide +kernel), List.mem_of_getElem? (i := 543) (by decide +kernel), List.mem_of_getElem? (i := 544) (by decide +kernel)⟩
theorem lw_p39 : lw_okq (⟨"SeenLand$TextReader", "readHouse", "(LSeenLand$Land;)Z"⟩, 1) := ⟨⟨by decide +kernel, by decide +kernel⟩, List.mem_of_getElem? (i := 114) (by decide +kernel), List.mem_of_getElem? (i := 596) (by decide +kernel), List.mem_of_getElem? (i := 597) (by decide +kernel)⟩
theorem lw_p40 : lw_okq (⟨"SeenLand$TextReader", "readNumber", "(II)I"⟩, 1) := ⟨⟨by decide +kernel, by decide +kernel⟩, List.mem_of_getElem? (i := 114) (by decide +kernel), List.mem_of_getElem? (i := 601) (by decide +kernel), List.mem_of_getElem? (i := 602) (by decide +kernel)⟩
theorem lw_p41 : lw_okq (⟨"SeenLand$TextReader", "passes", "(Ljava/lang/String;)Z"⟩, 1) := ⟨⟨by decide +kernel, by decide +kernel⟩, List.mem_of_getElem? (i := 114) (by decide +kernel), List.mem_of_getElem? (i := 606) (by decide +kernel), List.mem_of_getElem? (i := 607) (by decide +kernel)⟩
theorem lw_p42 : lw_okq (⟨"SeenLand$TextReader", "readHaze", "(LSeenLand$Land;)Z"⟩, 1) := ⟨⟨by decide +kernel, by decide +kernel⟩, List.mem_of_getElem? (i := 114) (by decide +kernel), List.mem_of_getElem? (i := 615) (by decide +kernel), List.mem_of_getElem? (i := 616) (by decide +kernel)⟩
theorem lw_p43 : lw_okq (⟨"SeenLand$TextReader", "readRate", "(LSeenLand$Land;)Z"⟩, 1) := ⟨⟨by decide +kernel, by decide +kernel⟩, List.mem_of_getElem? (i := 114) (by decide +kernel), List.mem_of_getElem? (i := 620) (by decide +kernel), List.mem_of_getElem? (i := 621) (by decide +kernel)⟩
theorem lw_p44 : lw_okq (⟨"SeenLand$TextReader", "readKind", "()I"⟩, 1) := ⟨⟨by decide +kernel, by decide +kernel⟩, List.mem_of_getElem? (i := 114) (by decide +kernel), List.mem_of_getElem? (i := 624) (by decide +kernel), List.mem_of_getElem? (i := 625) (by decide +kernel)⟩
theorem lw_p45 : lw_okq (⟨"SeenLand$TextReader", "readThing", "(LSeenLand$Land;I)Z"⟩, 1) := ⟨⟨by decide +kernel, by decide +kernel⟩, List.mem_of_getElem? (i := 114) (by decide +kernel), List.mem_of_getElem? (i := 635) (by decide +kernel), List.mem_of_getElem? (i := 636) (by decide +kernel)⟩
theorem lw_p46 : lw_okq (⟨"SeenLand$TextReader", "faultHere", "()I"⟩, 1) := ⟨⟨by decide +kernel, by decide +kernel⟩, List.mem_of_getElem? (i := 114) (by decide +kernel), List.mem_of_getElem? (i := 645) (by decide +kernel), List.mem_of_getElem? (i := 646) (by decide +kernel)⟩
theorem lw_p47 : lw_okq (⟨"SeenLand$Sheets", "make", "(III)V"⟩, 3) := ⟨⟨by decide +kernel, by decide +kernel⟩, List.mem_of_getElem? (i := 124) (by decide +kernel), List.mem_of_getElem? (i := 673) (by decide +kernel), List.mem_of_getElem? (i := 674) (by decide +kernel)⟩
def lw_privs_3 : List (MethodName × Nat) := [(⟨"SeenLand$TextReader", "readInto", "(LSeenLand$Land;)I"⟩, 1), (⟨"SeenLand$Tape", "rewind", "()V"⟩, 6), (⟨"SeenLand$Tape", "step", "()V"⟩, 6), (⟨"SeenLand$Tape", "sortAt", "(I)I"⟩, 6), (⟨"SeenLand$Tape", "takeDigit", "(I)V"⟩, 6), (⟨"SeenLand$TextReader", "readItem", "(LSeenLand$Land;)Z"⟩, 1), (⟨"SeenLand$Tape", "isWord", "(Ljava/lang/String;)Z"⟩, 6), (⟨"SeenLand$TextReader", "readHouse", "(LSeenLand$Land;)Z"⟩, 1), (⟨"SeenLand$TextReader", "readNumber", "(II)I"⟩, 1), (⟨"SeenLand$TextReader", "passes", "(Ljava/lang/String;)Z"⟩, 1), (⟨"SeenLand$TextReader", "readHaze", "(LSeenLand$Land;)Z"⟩, 1), (⟨"SeenLand$TextReader", "readRate", "(LSeenLand$Land;)Z"⟩, 1), (⟨"SeenLand$TextReader", "readKind", "()I"⟩, 1), (⟨"SeenLand$TextReader", "readThing", "(LSeenLand$Land;I)Z"⟩, 1), (⟨"SeenLand$TextReader", "faultHere", "()I"⟩, 1), (⟨"SeenLand$Sheets", "make", "(III)V"⟩, 3)]
theorem lw_r3 : ∀ q ∈ lw_privs_3, lw_okq q := List.forall_mem_cons.mpr ⟨lw_p32, List.forall_mem_cons.mpr ⟨lw_p33, List.forall_mem_cons.mpr ⟨lw_p34, List.forall_mem_cons.mpr ⟨lw_p35, List.forall_mem_cons.mpr ⟨lw_p36, List.forall_mem_cons.mpr ⟨lw_p37, List.forall_mem_cons.mpr ⟨lw_p38, List.forall_mem_cons.mpr ⟨lw_p39, List.forall_mem_cons.mpr ⟨lw_p40, List.forall_mem_cons.mpr ⟨lw_p41, List.forall_mem_cons.mpr ⟨lw_p42, List.forall_mem_cons.mpr ⟨lw_p43, List.forall_mem_cons.mpr ⟨lw_p44, List.forall_mem_cons.mpr ⟨lw_p45, List.forall_mem_cons.mpr ⟨lw_p46, List.forall_mem_cons.mpr ⟨lw_p47, fun _ h => absurd h List.not_mem_nil⟩⟩⟩⟩⟩⟩⟩⟩⟩⟩⟩⟩⟩⟩⟩⟩
theorem lw_p48 : lw_okq (⟨"SeenLand$Sheets", "isMissing", "(I)Z"⟩, 3) := ⟨⟨by decide +kernel, by decide +kernel⟩, List.mem_of_getElem? (i := 124) (by decide +kernel), List.mem_of_getElem? (i := 681) (by decide +kernel), List.mem_of_getElem? (i := 682) (by decide +kernel)⟩
theorem lw_p49 : lw_okq (⟨"SeenLand$Sheets", "hasRun", "(III)Z"⟩, 3) := ⟨⟨by decide +kernel, by decide +kernel⟩, List.mem_of_getElem? (i := 124) (by decide +kernel), List.mem_of_getElem? (i := 685) (by decide +kernel), List.mem_of_getElem? (i := 686) (by decide +kernel)⟩
theorem lw_p50 : lw_okq (⟨"SeenLand$Sheets", "put", "(III)V"⟩, 3) := ⟨⟨by decide +kernel, by decide +kernel⟩, List.mem_of_getElem? (i := 124) (by decide +kernel), List.mem_of_getElem? (i := 689) (by decide +kernel), List.mem_of_getElem? (i := 690) (by decide +kernel)⟩
theorem lw_p51 : lw_okq (⟨"SeenLand$Sheets", "move", "(IIIII)V"⟩, 3) := ⟨⟨by decide +kernel, by decide +kernel⟩, List.mem_of_getElem? (i := 124) (by decide +kernel), List.mem_of_getElem? (i := 700) (by decide +kernel), List.mem_of_getElem? (i := 701) (by decide +kernel)⟩
theorem lw_p52 : lw_okq (⟨"SeenLand$Sheets", "numberAt", "(II)I"⟩, 3) := ⟨⟨by decide +kernel, by decide +kernel⟩, List.mem_of_getElem? (i := 124) (by decide +kernel), List.mem_of_getElem? (i := 709) (by decide +kernel), List.mem_of_getElem? (i := 710) (by decide +kernel)⟩
theorem lw_p53 : lw_okq (⟨"SeenLand$Land", "spotsInUse", "()I"⟩, 13) := ⟨⟨by decide +kernel, by decide +kernel⟩, List.mem_of_getElem? (i := 23) (by decide +kernel), List.mem_of_getElem? (i := 733) (by decide +kernel), List.mem_of_getElem? (i := 734) (by decide +kernel)⟩
theorem lw_p54 : lw_okq (⟨"SeenLandModel", "finds", "(I)I"⟩, 20) := ⟨⟨by decide +kernel, by decide +kernel⟩, List.mem_of_getElem? (i := 741) (by decide +kernel), List.mem_of_getElem? (i := 821) (by decide +kernel), List.mem_of_getElem? (i := 822) (by decide +kernel)⟩
theorem lw_p55 : lw_okq (⟨"SeenLandModel", "kindOf", "(I)I"⟩, 20) := ⟨⟨by decide +kernel, by decide +kernel⟩, List.mem_of_getElem? (i := 741) (by decide +kernel), List.mem_of_getElem? (i := 833) (by decide +kernel), List.mem_of_getElem? (i := 834) (by decide +kernel)⟩
theorem lw_p56 : lw_okq (⟨"SeenLandModel", "sets", "(II)V"⟩, 20) := ⟨⟨by decide +kernel, by decide +kernel⟩, List.mem_of_getElem? (i := 741) (by decide +kernel), List.mem_of_getElem? (i := 837) (by decide +kernel), List.mem_of_getElem? (i := 838) (by decide +kernel)⟩
theorem lw_p57 : lw_okq (⟨"SeenLandModel", "top", "(I)I"⟩, 20) := ⟨⟨by decide +kernel, by decide +kernel⟩, List.mem_of_getElem? (i := 741) (by decide +kernel), List.mem_of_getElem? (i := 846) (by decide +kernel), List.mem_of_getElem? (i := 847) (by decide +kernel)⟩
theorem lw_p58 : lw_okq (⟨"SeenLandModel", "ageOf", "(I)I"⟩, 20) := ⟨⟨by decide +kernel, by decide +kernel⟩, List.mem_of_getElem? (i := 741) (by decide +kernel), List.mem_of_getElem? (i := 850) (by decide +kernel), List.mem_of_getElem? (i := 851) (by decide +kernel)⟩
theorem lw_p59 : lw_okq (⟨"SeenLandModel", "heightOf", "(I)I"⟩, 20) := ⟨⟨by decide +kernel, by decide +kernel⟩, List.mem_of_getElem? (i := 741) (by decide +kernel), List.mem_of_getElem? (i := 854) (by decide +kernel), List.mem_of_getElem? (i := 855) (by decide +kernel)⟩
theorem lw_p60 : lw_okq (⟨"SeenLandModel", "worth", "(I)I"⟩, 20) := ⟨⟨by decide +kernel, by decide +kernel⟩, List.mem_of_getElem? (i := 741) (by decide +kernel), List.mem_of_getElem? (i := 858) (by decide +kernel), List.mem_of_getElem? (i := 859) (by decide +kernel)⟩
theorem lw_p61 : lw_okq (⟨"SeenLandModel", "newHouse", "(III)I"⟩, 20) := ⟨⟨by decide +kernel, by decide +kernel⟩, List.mem_of_getElem? (i := 741) (by decide +kernel), List.mem_of_getElem? (i := 871) (by decide +kernel), List.mem_of_getElem? (i := 872) (by decide +kernel)⟩
theorem lw_p62 : lw_okq (⟨"SeenLandModel", "isHouse", "(I)Z"⟩, 20) := ⟨⟨by decide +kernel, by decide +kernel⟩, List.mem_of_getElem? (i := 741) (by decide +kernel), List.mem_of_getElem? (i := 879) (by decide +kernel), List.mem_of_getElem? (i := 880) (by decide +kernel)⟩
theorem lw_p63 : lw_okq (⟨"SeenLandModel", "eye", "(I)I"⟩, 20) := ⟨⟨by decide +kernel, by decide +kernel⟩, List.mem_of_getElem? (i := 741) (by decide +kernel), List.mem_of_getElem? (i := 884) (by decide +kernel), List.mem_of_getElem? (i := 885) (by decide +kernel)⟩
def lw_privs_4 : List (MethodName × Nat) := [(⟨"SeenLand$Sheets", "isMissing", "(I)Z"⟩, 3), (⟨"SeenLand$Sheets", "hasRun", "(III)Z"⟩, 3), (⟨"SeenLand$Sheets", "put", "(III)V"⟩, 3), (⟨"SeenLand$Sheets", "move", "(IIIII)V"⟩, 3), (⟨"SeenLand$Sheets", "numberAt", "(II)I"⟩, 3), (⟨"SeenLand$Land", "spotsInUse", "()I"⟩, 13), (⟨"SeenLandModel", "finds", "(I)I"⟩, 20), (⟨"SeenLandModel", "kindOf", "(I)I"⟩, 20), (⟨"SeenLandModel", "sets", "(II)V"⟩, 20), (⟨"SeenLandModel", "top", "(I)I"⟩, 20), (⟨"SeenLandModel", "ageOf", "(I)I"⟩, 20), (⟨"SeenLandModel", "heightOf", "(I)I"⟩, 20), (⟨"SeenLandModel", "worth", "(I)I"⟩, 20), (⟨"SeenLandModel", "newHouse", "(III)I"⟩, 20), (⟨"SeenLandModel", "isHouse", "(I)Z"⟩, 20), (⟨"SeenLandModel", "eye", "(I)I"⟩, 20)]
theorem lw_r4 : ∀ q ∈ lw_privs_4, lw_okq q := List.forall_mem_cons.mpr ⟨lw_p48, List.forall_mem_cons.mpr ⟨lw_p49, List.forall_mem_cons.mpr ⟨lw_p50, List.forall_mem_cons.mpr ⟨lw_p51, List.forall_mem_cons.mpr ⟨lw_p52, List.forall_mem_cons.mpr ⟨lw_p53, List.forall_mem_cons.mpr ⟨lw_p54, List.forall_mem_cons.mpr ⟨lw_p55, List.forall_mem_cons.mpr ⟨lw_p56, List.forall_mem_cons.mpr ⟨lw_p57, List.forall_mem_cons.mpr ⟨lw_p58, List.forall_mem_cons.mpr ⟨lw_p59, List.forall_mem_cons.mpr ⟨lw_p60, List.forall_mem_cons.mpr ⟨lw_p61, List.forall_mem_cons.mpr ⟨lw_p62, List.forall_mem_cons.mpr ⟨lw_p63, fun _ h => absurd h List.not_mem_nil⟩⟩⟩⟩⟩⟩⟩⟩⟩⟩⟩⟩⟩⟩⟩⟩
theorem lw_p64 : lw_okq (⟨"SeenLandModel", "cellAt", "(I)I"⟩, 20) := ⟨⟨by decide +kernel, by decide +kernel⟩, List.mem_of_getElem? (i := 741) (by decide +kernel), List.mem_of_getElem? (i := 888) (by decide +kernel), List.mem_of_getElem? (i := 889) (by decide +kernel)⟩
theorem lw_p65 : lw_okq (⟨"SeenLandModel", "openOf", "(I)I"⟩, 20) := ⟨⟨by decide +kernel, by decide +kernel⟩, List.mem_of_getElem? (i := 741) (by decide +kernel), List.mem_of_getElem? (i := 892) (by decide +kernel), List.mem_of_getElem? (i := 893) (by decide +kernel)⟩
theorem lw_p66 : lw_okq (⟨"SeenLandModel", "lowers", "(II)V"⟩, 20) := ⟨⟨by decide +kernel, by decide +kernel⟩, List.mem_of_getElem? (i := 741) (by decide +kernel), List.mem_of_getElem? (i := 915) (by decide +kernel), List.mem_of_getElem? (i := 916) (by decide +kernel)⟩
theorem lw_p67 : lw_okq (⟨"SeenLandModel", "sightOf", "(I)I"⟩, 20) := ⟨⟨by decide +kernel, by decide +kernel⟩, List.mem_of_getElem? (i := 741) (by decide +kernel), List.mem_of_getElem? (i := 928) (by decide +kernel), List.mem_of_getElem? (i := 929) (by decide +kernel)⟩
theorem lw_p68 : lw_okq (⟨"SeenLandModel", "isTowards", "(II)Z"⟩, 20) := ⟨⟨by decide +kernel, by decide +kernel⟩, List.mem_of_getElem? (i := 741) (by decide +kernel), List.mem_of_getElem? (i := 932) (by decide +kernel), List.mem_of_getElem? (i := 933) (by decide +kernel)⟩
theorem lw_p69 : lw_okq (⟨"SeenLandModel", "hider", "(II)I"⟩, 20) := ⟨⟨by decide +kernel, by decide +kernel⟩, List.mem_of_getElem? (i := 741) (by decide +kernel), List.mem_of_getElem? (i := 942) (by decide +kernel), List.mem_of_getElem? (i := 943) (by decide +kernel)⟩
theorem lw_p70 : lw_okq (⟨"SeenLandModel", "isHiding", "(III)Z"⟩, 20) := ⟨⟨by decide +kernel, by decide +kernel⟩, List.mem_of_getElem? (i := 741) (by decide +kernel), List.mem_of_getElem? (i := 946) (by decide +kernel), List.mem_of_getElem? (i := 947) (by decide +kernel)⟩
theorem lw_p71 : lw_okq (⟨"SeenLandModel", "taxOf", "(I)I"⟩, 20) := ⟨⟨by decide +kernel, by decide +kernel⟩, List.mem_of_getElem? (i := 741) (by decide +kernel), List.mem_of_getElem? (i := 972) (by decide +kernel), List.mem_of_getElem? (i := 973) (by decide +kernel)⟩
theorem lw_p72 : lw_okq (⟨"SeenLandModel", "allTax", "()I"⟩, 20) := ⟨⟨by decide +kernel, by decide +kernel⟩, List.mem_of_getElem? (i := 741) (by decide +kernel), List.mem_of_getElem? (i := 980) (by decide +kernel), List.mem_of_getElem? (i := 981) (by decide +kernel)⟩
theorem lw_p73 : lw_okq (⟨"SeenLandModel", "leastFloor", "(I)I"⟩, 20) := ⟨⟨by decide +kernel, by decide +kernel⟩, List.mem_of_getElem? (i := 741) (by decide +kernel), List.mem_of_getElem? (i := 988) (by decide +kernel), List.mem_of_getElem? (i := 989) (by decide +kernel)⟩
theorem lw_p74 : lw_okq (⟨"SeenLandModel", "isTooFar", "(I)Z"⟩, 20) := ⟨⟨by decide +kernel, by decide +kernel⟩, List.mem_of_getElem? (i := 741) (by decide +kernel), List.mem_of_getElem? (i := 1019) (by decide +kernel), List.mem_of_getElem? (i := 1020) (by decide +kernel)⟩
theorem lw_p75 : lw_okq (⟨"SeenLandModel", "puts", "()V"⟩, 20) := ⟨⟨by decide +kernel, by decide +kernel⟩, List.mem_of_getElem? (i := 741) (by decide +kernel), List.mem_of_getElem? (i := 1023) (by decide +kernel), List.mem_of_getElem? (i := 1024) (by decide +kernel)⟩
theorem lw_p76 : lw_okq (⟨"SeenLandModel", "yearsGo", "(I)V"⟩, 20) := ⟨⟨by decide +kernel, by decide +kernel⟩, List.mem_of_getElem? (i := 741) (by decide +kernel), List.mem_of_getElem? (i := 1027) (by decide +kernel), List.mem_of_getElem? (i := 1028) (by decide +kernel)⟩
theorem lw_p77 : lw_okq (⟨"SeenLandModel", "year", "()V"⟩, 20) := ⟨⟨by decide +kernel, by decide +kernel⟩, List.mem_of_getElem? (i := 741) (by decide +kernel), List.mem_of_getElem? (i := 1031) (by decide +kernel), List.mem_of_getElem? (i := 1032) (by decide +kernel)⟩
theorem lw_p78 : lw_okq (⟨"SeenLandModel", "putsBack", "()V"⟩, 20) := ⟨⟨by decide +kernel, by decide +kernel⟩, List.mem_of_getElem? (i := 741) (by decide +kernel), List.mem_of_getElem? (i := 1035) (by decide +kernel), List.mem_of_getElem? (i := 1036) (by decide +kernel)⟩
theorem lw_p79 : lw_okq (⟨"SeenLandModel", "findSights", "()I"⟩, 20) := ⟨⟨by decide +kernel, by decide +kernel⟩, List.mem_of_getElem? (i := 741) (by decide +kernel), List.mem_of_getElem? (i := 1059) (by decide +kernel), List.mem_of_getElem? (i := 1060) (by decide +kernel)⟩
def lw_privs_5 : List (MethodName × Nat) := [(⟨"SeenLandModel", "cellAt", "(I)I"⟩, 20), (⟨"SeenLandModel", "openOf", "(I)I"⟩, 20), (⟨"SeenLandModel", "lowers", "(II)V"⟩, 20), (⟨"SeenLandModel", "sightOf", "(I)I"⟩, 20), (⟨"SeenLandModel", "isTowards", "(II)Z"⟩, 20), (⟨"SeenLandModel", "hider", "(II)I"⟩, 20), (⟨"SeenLandModel", "isHiding", "(III)Z"⟩, 20), (⟨"SeenLandModel", "taxOf", "(I)I"⟩, 20), (⟨"SeenLandModel", "allTax", "()I"⟩, 20), (⟨"SeenLandModel", "leastFloor", "(I)I"⟩, 20), (⟨"SeenLandModel", "isTooFar", "(I)Z"⟩, 20), (⟨"SeenLandModel", "puts", "()V"⟩, 20), (⟨"SeenLandModel", "yearsGo", "(I)V"⟩, 20), (⟨"SeenLandModel", "year", "()V"⟩, 20), (⟨"SeenLandModel", "putsBack", "()V"⟩, 20), (⟨"SeenLandModel", "findSights", "()I"⟩, 20)]
theorem lw_r5 : ∀ q ∈ lw_privs_5, lw_okq q := List.forall_mem_cons.mpr ⟨lw_p64, List.forall_mem_cons.mpr ⟨lw_p65, List.forall_mem_cons.mpr ⟨lw_p66, List.forall_mem_cons.mpr ⟨lw_p67, List.forall_mem_cons.mpr ⟨lw_p68, List.forall_mem_cons.mpr ⟨lw_p69, List.forall_mem_cons.mpr ⟨lw_p70, List.forall_mem_cons.mpr ⟨lw_p71, List.forall_mem_cons.mpr ⟨lw_p72, List.forall_mem_cons.mpr ⟨lw_p73, List.forall_mem_cons.mpr ⟨lw_p74, List.forall_mem_cons.mpr ⟨lw_p75, List.forall_mem_cons.mpr ⟨lw_p76, List.forall_mem_cons.mpr ⟨lw_p77, List.forall_mem_cons.mpr ⟨lw_p78, List.forall_mem_cons.mpr ⟨lw_p79, fun _ h => absurd h List.not_mem_nil⟩⟩⟩⟩⟩⟩⟩⟩⟩⟩⟩⟩⟩⟩⟩⟩
theorem lw_p80 : lw_okq (⟨"SeenLandModel", "findHeights", "(III)V"⟩, 20) := ⟨⟨by decide +kernel, by decide +kernel⟩, List.mem_of_getElem? (i := 741) (by decide +kernel), List.mem_of_getElem? (i := 1072) (by decide +kernel), List.mem_of_getElem? (i := 1073) (by decide +kernel)⟩
theorem lw_p81 : lw_okq (⟨"SeenLandModel", "next", "()I"⟩, 20) := ⟨⟨by decide +kernel, by decide +kernel⟩, List.mem_of_getElem? (i := 741) (by decide +kernel), List.mem_of_getElem? (i := 1105) (by decide +kernel), List.mem_of_getElem? (i := 1106) (by decide +kernel)⟩
theorem lw_p82 : lw_okq (⟨"SeenLandModel", "token", "()V"⟩, 20) := ⟨⟨by decide +kernel, by decide +kernel⟩, List.mem_of_getElem? (i := 741) (by decide +kernel), List.mem_of_getElem? (i := 1126) (by decide +kernel), List.mem_of_getElem? (i := 1127) (by decide +kernel)⟩
theorem lw_p83 : lw_okq (⟨"SeenLandModel", "byteAt", "(I)I"⟩, 20) := ⟨⟨by decide +kernel, by decide +kernel⟩, List.mem_of_getElem? (i := 741) (by decide +kernel), List.mem_of_getElem? (i := 1130) (by decide +kernel), List.mem_of_getElem? (i := 1131) (by decide +kernel)⟩
theorem lw_p84 : lw_okq (⟨"SeenLandModel", "item", "()V"⟩, 20) := ⟨⟨by decide +kernel, by decide +kernel⟩, List.mem_of_getElem? (i := 741) (by decide +kernel), List.mem_of_getElem? (i := 1144) (by decide +kernel), List.mem_of_getElem? (i := 1145) (by decide +kernel)⟩
theorem lw_p85 : lw_okq (⟨"SeenLandModel", "kindHere", "()I"⟩, 20) := ⟨⟨by decide +kernel, by decide +kernel⟩, List.mem_of_getElem? (i := 741) (by decide +kernel), List.mem_of_getElem? (i := 1148) (by decide +kernel), List.mem_of_getElem? (i := 1149) (by decide +kernel)⟩
theorem lw_p86 : lw_okq (⟨"SeenLandModel", "word", "()J"⟩, 20) := ⟨⟨by decide +kernel, by decide +kernel⟩, List.mem_of_getElem? (i := 741) (by decide +kernel), List.mem_of_getElem? (i := 1152) (by decide +kernel), List.mem_of_getElem? (i := 1153) (by decide +kernel)⟩
theorem lw_p87 : lw_okq (⟨"SeenLandModel", "cellItem", "(I)V"⟩, 20) := ⟨⟨by decide +kernel, by decide +kernel⟩, List.mem_of_getElem? (i := 741) (by decide +kernel), List.mem_of_getElem? (i := 1165) (by decide +kernel), List.mem_of_getElem? (i := 1166) (by decide +kernel)⟩
theorem lw_p88 : lw_okq (⟨"SeenLandModel", "needs", "(Z)V"⟩, 20) := ⟨⟨by decide +kernel, by decide +kernel⟩, List.mem_of_getElem? (i := 741) (by decide +kernel), List.mem_of_getElem? (i := 1169) (by decide +kernel), List.mem_of_getElem? (i := 1170) (by decide +kernel)⟩
theorem lw_p89 : lw_okq (⟨"SeenLandModel", "number", "(II)V"⟩, 20) := ⟨⟨by decide +kernel, by decide +kernel⟩, List.mem_of_getElem? (i := 741) (by decide +kernel), List.mem_of_getElem? (i := 1173) (by decide +kernel), List.mem_of_getElem? (i := 1174) (by decide +kernel)⟩
theorem lw_p90 : lw_okq (⟨"SeenLandModel", "perhaps", "(ZIII)I"⟩, 20) := ⟨⟨by decide +kernel, by decide +kernel⟩, List.mem_of_getElem? (i := 741) (by decide +kernel), List.mem_of_getElem? (i := 1178) (by decide +kernel), List.mem_of_getElem? (i := 1179) (by decide +kernel)⟩
theorem lw_p91 : lw_okq (⟨"SeenLandModel", "houseItem", "()V"⟩, 20) := ⟨⟨by decide +kernel, by decide +kernel⟩, List.mem_of_getElem? (i := 741) (by decide +kernel), List.mem_of_getElem? (i := 1185) (by decide +kernel), List.mem_of_getElem? (i := 1186) (by decide +kernel)⟩
theorem lw_p92 : lw_okq (⟨"SeenLandModel", "wrong", "(I)I"⟩, 20) := ⟨⟨by decide +kernel, by decide +kernel⟩, List.mem_of_getElem? (i := 741) (by decide +kernel), List.mem_of_getElem? (i := 1219) (by decide +kernel), List.mem_of_getElem? (i := 1220) (by decide +kernel)⟩
def lw_privs_6 : List (MethodName × Nat) := [(⟨"SeenLandModel", "findHeights", "(III)V"⟩, 20), (⟨"SeenLandModel", "next", "()I"⟩, 20), (⟨"SeenLandModel", "token", "()V"⟩, 20), (⟨"SeenLandModel", "byteAt", "(I)I"⟩, 20), (⟨"SeenLandModel", "item", "()V"⟩, 20), (⟨"SeenLandModel", "kindHere", "()I"⟩, 20), (⟨"SeenLandModel", "word", "()J"⟩, 20), (⟨"SeenLandModel", "cellItem", "(I)V"⟩, 20), (⟨"SeenLandModel", "needs", "(Z)V"⟩, 20), (⟨"SeenLandModel", "number", "(II)V"⟩, 20), (⟨"SeenLandModel", "perhaps", "(ZIII)I"⟩, 20), (⟨"SeenLandModel", "houseItem", "()V"⟩, 20), (⟨"SeenLandModel", "wrong", "(I)I"⟩, 20)]
theorem lw_r6 : ∀ q ∈ lw_privs_6, lw_okq q := List.forall_mem_cons.mpr ⟨lw_p80, List.forall_mem_cons.mpr ⟨lw_p81, List.forall_mem_cons.mpr ⟨lw_p82, List.forall_mem_cons.mpr ⟨lw_p83, List.forall_mem_cons.mpr ⟨lw_p84, List.forall_mem_cons.mpr ⟨lw_p85, List.forall_mem_cons.mpr ⟨lw_p86, List.forall_mem_cons.mpr ⟨lw_p87, List.forall_mem_cons.mpr ⟨lw_p88, List.forall_mem_cons.mpr ⟨lw_p89, List.forall_mem_cons.mpr ⟨lw_p90, List.forall_mem_cons.mpr ⟨lw_p91, List.forall_mem_cons.mpr ⟨lw_p92, fun _ h => absurd h List.not_mem_nil⟩⟩⟩⟩⟩⟩⟩⟩⟩⟩⟩⟩⟩
def lw_privs : List (MethodName × Nat) := lw_privs_1 ++ (lw_privs_2 ++ (lw_privs_3 ++ (lw_privs_4 ++ (lw_privs_5 ++ (lw_privs_6)))))
def lw_tbl : List Cond := k2_sels lw_privs ++ tables_1
theorem lw_privs_ok : ∀ q ∈ lw_privs, lw_okq q := by
  show ∀ q ∈ lw_privs_1 ++ (lw_privs_2 ++ (lw_privs_3 ++ (lw_privs_4 ++ (lw_privs_5 ++ (lw_privs_6))))), lw_okq q
  exact List.forall_mem_append.mpr ⟨lw_r1, List.forall_mem_append.mpr ⟨lw_r2, List.forall_mem_append.mpr ⟨lw_r3, List.forall_mem_append.mpr ⟨lw_r4, List.forall_mem_append.mpr ⟨lw_r5, lw_r6⟩⟩⟩⟩⟩
end
section
/-! The picture: a fixed graph of cells, all that changes are ints. A cell is an int array (its length), or an object (its class's place, its fields: none an int, some r the cell r) -/
abbrev sl_M : Type := Nat → Nat → Int32
abbrev sl_E : Type := Nat ⊕ (Nat × List (Option Nat))
def sl_up (M : sl_M) (r i : Nat) (v : Int32) : sl_M := fun r' => if r' = r then upd (M r) i v else M r'
def sl_v (g : Nat → Nat) (f : Nat → Int32) (k : Nat) : Option Nat → Value
  | none => .int (f k)
  | some r => .ref (g r)
def sl_f (g : Nat → Nat) (f : Nat → Int32) : Nat → List (Option Nat) → List Value
  | _, [] => []
  | k, o :: t => sl_v g f k o :: sl_f g f (k + 1) t
theorem sl_f_get {g : Nat → Nat} {f : Nat → Int32} : ∀ (fs : List (Option Nat)) (k0 k : Nat), (sl_f g f k0 fs)[k]? = (fs[k]?).map (sl_v g f (k0 + k))
  | [], k0, k => by simp [sl_f]
  | o :: t, k0, 0 => by simp [sl_f]
  | o :: t, k0, k + 1 => by
    rw [sl_f, List.getElem?_cons_succ, List.getElem?_cons_succ, sl_f_get t (k0 + 1) k, show k0 + 1 + k = k0 + (k + 1) by omega]
theorem sl_f_len {g : Nat → Nat} {f : Nat → Int32} : ∀ (fs : List (Option Nat)) (k0 : Nat), (sl_f g f k0 fs).length = fs.length
  | [], k0 => rfl
  | o :: t, k0 => by rw [sl_f, List.length_cons, List.length_cons, sl_f_len t]
theorem sl_f_set {g : Nat → Nat} {f : Nat → Int32} {v : Int32} {k : Nat} {fs : List (Option Nat)} (h : fs[k]? = some none) : (sl_f g f 0 fs).set k (.int v) = sl_f g (upd f k v) 0 fs := by
  apply List.ext_getElem?
  intro j
  rw [sl_f_get, Nat.zero_add]
  by_cases hj : j = k
  · subst hj
    have hl : j < (sl_f g f 0 fs).length := by rw [sl_f_len]; exact (List.getElem?_eq_some_iff.mp h).1
    rw [List.getElem?_set_self hl, h]
    simp [sl_v, upd]
  · rw [List.getElem?_set_ne (Ne.symm hj), sl_f_get, Nat.zero_add]
    cases fs[j]? with
    | none => rfl
    | some o => cases o <;> simp [sl_v, upd, hj]
def sl_e (cA : ClassId) (g : Nat → Nat) (f : Nat → Int32) : sl_E → va_E
  | .inl n => .inl (cA, n, .inl f)
  | .inr o => .inr (o.1, sl_f g f 0 o.2)
def sl_w (L : List sl_E) (cA : ClassId) (g : Nat → Nat) (M : sl_M) : va_W := (List.range L.length).map (fun r => (g r, sl_e cA g (M r) (L.getD r (.inl 0))))
theorem sl_w_get {L : List sl_E} {cA : ClassId} {g : Nat → Nat} {M : sl_M} {r : Nat} {e : sl_E} (h : L[r]? = some e) : (sl_w L cA g M)[r]? = some (g r, sl_e cA g (M r) e) := by
  have hl := (List.getElem?_eq_some_iff.mp h).1
  rw [sl_w, List.getElem?_map, List.getElem?_range hl]
  show some (g r, sl_e cA g (M r) (L.getD r (.inl 0))) = _
  rw [List.getD_eq_getElem?_getD, h]
  rfl
theorem sl_w_of {L : List sl_E} {cA : ClassId} {g : Nat → Nat} {M : sl_M} {k : Nat} {q : Nat × va_E} (h : (sl_w L cA g M)[k]? = some q) : ∃ e, L[k]? = some e ∧ q = (g k, sl_e cA g (M k) e) := by
  have hl : k < L.length := by
    have := (List.getElem?_eq_some_iff.mp h).1
    simpa [sl_w] using this
  refine ⟨L[k], List.getElem?_eq_getElem hl, ?_⟩
  rw [sl_w_get (List.getElem?_eq_getElem hl)] at h
  exact (Option.some.inj h).symm
theorem sl_w_set {L : List sl_E} {cA : ClassId} {g : Nat → Nat} {M M' : sl_M} {r : Nat} {e : sl_E} (h : L[r]? = some e) (hM : ∀ r', r' ≠ r → M' r' = M r') : (sl_w L cA g M).set r (g r, sl_e cA g (M' r) e) = sl_w L cA g M' := by
  have hl := (List.getElem?_eq_some_iff.mp h).1
  apply List.ext_getElem?
  intro j
  by_cases hj : j = r
  · subst hj
    rw [List.getElem?_set_self (by simpa [sl_w] using hl), sl_w_get h]
  · rw [List.getElem?_set_ne (Ne.symm hj), sl_w, sl_w, List.getElem?_map, List.getElem?_map]
    by_cases hk : j < L.length
    · rw [List.getElem?_range hk]
      simp [hM j hj]
    · rw [List.getElem?_eq_none (by simpa using hk)]
      rfl
def sl_D (L : List sl_E) (g : Nat → Nat) (A : Nat → Prop) : Prop := (∀ i j, i < L.length → j < L.length → g i = g j → i = j) ∧ ∀ r, r < L.length → A (g r)
theorem sl_D.d {L : List sl_E} {g : Nat → Nat} {A : Nat → Prop} {cA : ClassId} {M : sl_M} (h : sl_D L g A) : va_D A (sl_w L cA g M) := by
  refine ⟨fun i j p q hi hj e => ?_, fun k q hk => ?_⟩
  · obtain ⟨a, ha, rfl⟩ := sl_w_of hi
    obtain ⟨b, hb, rfl⟩ := sl_w_of hj
    exact h.1 i j (List.getElem?_eq_some_iff.mp ha).1 (List.getElem?_eq_some_iff.mp hb).1 e
  · obtain ⟨a, ha, rfl⟩ := sl_w_of hk
    exact h.2 k (List.getElem?_eq_some_iff.mp ha).1
/-- the words of the tables at a state -/
def sl_T (U : State) : Prop := (∀ w ∈ lw_tbl, goodWord w = true → ∀ a : Array Value, w.before a U = true) ∧ (∀ (o : String) (i : Nat) (b n d h : String), Cond.fieldLinkNest o i b n d h ∈ lw_tbl → va_Nw (.fieldLinkNest o i b n d h) U) ∧ (∀ (o : String) (i : Nat) (y : MethodName) (h : String), Cond.methodLinkNest o i y h ∈ lw_tbl → va_Nw (.methodLinkNest o i y h) U)
theorem sl_T.warm {s U : State} (h : sl_T s) (hW : s.WarmedH U.vm) : sl_T U :=
  ⟨fun w hw hg a => word_at hW (good_of_word hg) (h.1 w hw hg #[]), fun o i b n d k hw => va_Nw.warmF hW (h.2.1 o i b n d k hw), fun o i y k hw => va_Nw.warmM hW (h.2.2 o i y k hw)⟩
theorem sl_T.same {s U : State} (h : sl_T s) (hv : s.vm = U.vm) : sl_T U := by
  have hW : s.WarmedH U.vm := by rw [← hv]; exact State.WarmedH.refl s
  exact h.warm hW
/-- what is old and stays: two static rows of ints, the texts -/
abbrev sl_K : Type := (Nat × Nat) × (Nat → Nat) × (Nat → Nat)
def sl_wo : List Int32 := [1, 5, 3, 20, 0, 1, 3]
def sl_ka : List Int32 := [-1, 0, 0, 1, 0, 0, 5]
def sl_tx : List (Nat × String) := [(36, "house"), (105, "floor"), (107, "blind"), (109, "west"), (111, "east"), (51, "haze"), (59, "rate"), (71, "land"), (73, "water"), (75, "field"), (77, "sea"), (79, "roof"), (81, "wood"), (83, "elm"), (89, "to"), (91, "high"), (93, "age")]
def sl_ln : List Nat := [5, 5, 5, 4, 4, 4, 4, 4, 5, 5, 3, 4, 4, 3, 2, 4, 3]
def sl_by : List (List Int32) := [[104, 111, 117, 115, 101], [102, 108, 111, 111, 114], [98, 108, 105, 110, 100], [119, 101, 115, 116], [101, 97, 115, 116], [104, 97, 122, 101], [114, 97, 116, 101], [108, 97, 110, 100], [119, 97, 116, 101, 114], [102, 105, 101, 108, 100], [115, 101, 97], [114, 111, 111, 102], [119, 111, 111, 100], [101, 108, 109], [116, 111], [104, 105, 103, 104], [97, 103, 101]]
def sl_Z (A : Nat → Prop) (z : sl_K) (U : State) : Prop :=
  va_Z "SeenLand$Land" "WORTHS" "[I" (.ref z.1.1) A U U.heap ∧ va_T .int z.1.1 7 (fun j => .int (sl_wo.getD j 0)) A U U.heap ∧
  va_Z "SeenLand$Land" "KIND_ABOVE" "[I" (.ref z.1.2) A U U.heap ∧ va_T .int z.1.2 7 (fun j => .int (sl_ka.getD j 0)) A U U.heap ∧
  va_Z "java/lang/String" "COMPACT_STRINGS" "Z" (.int 1) A U U.heap ∧ vk_S 17 sl_ln sl_by z.2.1 z.2.2 A U U.heap ∧ ∀ i q, sl_tx[i]? = some q → vk_R "SeenLand$TextReader" q.1 q.2 (z.2.1 i) U
theorem sl_Z.go {A : Nat → Prop} {z : sl_K} {s U : State} (h : sl_Z A z s) (hW : s.WarmedH U.vm) (hq : ∀ a : Nat, a < s.heap.size → ¬ A a → U.heap[a]? = s.heap[a]?) : sl_Z A z U :=
  ⟨(h.1.kept hq).moved hW.alike, (h.2.1.kept hq).moved hW.alike, (h.2.2.1.kept hq).moved hW.alike, (h.2.2.2.1.kept hq).moved hW.alike, (h.2.2.2.2.1.kept hq).moved hW.alike, (h.2.2.2.2.2.1.kept hq).moved hW.alike, fun i q hi => (h.2.2.2.2.2.2 i q hi).warm hW⟩
/-- a method's context -/
def sl_C (own : String) (cc : ByteArray) (nL : Nat) (ret : Option FieldType) (cl : List vw_C) (L : List sl_E) (D : va_G) (cA : ClassId) (g : Nat → Nat) (A : Nat → Prop) (z : sl_K) (p : Program) (s : State) (m : MethodId) (meth : Method) (c : Code) : Prop :=
  p.tables.exec = Jvm.exec ∧ c.code = cc ∧ c.maxLocals = nL ∧ s.vm.findClass own = some m.cls ∧ meth.sig.returnType = ret ∧ meth.locks = false ∧ va_K D cl [(cA, .int)] s ∧ sl_D L g A ∧ sl_T s ∧ sl_Z A z s
def sl_W (cl : List vw_C) (L : List sl_E) (D : va_G) (cA : ClassId) (g : Nat → Nat) (A : Nat → Prop) (s : State) (M : sl_M) (H : Heap) (locs : List Loc) : Prop := va_P D cl (sl_w L cA g M) H ∧ va_S A s.heap H locs
def sl_A (cl : List vw_C) (L : List sl_E) (D : va_G) (cA : ClassId) (g : Nat → Nat) (A : Nat → Prop) (p : Program) (l : Launch) (e : Env) (R : Room) (s : State) (m : MethodId) (args : Array Value) (below : List Frame) (meth : Method) (c : Code) (Q : State → Prop) (nL pc : Nat) (lv : List (Nat × Value)) (st : List Value) (M : sl_M) : Prop :=
  ∀ (H : Heap) (locs : List Loc) (ls : Array Slot), sl_W cl L D cA g A s M H locs → lv_has ls nL lv → W p l e R s m args below meth c H locs 0 0 Q (F0 m pc ls st)
/-- the end of a method: its answer, the picture behind it -/
def sl_Q (cl : List vw_C) (L : List sl_E) (D : va_G) (cA : ClassId) (g : Nat → Nat) (A : Nat → Prop) (rv : Option Value) (M : sl_M) : Array Value → State → Outcome → State → Prop := fun _ st o t => o = .returned rv ∧ va_P D cl (sl_w L cA g M) t.heap ∧ va_F A st t
def sl_P (cl : List vw_C) (L : List sl_E) (D : va_G) (cA : ClassId) (g : Nat → Nat) (A : Nat → Prop) (z : sl_K) (M : sl_M) (U : State) : Prop := va_P D cl (sl_w L cA g M) U.heap ∧ va_K D cl [(cA, .int)] U ∧ sl_D L g A ∧ sl_T U ∧ sl_Z A z U
/-- a method's contract: from the picture M with these arguments it answers rv and leaves the picture M2 -/
def sl_N (cl : List vw_C) (L : List sl_E) (D : va_G) (cA : ClassId) (g : Nat → Nat) (A : Nat → Prop) (z : sl_K) (l : Launch) (y : MethodName) (cc : ByteArray) (nL : Nat) (ret : Option FieldType) (fr lo : Nat) (as : List Value) (M : sl_M) (rv : Option Value) (M2 : sl_M) : Prop :=
  Met l y [.code y cc nL ret] { frames := fr, cells := 0, slots := 0, locals := lo } (va_Pc as (sl_P cl L D cA g A z M)) (sl_Q cl L D cA g A rv M2) 0 0 A
/-! loads, stores, as numbers -/
def sl_ld (f : Nat → Int32) (n : Nat) (i : Int32) : Option Int32 := if i < 0 ∨ n ≤ i.toNatClampNeg then none else some (f i.toNatClampNeg)
def sl_st (M : sl_M) (r n : Nat) (i v : Int32) : Option sl_M := if i < 0 ∨ n ≤ i.toNatClampNeg then none else some (sl_up M r i.toNatClampNeg v)
def sl_bo (v : Int32) : Option Int32 := if v = 0 then some 0 else if v = 1 then some 1 else none
def sl_dv (x y : Int32) : Option Int32 := if y = 0 then none else some (x / y)
def sl_rm (x y : Int32) : Option Int32 := if y = 0 then none else some (x - x / y * y)
def sl_cp (M : sl_M) (r0 n0 r1 n1 : Nat) (sp dp n : Int32) : Option sl_M := if sp < 0 ∨ dp < 0 ∨ n < 0 ∨ n0 < sp.toNatClampNeg + n.toNatClampNeg ∨ n1 < dp.toNatClampNeg + n.toNatClampNeg then none else some (fun r => if r = r1 then va_cpy (M r0) (M r1) sp.toNatClampNeg dp.toNatClampNeg n.toNatClampNeg else M r)
theorem sl_ld_s {f : Nat → Int32} {n : Nat} {i v : Int32} (h : sl_ld f n i = some v) : vp_in i n ∧ f i.toNatClampNeg = v := by
  unfold sl_ld at h
  by_cases hc : i < 0 ∨ n ≤ i.toNatClampNeg
  · rw [if_pos hc] at h; cases h
  · rw [if_neg hc] at h; exact ⟨hc, Option.some.inj h⟩
theorem sl_st_s {M M2 : sl_M} {r n : Nat} {i v : Int32} (h : sl_st M r n i v = some M2) : vp_in i n ∧ sl_up M r i.toNatClampNeg v = M2 := by
  unfold sl_st at h
  by_cases hc : i < 0 ∨ n ≤ i.toNatClampNeg
  · rw [if_pos hc] at h; cases h
  · rw [if_neg hc] at h; exact ⟨hc, Option.some.inj h⟩
theorem sl_bo_s {v w : Int32} (h : sl_bo v = some w) : w = v ∧ (v = 0 ∨ v = 1) := by
  unfold sl_bo at h
  by_cases h0 : v = 0
  · rw [if_pos h0] at h; exact ⟨by rw [h0]; exact (Option.some.inj h).symm, Or.inl h0⟩
  · rw [if_neg h0] at h
    by_cases h1 : v = 1
    · rw [if_pos h1] at h; exact ⟨by rw [h1]; exact (Option.some.inj h).symm, Or.inr h1⟩
    · rw [if_neg h1] at h; cases h
theorem sl_b {α β : Type} {x : Option α} {f : α → Option β} {r : β} (h : x.bind f = some r) : ∃ v, x = some v ∧ f v = some r := by
  cases x with
  | none => cases h
  | some v => exact ⟨v, rfl, h⟩
theorem sl_t {α : Type} {c : Prop} [Decidable c] {a b r : α} (hc : c) (h : (if c then a else b) = r) : a = r := (if_pos hc).symm.trans h
theorem sl_n {α : Type} {c : Prop} [Decidable c] {a b r : α} (hc : ¬ c) (h : (if c then a else b) = r) : b = r := (if_neg hc).symm.trans h
theorem sl_up_o {M : sl_M} {r i : Nat} {v : Int32} : ∀ r', r' ≠ r → sl_up M r i v r' = M r' := fun r' h => by simp [sl_up, h]
theorem sl_up_s {M : sl_M} {r i : Nat} {v : Int32} : sl_up M r i v r = upd (M r) i v := by simp [sl_up]
end
section
section SLR
variable {cl : List vw_C} {L : List sl_E} {D : va_G} {cA : ClassId} {g : Nat → Nat} {A : Nat → Prop} {z : sl_K}
variable {p : Program} {l : Launch} {e : Env} {R : Room} {s : State} {m : MethodId} {args : Array Value} {below : List Frame} {meth : Method} {c : Code} {Q : State → Prop}
variable {own : String} {cc : ByteArray} {nL pc : Nat} {ret : Option FieldType} {lv : List (Nat × Value)} {st : List Value} {M : sl_M}
theorem sa_iconst (C : sl_C own cc nL ret cl L D cA g A z p s m meth c) {n : Int} {v : Int32} (hd : decode cc pc = .ok (.iconst n, 1)) (hv : Int32.ofInt n = v)
    (k : sl_A cl L D cA g A p l e R s m args below meth c Q nL (pc + 1) lv (.int v :: st) M) : sl_A cl L D cA g A p l e R s m args below meth c Q nL pc lv (st) M :=
  fun H locs ls hW hl => lv_iconst C.1 C.2.1 hd hv (k H locs ls hW hl)
theorem sa_bipush (C : sl_C own cc nL ret cl L D cA g A z p s m meth c) {n : Int} {v : Int32} (hd : decode cc pc = .ok (.bipush n, 2)) (hv : (Int8.ofInt n).toInt32 = v)
    (k : sl_A cl L D cA g A p l e R s m args below meth c Q nL (pc + 2) lv (.int v :: st) M) : sl_A cl L D cA g A p l e R s m args below meth c Q nL pc lv (st) M :=
  fun H locs ls hW hl => lv_bipush C.1 C.2.1 hd hv (k H locs ls hW hl)
theorem sa_sipush (C : sl_C own cc nL ret cl L D cA g A z p s m meth c) {n : Int} {v : Int32} (hd : decode cc pc = .ok (.sipush n, 3)) (hv : (Int16.ofInt n).toInt32 = v)
    (k : sl_A cl L D cA g A p l e R s m args below meth c Q nL (pc + 3) lv (.int v :: st) M) : sl_A cl L D cA g A p l e R s m args below meth c Q nL pc lv (st) M :=
  fun H locs ls hW hl => lv_sipush C.1 C.2.1 hd hv (k H locs ls hW hl)
theorem sa_lconst (C : sl_C own cc nL ret cl L D cA g A z p s m meth c) {n : Fin 2} {v : Int64} (hd : decode cc pc = .ok (.lconst n, 1)) (hv : Int64.ofNat (n : Nat) = v)
    (k : sl_A cl L D cA g A p l e R s m args below meth c Q nL (pc + 1) lv (.long v :: st) M) : sl_A cl L D cA g A p l e R s m args below meth c Q nL pc lv (st) M :=
  fun H locs ls hW hl => lv_lconst C.1 C.2.1 hd hv (k H locs ls hW hl)
theorem sa_iload_n (C : sl_C own cc nL ret cl L D cA g A z p s m meth c) {k : Fin 4} {i : Nat} {x : Int32} (hd : decode cc pc = .ok (.iload_n k, 1)) (hi : (k : Nat) = i) (j : Nat) (hj : lv[j]? = some (i, .int x))
    (k : sl_A cl L D cA g A p l e R s m args below meth c Q nL (pc + 1) lv (.int x :: st) M) : sl_A cl L D cA g A p l e R s m args below meth c Q nL pc lv (st) M :=
  fun H locs ls hW hl => lv_iload_n C.1 C.2.1 hd hi (lv_at hl j hj) (k H locs ls hW hl)
theorem sa_iload (C : sl_C own cc nL ret cl L D cA g A z p s m meth c) {i : Nat} {x : Int32} (hd : decode cc pc = .ok (.iload i, 2)) (j : Nat) (hj : lv[j]? = some (i, .int x))
    (k : sl_A cl L D cA g A p l e R s m args below meth c Q nL (pc + 2) lv (.int x :: st) M) : sl_A cl L D cA g A p l e R s m args below meth c Q nL pc lv (st) M :=
  fun H locs ls hW hl => lv_iload C.1 C.2.1 hd (lv_at hl j hj) (k H locs ls hW hl)
theorem sa_lload_n (C : sl_C own cc nL ret cl L D cA g A z p s m meth c) {k : Fin 4} {i : Nat} {x : Int64} (hd : decode cc pc = .ok (.lload_n k, 1)) (hi : (k : Nat) = i) (j : Nat) (hj : lv[j]? = some (i, .long x))
    (k : sl_A cl L D cA g A p l e R s m args below meth c Q nL (pc + 1) lv (.long x :: st) M) : sl_A cl L D cA g A p l e R s m args below meth c Q nL pc lv (st) M :=
  fun H locs ls hW hl => lv_lload_n C.1 C.2.1 hd hi (lv_at hl j hj) (k H locs ls hW hl)
theorem sa_lload (C : sl_C own cc nL ret cl L D cA g A z p s m meth c) {i : Nat} {x : Int64} (hd : decode cc pc = .ok (.lload i, 2)) (j : Nat) (hj : lv[j]? = some (i, .long x))
    (k : sl_A cl L D cA g A p l e R s m args below meth c Q nL (pc + 2) lv (.long x :: st) M) : sl_A cl L D cA g A p l e R s m args below meth c Q nL pc lv (st) M :=
  fun H locs ls hW hl => lv_lload C.1 C.2.1 hd (lv_at hl j hj) (k H locs ls hW hl)
theorem sa_aload_n (C : sl_C own cc nL ret cl L D cA g A z p s m meth c) {k : Fin 4} {i : Nat} {x : Nat} (hd : decode cc pc = .ok (.aload_n k, 1)) (hi : (k : Nat) = i) (j : Nat) (hj : lv[j]? = some (i, .ref x))
    (k : sl_A cl L D cA g A p l e R s m args below meth c Q nL (pc + 1) lv (.ref x :: st) M) : sl_A cl L D cA g A p l e R s m args below meth c Q nL pc lv (st) M :=
  fun H locs ls hW hl => lv_aload_n C.1 C.2.1 hd hi (lv_at hl j hj) (k H locs ls hW hl)
theorem sa_aload (C : sl_C own cc nL ret cl L D cA g A z p s m meth c) {i : Nat} {x : Nat} (hd : decode cc pc = .ok (.aload i, 2)) (j : Nat) (hj : lv[j]? = some (i, .ref x))
    (k : sl_A cl L D cA g A p l e R s m args below meth c Q nL (pc + 2) lv (.ref x :: st) M) : sl_A cl L D cA g A p l e R s m args below meth c Q nL pc lv (st) M :=
  fun H locs ls hW hl => lv_aload C.1 C.2.1 hd (lv_at hl j hj) (k H locs ls hW hl)
theorem sa_istore_n (C : sl_C own cc nL ret cl L D cA g A z p s m meth c) {k : Fin 4} {i : Nat} {x : Int32} {lv2 : List (Nat × Value)} (hd : decode cc pc = .ok (.istore_n k, 1)) (hi : (k : Nat) = i) (hn : i < nL) (hl2 : (i, Value.int x) :: lv.filter (fun q => !(q.1 == i) && !(q.1 + 1 == i && q.2.category == 2)) = lv2)
    (k : sl_A cl L D cA g A p l e R s m args below meth c Q nL (pc + 1) lv2 st M) : sl_A cl L D cA g A p l e R s m args below meth c Q nL pc lv (.int x :: st) M :=
  fun H locs ls hW hl => lv_istore_n C.1 C.2.1 hd hi hl hn hl2 (fun ls2 h2 => k H locs ls2 hW h2)
theorem sa_istore (C : sl_C own cc nL ret cl L D cA g A z p s m meth c) {i : Nat} {x : Int32} {lv2 : List (Nat × Value)} (hd : decode cc pc = .ok (.istore i, 2))  (hn : i < nL) (hl2 : (i, Value.int x) :: lv.filter (fun q => !(q.1 == i) && !(q.1 + 1 == i && q.2.category == 2)) = lv2)
    (k : sl_A cl L D cA g A p l e R s m args below meth c Q nL (pc + 2) lv2 st M) : sl_A cl L D cA g A p l e R s m args below meth c Q nL pc lv (.int x :: st) M :=
  fun H locs ls hW hl => lv_istore C.1 C.2.1 hd  hl hn hl2 (fun ls2 h2 => k H locs ls2 hW h2)
theorem sa_lstore_n (C : sl_C own cc nL ret cl L D cA g A z p s m meth c) {k : Fin 4} {i : Nat} {x : Int64} {lv2 : List (Nat × Value)} (hd : decode cc pc = .ok (.lstore_n k, 1)) (hi : (k : Nat) = i) (hn : i + 1 < nL) (hl2 : (i, Value.long x) :: lv.filter (fun q => !(q.1 == i) && (!(q.1 == i + 1) && !(q.1 + 1 == i && q.2.category == 2))) = lv2)
    (k : sl_A cl L D cA g A p l e R s m args below meth c Q nL (pc + 1) lv2 st M) : sl_A cl L D cA g A p l e R s m args below meth c Q nL pc lv (.long x :: st) M :=
  fun H locs ls hW hl => lv_lstore_n C.1 C.2.1 hd hi hl hn hl2 (fun ls2 h2 => k H locs ls2 hW h2)
theorem sa_lstore (C : sl_C own cc nL ret cl L D cA g A z p s m meth c) {i : Nat} {x : Int64} {lv2 : List (Nat × Value)} (hd : decode cc pc = .ok (.lstore i, 2))  (hn : i + 1 < nL) (hl2 : (i, Value.long x) :: lv.filter (fun q => !(q.1 == i) && (!(q.1 == i + 1) && !(q.1 + 1 == i && q.2.category == 2))) = lv2)
    (k : sl_A cl L D cA g A p l e R s m args below meth c Q nL (pc + 2) lv2 st M) : sl_A cl L D cA g A p l e R s m args below meth c Q nL pc lv (.long x :: st) M :=
  fun H locs ls hW hl => lv_lstore C.1 C.2.1 hd  hl hn hl2 (fun ls2 h2 => k H locs ls2 hW h2)
theorem sa_iinc (C : sl_C own cc nL ret cl L D cA g A z p s m meth c) {i : Nat} {n : Int} {x v : Int32} {lv2 : List (Nat × Value)} (hd : decode cc pc = .ok (.iinc i n, 3)) (j : Nat) (hj : lv[j]? = some (i, .int x)) (hv : x + Int32.ofInt n = v) (hn : i < nL) (hl2 : (i, Value.int v) :: lv.filter (fun q => !(q.1 == i) && !(q.1 + 1 == i && q.2.category == 2)) = lv2)
    (k : sl_A cl L D cA g A p l e R s m args below meth c Q nL (pc + 3) lv2 st M) : sl_A cl L D cA g A p l e R s m args below meth c Q nL pc lv st M :=
  fun H locs ls hW hl => lv_iinc C.1 C.2.1 hd hl hj hv hn hl2 (fun ls2 h2 => k H locs ls2 hW h2)
theorem sa_iadd (C : sl_C own cc nL ret cl L D cA g A z p s m meth c) {x y : Int32} (hd : decode cc pc = .ok (.iadd, 1)) 
    (k : sl_A cl L D cA g A p l e R s m args below meth c Q nL (pc + 1) lv (.int (x + y) :: st) M) : sl_A cl L D cA g A p l e R s m args below meth c Q nL pc lv (.int y :: .int x :: st) M :=
  fun H locs ls hW hl => lv_iadd C.1 C.2.1 hd  (k H locs ls hW hl)
theorem sa_isub (C : sl_C own cc nL ret cl L D cA g A z p s m meth c) {x y : Int32} (hd : decode cc pc = .ok (.isub, 1)) 
    (k : sl_A cl L D cA g A p l e R s m args below meth c Q nL (pc + 1) lv (.int (x - y) :: st) M) : sl_A cl L D cA g A p l e R s m args below meth c Q nL pc lv (.int y :: .int x :: st) M :=
  fun H locs ls hW hl => lv_isub C.1 C.2.1 hd  (k H locs ls hW hl)
theorem sa_imul (C : sl_C own cc nL ret cl L D cA g A z p s m meth c) {x y : Int32} (hd : decode cc pc = .ok (.imul, 1)) 
    (k : sl_A cl L D cA g A p l e R s m args below meth c Q nL (pc + 1) lv (.int (x * y) :: st) M) : sl_A cl L D cA g A p l e R s m args below meth c Q nL pc lv (.int y :: .int x :: st) M :=
  fun H locs ls hW hl => lv_imul C.1 C.2.1 hd  (k H locs ls hW hl)
theorem sa_iand (C : sl_C own cc nL ret cl L D cA g A z p s m meth c) {x y : Int32} (hd : decode cc pc = .ok (.iand, 1)) 
    (k : sl_A cl L D cA g A p l e R s m args below meth c Q nL (pc + 1) lv (.int (x &&& y) :: st) M) : sl_A cl L D cA g A p l e R s m args below meth c Q nL pc lv (.int y :: .int x :: st) M :=
  fun H locs ls hW hl => lv_iand C.1 C.2.1 hd  (k H locs ls hW hl)
theorem sa_ior (C : sl_C own cc nL ret cl L D cA g A z p s m meth c) {x y : Int32} (hd : decode cc pc = .ok (.ior, 1)) 
    (k : sl_A cl L D cA g A p l e R s m args below meth c Q nL (pc + 1) lv (.int (x ||| y) :: st) M) : sl_A cl L D cA g A p l e R s m args below meth c Q nL pc lv (.int y :: .int x :: st) M :=
  fun H locs ls hW hl => lv_ior C.1 C.2.1 hd  (k H locs ls hW hl)
theorem sa_ixor (C : sl_C own cc nL ret cl L D cA g A z p s m meth c) {x y : Int32} (hd : decode cc pc = .ok (.ixor, 1)) 
    (k : sl_A cl L D cA g A p l e R s m args below meth c Q nL (pc + 1) lv (.int (x ^^^ y) :: st) M) : sl_A cl L D cA g A p l e R s m args below meth c Q nL pc lv (.int y :: .int x :: st) M :=
  fun H locs ls hW hl => lv_ixor C.1 C.2.1 hd  (k H locs ls hW hl)
theorem sa_ishl (C : sl_C own cc nL ret cl L D cA g A z p s m meth c) {x y : Int32} (hd : decode cc pc = .ok (.ishl, 1)) 
    (k : sl_A cl L D cA g A p l e R s m args below meth c Q nL (pc + 1) lv (.int (x <<< (y &&& 31)) :: st) M) : sl_A cl L D cA g A p l e R s m args below meth c Q nL pc lv (.int y :: .int x :: st) M :=
  fun H locs ls hW hl => lv_ishl C.1 C.2.1 hd  (k H locs ls hW hl)
theorem sa_ishr (C : sl_C own cc nL ret cl L D cA g A z p s m meth c) {x y : Int32} (hd : decode cc pc = .ok (.ishr, 1)) 
    (k : sl_A cl L D cA g A p l e R s m args below meth c Q nL (pc + 1) lv (.int (x >>> (y &&& 31)) :: st) M) : sl_A cl L D cA g A p l e R s m args below meth c Q nL pc lv (.int y :: .int x :: st) M :=
  fun H locs ls hW hl => lv_ishr C.1 C.2.1 hd  (k H locs ls hW hl)
theorem sa_iushr (C : sl_C own cc nL ret cl L D cA g A z p s m meth c) {x y : Int32} (hd : decode cc pc = .ok (.iushr, 1))
    (k : sl_A cl L D cA g A p l e R s m args below meth c Q nL (pc + 1) lv (.int (x.toUInt32 >>> (y.toUInt32 &&& Int32.toUInt32 31)).toInt32 :: st) M) : sl_A cl L D cA g A p l e R s m args below meth c Q nL pc lv (.int y :: .int x :: st) M :=
  fun H locs ls hW hl => lv_iushr C.1 C.2.1 hd rfl (k H locs ls hW hl)
theorem sa_ineg (C : sl_C own cc nL ret cl L D cA g A z p s m meth c) {x : Int32} (hd : decode cc pc = .ok (.ineg, 1))
    (k : sl_A cl L D cA g A p l e R s m args below meth c Q nL (pc + 1) lv (.int (-x) :: st) M) : sl_A cl L D cA g A p l e R s m args below meth c Q nL pc lv (.int x :: st) M :=
  fun H locs ls hW hl => lv_ineg C.1 C.2.1 hd (k H locs ls hW hl)
theorem sa_idiv (C : sl_C own cc nL ret cl L D cA g A z p s m meth c) {x y v : Int32} (hd : decode cc pc = .ok (.idiv, 1)) (h : sl_dv x y = some v)
    (k : sl_A cl L D cA g A p l e R s m args below meth c Q nL (pc + 1) lv (.int v :: st) M) : sl_A cl L D cA g A p l e R s m args below meth c Q nL pc lv (.int y :: .int x :: st) M :=
  fun H locs ls hW hl => by
  unfold sl_dv at h
  by_cases hc : y = 0
  · rw [if_pos hc] at h; cases h
  · rw [if_neg hc] at h; obtain rfl := Option.some.inj h; exact lv_idiv C.1 C.2.1 hd hc (k H locs ls hW hl)
theorem sa_irem (C : sl_C own cc nL ret cl L D cA g A z p s m meth c) {x y v : Int32} (hd : decode cc pc = .ok (.irem, 1)) (h : sl_rm x y = some v)
    (k : sl_A cl L D cA g A p l e R s m args below meth c Q nL (pc + 1) lv (.int v :: st) M) : sl_A cl L D cA g A p l e R s m args below meth c Q nL pc lv (.int y :: .int x :: st) M :=
  fun H locs ls hW hl => by
  unfold sl_rm at h
  by_cases hc : y = 0
  · rw [if_pos hc] at h; cases h
  · rw [if_neg hc] at h; obtain rfl := Option.some.inj h; exact lv_irem C.1 C.2.1 hd hc (k H locs ls hW hl)
theorem sa_idivc (C : sl_C own cc nL ret cl L D cA g A z p s m meth c) {x y : Int32} (hd : decode cc pc = .ok (.idiv, 1)) (hc : ¬ y = 0)
    (k : sl_A cl L D cA g A p l e R s m args below meth c Q nL (pc + 1) lv (.int (x / y) :: st) M) : sl_A cl L D cA g A p l e R s m args below meth c Q nL pc lv (.int y :: .int x :: st) M :=
  fun H locs ls hW hl => lv_idiv C.1 C.2.1 hd hc (k H locs ls hW hl)
theorem sa_iremc (C : sl_C own cc nL ret cl L D cA g A z p s m meth c) {x y : Int32} (hd : decode cc pc = .ok (.irem, 1)) (hc : ¬ y = 0)
    (k : sl_A cl L D cA g A p l e R s m args below meth c Q nL (pc + 1) lv (.int (x - x / y * y) :: st) M) : sl_A cl L D cA g A p l e R s m args below meth c Q nL pc lv (.int y :: .int x :: st) M :=
  fun H locs ls hW hl => lv_irem C.1 C.2.1 hd hc (k H locs ls hW hl)
theorem sa_i2l (C : sl_C own cc nL ret cl L D cA g A z p s m meth c) {x : Int32} (hd : decode cc pc = .ok (.i2l, 1))
    (k : sl_A cl L D cA g A p l e R s m args below meth c Q nL (pc + 1) lv (.long x.toInt64 :: st) M) : sl_A cl L D cA g A p l e R s m args below meth c Q nL pc lv (.int x :: st) M :=
  fun H locs ls hW hl => lv_i2l C.1 C.2.1 hd rfl (k H locs ls hW hl)
theorem sa_i2b (C : sl_C own cc nL ret cl L D cA g A z p s m meth c) {x : Int32} (hd : decode cc pc = .ok (.i2b, 1))
    (k : sl_A cl L D cA g A p l e R s m args below meth c Q nL (pc + 1) lv (.int x.toInt8.toInt32 :: st) M) : sl_A cl L D cA g A p l e R s m args below meth c Q nL pc lv (.int x :: st) M :=
  fun H locs ls hW hl => lv_i2b C.1 C.2.1 hd rfl (k H locs ls hW hl)
theorem sa_i2s (C : sl_C own cc nL ret cl L D cA g A z p s m meth c) {x : Int32} (hd : decode cc pc = .ok (.i2s, 1))
    (k : sl_A cl L D cA g A p l e R s m args below meth c Q nL (pc + 1) lv (.int x.toInt16.toInt32 :: st) M) : sl_A cl L D cA g A p l e R s m args below meth c Q nL pc lv (.int x :: st) M :=
  fun H locs ls hW hl => lv_i2s C.1 C.2.1 hd rfl (k H locs ls hW hl)
theorem sa_i2c (C : sl_C own cc nL ret cl L D cA g A z p s m meth c) {x : Int32} (hd : decode cc pc = .ok (.i2c, 1))
    (k : sl_A cl L D cA g A p l e R s m args below meth c Q nL (pc + 1) lv (.int (x.toUInt32 % 65536).toInt32 :: st) M) : sl_A cl L D cA g A p l e R s m args below meth c Q nL pc lv (.int x :: st) M :=
  fun H locs ls hW hl => lv_i2c C.1 C.2.1 hd rfl (k H locs ls hW hl)
theorem sa_ladd (C : sl_C own cc nL ret cl L D cA g A z p s m meth c) {x y : Int64} (hd : decode cc pc = .ok (.ladd, 1)) 
    (k : sl_A cl L D cA g A p l e R s m args below meth c Q nL (pc + 1) lv (.long (x + y) :: st) M) : sl_A cl L D cA g A p l e R s m args below meth c Q nL pc lv (.long y :: .long x :: st) M :=
  fun H locs ls hW hl => lv_ladd C.1 C.2.1 hd  (k H locs ls hW hl)
theorem sa_lmul (C : sl_C own cc nL ret cl L D cA g A z p s m meth c) {x y : Int64} (hd : decode cc pc = .ok (.lmul, 1)) 
    (k : sl_A cl L D cA g A p l e R s m args below meth c Q nL (pc + 1) lv (.long (x * y) :: st) M) : sl_A cl L D cA g A p l e R s m args below meth c Q nL pc lv (.long y :: .long x :: st) M :=
  fun H locs ls hW hl => lv_lmul C.1 C.2.1 hd  (k H locs ls hW hl)
theorem sa_lcmp (C : sl_C own cc nL ret cl L D cA g A z p s m meth c) {x y : Int64} (hd : decode cc pc = .ok (.lcmp, 1))
    (k : sl_A cl L D cA g A p l e R s m args below meth c Q nL (pc + 1) lv (.int (lg_cmp x y) :: st) M) : sl_A cl L D cA g A p l e R s m args below meth c Q nL pc lv (.long y :: .long x :: st) M :=
  fun H locs ls hW hl => W.lcmp C.1 C.2.1 hd (k H locs ls hW hl)
theorem sa_dup (C : sl_C own cc nL ret cl L D cA g A z p s m meth c) {va : Value} (hd : decode cc pc = .ok (.dup, 1)) (hv : va.category = 1)
    (k : sl_A cl L D cA g A p l e R s m args below meth c Q nL (pc + 1) lv (va :: va :: st) M) : sl_A cl L D cA g A p l e R s m args below meth c Q nL pc lv (va :: st) M :=
  fun H locs ls hW hl => lv_dup C.1 C.2.1 hd hv (k H locs ls hW hl)
theorem sa_pop (C : sl_C own cc nL ret cl L D cA g A z p s m meth c) {va : Value} (hd : decode cc pc = .ok (.pop, 1)) (hv : va.category = 1)
    (k : sl_A cl L D cA g A p l e R s m args below meth c Q nL (pc + 1) lv (st) M) : sl_A cl L D cA g A p l e R s m args below meth c Q nL pc lv (va :: st) M :=
  fun H locs ls hW hl => lv_pop C.1 C.2.1 hd hv (k H locs ls hW hl)
theorem sa_dup2 (C : sl_C own cc nL ret cl L D cA g A z p s m meth c) {va vb : Value} (hd : decode cc pc = .ok (.dup2, 1)) (hv : va.category = 1) (hw : vb.category = 1)
    (k : sl_A cl L D cA g A p l e R s m args below meth c Q nL (pc + 1) lv (va :: vb :: va :: vb :: st) M) : sl_A cl L D cA g A p l e R s m args below meth c Q nL pc lv (va :: vb :: st) M :=
  fun H locs ls hW hl => lv_dup2_11 C.1 C.2.1 hd hv hw (k H locs ls hW hl)
theorem sa_if_eq (C : sl_C own cc nL ret cl L D cA g A z p s m meth c) {x : Int32} {off : Int} {tgt : Nat} (hd : decode cc pc = .ok (.ifCond .eq off, 3)) (ht : (pc : Int) + off = (tgt : Int))
    (kt : x = 0 → sl_A cl L D cA g A p l e R s m args below meth c Q nL tgt lv st M) (kf : ¬ x = 0 → sl_A cl L D cA g A p l e R s m args below meth c Q nL (pc + 3) lv st M) : sl_A cl L D cA g A p l e R s m args below meth c Q nL pc lv (.int x :: st) M :=
  fun H locs ls hW hl => lv_if_eq C.1 C.2.1 hd ht (fun q => kt q H locs ls hW hl) (fun q => kf q H locs ls hW hl)
theorem sa_icmp_eq (C : sl_C own cc nL ret cl L D cA g A z p s m meth c) {x y : Int32} {off : Int} {tgt : Nat} (hd : decode cc pc = .ok (.if_icmp .eq off, 3)) (ht : (pc : Int) + off = (tgt : Int))
    (kt : x = y → sl_A cl L D cA g A p l e R s m args below meth c Q nL tgt lv st M) (kf : ¬ x = y → sl_A cl L D cA g A p l e R s m args below meth c Q nL (pc + 3) lv st M) : sl_A cl L D cA g A p l e R s m args below meth c Q nL pc lv (.int y :: .int x :: st) M :=
  fun H locs ls hW hl => lv_icmp_eq C.1 C.2.1 hd ht (fun q => kt q H locs ls hW hl) (fun q => kf q H locs ls hW hl)
theorem sa_if_ne (C : sl_C own cc nL ret cl L D cA g A z p s m meth c) {x : Int32} {off : Int} {tgt : Nat} (hd : decode cc pc = .ok (.ifCond .ne off, 3)) (ht : (pc : Int) + off = (tgt : Int))
    (kt : ¬ x = 0 → sl_A cl L D cA g A p l e R s m args below meth c Q nL tgt lv st M) (kf : x = 0 → sl_A cl L D cA g A p l e R s m args below meth c Q nL (pc + 3) lv st M) : sl_A cl L D cA g A p l e R s m args below meth c Q nL pc lv (.int x :: st) M :=
  fun H locs ls hW hl => lv_if_ne C.1 C.2.1 hd ht (fun q => kt q H locs ls hW hl) (fun q => kf q H locs ls hW hl)
theorem sa_icmp_ne (C : sl_C own cc nL ret cl L D cA g A z p s m meth c) {x y : Int32} {off : Int} {tgt : Nat} (hd : decode cc pc = .ok (.if_icmp .ne off, 3)) (ht : (pc : Int) + off = (tgt : Int))
    (kt : ¬ x = y → sl_A cl L D cA g A p l e R s m args below meth c Q nL tgt lv st M) (kf : x = y → sl_A cl L D cA g A p l e R s m args below meth c Q nL (pc + 3) lv st M) : sl_A cl L D cA g A p l e R s m args below meth c Q nL pc lv (.int y :: .int x :: st) M :=
  fun H locs ls hW hl => lv_icmp_ne C.1 C.2.1 hd ht (fun q => kt q H locs ls hW hl) (fun q => kf q H locs ls hW hl)
theorem sa_if_lt (C : sl_C own cc nL ret cl L D cA g A z p s m meth c) {x : Int32} {off : Int} {tgt : Nat} (hd : decode cc pc = .ok (.ifCond .lt off, 3)) (ht : (pc : Int) + off = (tgt : Int))
    (kt : x < 0 → sl_A cl L D cA g A p l e R s m args below meth c Q nL tgt lv st M) (kf : ¬ x < 0 → sl_A cl L D cA g A p l e R s m args below meth c Q nL (pc + 3) lv st M) : sl_A cl L D cA g A p l e R s m args below meth c Q nL pc lv (.int x :: st) M :=
  fun H locs ls hW hl => lv_if_lt C.1 C.2.1 hd ht (fun q => kt q H locs ls hW hl) (fun q => kf q H locs ls hW hl)
theorem sa_icmp_lt (C : sl_C own cc nL ret cl L D cA g A z p s m meth c) {x y : Int32} {off : Int} {tgt : Nat} (hd : decode cc pc = .ok (.if_icmp .lt off, 3)) (ht : (pc : Int) + off = (tgt : Int))
    (kt : x < y → sl_A cl L D cA g A p l e R s m args below meth c Q nL tgt lv st M) (kf : ¬ x < y → sl_A cl L D cA g A p l e R s m args below meth c Q nL (pc + 3) lv st M) : sl_A cl L D cA g A p l e R s m args below meth c Q nL pc lv (.int y :: .int x :: st) M :=
  fun H locs ls hW hl => lv_icmp_lt C.1 C.2.1 hd ht (fun q => kt q H locs ls hW hl) (fun q => kf q H locs ls hW hl)
theorem sa_if_ge (C : sl_C own cc nL ret cl L D cA g A z p s m meth c) {x : Int32} {off : Int} {tgt : Nat} (hd : decode cc pc = .ok (.ifCond .ge off, 3)) (ht : (pc : Int) + off = (tgt : Int))
    (kt : 0 ≤ x → sl_A cl L D cA g A p l e R s m args below meth c Q nL tgt lv st M) (kf : ¬ 0 ≤ x → sl_A cl L D cA g A p l e R s m args below meth c Q nL (pc + 3) lv st M) : sl_A cl L D cA g A p l e R s m args below meth c Q nL pc lv (.int x :: st) M :=
  fun H locs ls hW hl => lv_if_ge C.1 C.2.1 hd ht (fun q => kt q H locs ls hW hl) (fun q => kf q H locs ls hW hl)
theorem sa_icmp_ge (C : sl_C own cc nL ret cl L D cA g A z p s m meth c) {x y : Int32} {off : Int} {tgt : Nat} (hd : decode cc pc = .ok (.if_icmp .ge off, 3)) (ht : (pc : Int) + off = (tgt : Int))
    (kt : y ≤ x → sl_A cl L D cA g A p l e R s m args below meth c Q nL tgt lv st M) (kf : ¬ y ≤ x → sl_A cl L D cA g A p l e R s m args below meth c Q nL (pc + 3) lv st M) : sl_A cl L D cA g A p l e R s m args below meth c Q nL pc lv (.int y :: .int x :: st) M :=
  fun H locs ls hW hl => lv_icmp_ge C.1 C.2.1 hd ht (fun q => kt q H locs ls hW hl) (fun q => kf q H locs ls hW hl)
theorem sa_if_gt (C : sl_C own cc nL ret cl L D cA g A z p s m meth c) {x : Int32} {off : Int} {tgt : Nat} (hd : decode cc pc = .ok (.ifCond .gt off, 3)) (ht : (pc : Int) + off = (tgt : Int))
    (kt : 0 < x → sl_A cl L D cA g A p l e R s m args below meth c Q nL tgt lv st M) (kf : ¬ 0 < x → sl_A cl L D cA g A p l e R s m args below meth c Q nL (pc + 3) lv st M) : sl_A cl L D cA g A p l e R s m args below meth c Q nL pc lv (.int x :: st) M :=
  fun H locs ls hW hl => lv_if_gt C.1 C.2.1 hd ht (fun q => kt q H locs ls hW hl) (fun q => kf q H locs ls hW hl)
theorem sa_icmp_gt (C : sl_C own cc nL ret cl L D cA g A z p s m meth c) {x y : Int32} {off : Int} {tgt : Nat} (hd : decode cc pc = .ok (.if_icmp .gt off, 3)) (ht : (pc : Int) + off = (tgt : Int))
    (kt : y < x → sl_A cl L D cA g A p l e R s m args below meth c Q nL tgt lv st M) (kf : ¬ y < x → sl_A cl L D cA g A p l e R s m args below meth c Q nL (pc + 3) lv st M) : sl_A cl L D cA g A p l e R s m args below meth c Q nL pc lv (.int y :: .int x :: st) M :=
  fun H locs ls hW hl => lv_icmp_gt C.1 C.2.1 hd ht (fun q => kt q H locs ls hW hl) (fun q => kf q H locs ls hW hl)
theorem sa_if_le (C : sl_C own cc nL ret cl L D cA g A z p s m meth c) {x : Int32} {off : Int} {tgt : Nat} (hd : decode cc pc = .ok (.ifCond .le off, 3)) (ht : (pc : Int) + off = (tgt : Int))
    (kt : x ≤ 0 → sl_A cl L D cA g A p l e R s m args below meth c Q nL tgt lv st M) (kf : ¬ x ≤ 0 → sl_A cl L D cA g A p l e R s m args below meth c Q nL (pc + 3) lv st M) : sl_A cl L D cA g A p l e R s m args below meth c Q nL pc lv (.int x :: st) M :=
  fun H locs ls hW hl => lv_if_le C.1 C.2.1 hd ht (fun q => kt q H locs ls hW hl) (fun q => kf q H locs ls hW hl)
theorem sa_icmp_le (C : sl_C own cc nL ret cl L D cA g A z p s m meth c) {x y : Int32} {off : Int} {tgt : Nat} (hd : decode cc pc = .ok (.if_icmp .le off, 3)) (ht : (pc : Int) + off = (tgt : Int))
    (kt : x ≤ y → sl_A cl L D cA g A p l e R s m args below meth c Q nL tgt lv st M) (kf : ¬ x ≤ y → sl_A cl L D cA g A p l e R s m args below meth c Q nL (pc + 3) lv st M) : sl_A cl L D cA g A p l e R s m args below meth c Q nL pc lv (.int y :: .int x :: st) M :=
  fun H locs ls hW hl => lv_icmp_le C.1 C.2.1 hd ht (fun q => kt q H locs ls hW hl) (fun q => kf q H locs ls hW hl)
theorem sa_goto (C : sl_C own cc nL ret cl L D cA g A z p s m meth c) {off : Int} {tgt : Nat} (hd : decode cc pc = .ok (.goto off, 3)) (ht : (pc : Int) + off = (tgt : Int)) (k : sl_A cl L D cA g A p l e R s m args below meth c Q nL tgt lv st M) : sl_A cl L D cA g A p l e R s m args below meth c Q nL pc lv st M :=
  fun H locs ls hW hl => lv_goto C.1 C.2.1 hd ht (k H locs ls hW hl)
theorem sa_swIn (C : sl_C own cc nL ret cl L D cA g A z p s m meth c) {x k : Int32} {dflt lo hi : Int} {offs : Array Int} {len : Nat} {off : Int} {tgt : Nat} (hd : decode cc pc = .ok (.tableswitch dflt lo hi offs, len)) (hx : x = k) (hk : ¬ k.toInt < lo ∧ ¬ hi < k.toInt ∧ offs[(k.toInt - lo).toNat]? = some off) (ht : (pc : Int) + off = (tgt : Int)) (kk : sl_A cl L D cA g A p l e R s m args below meth c Q nL tgt lv st M) : sl_A cl L D cA g A p l e R s m args below meth c Q nL pc lv (.int x :: st) M := by
  subst hx
  exact fun H locs ls hW hl => lv_tableIn C.1 C.2.1 hd hk.1 hk.2.1 hk.2.2 ht (kk H locs ls hW hl)
theorem sa_swOut (C : sl_C own cc nL ret cl L D cA g A z p s m meth c) {x : Int32} {dflt lo hi : Int} {offs : Array Int} {len : Nat} {tgt : Nat} (hd : decode cc pc = .ok (.tableswitch dflt lo hi offs, len)) (hx : x.toInt < lo ∨ hi < x.toInt) (ht : (pc : Int) + dflt = (tgt : Int)) (kk : sl_A cl L D cA g A p l e R s m args below meth c Q nL tgt lv st M) : sl_A cl L D cA g A p l e R s m args below meth c Q nL pc lv (.int x :: st) M :=
  fun H locs ls hW hl => lv_tableOut C.1 C.2.1 hd hx ht (kk H locs ls hW hl)
theorem sa_sub (ks : List Nat) {lv2 : List (Nat × Value)} (h : lv_pick lv ks = lv2) (k : sl_A cl L D cA g A p l e R s m args below meth c Q nL pc lv2 st M) : sl_A cl L D cA g A p l e R s m args below meth c Q nL pc lv st M :=
  fun H locs ls hW hl => k H locs ls hW (lv_sub hl ks h)
theorem sa_pc {pc2 : Nat} (h : pc = pc2) (k : sl_A cl L D cA g A p l e R s m args below meth c Q nL pc2 lv st M) : sl_A cl L D cA g A p l e R s m args below meth c Q nL pc lv st M := h ▸ k
theorem sa_ldc (C : sl_C own cc nL ret cl L D cA g A z p s m meth c) {index : Nat} {v : Int32} (hd : decode cc pc = .ok (.ldc index, 2)) (hw : Cond.constant own index v ∈ lw_tbl) (k : sl_A cl L D cA g A p l e R s m args below meth c Q nL (pc + 2) lv (.int v :: st) M) : sl_A cl L D cA g A p l e R s m args below meth c Q nL pc lv st M :=
  fun H locs ls hW hl => lv_ldc C.1 C.2.1 C.2.2.2.1 (C.2.2.2.2.2.2.2.2.1.1 _ hw rfl _) hd (k H locs ls hW hl)
theorem sa_ldcw (C : sl_C own cc nL ret cl L D cA g A z p s m meth c) {index : Nat} {v : Int32} (hd : decode cc pc = .ok (.ldc_w index, 3)) (hw : Cond.constant own index v ∈ lw_tbl) (k : sl_A cl L D cA g A p l e R s m args below meth c Q nL (pc + 3) lv (.int v :: st) M) : sl_A cl L D cA g A p l e R s m args below meth c Q nL pc lv st M :=
  fun H locs ls hW hl => lv_ldcw C.1 C.2.1 C.2.2.2.1 (C.2.2.2.2.2.2.2.2.1.1 _ hw rfl _) hd (k H locs ls hW hl)
theorem sa_ldc2 (C : sl_C own cc nL ret cl L D cA g A z p s m meth c) {index : Nat} {v : Int64} (hd : decode cc pc = .ok (.ldc2_w index, 3)) (hw : Cond.constantLong own index v ∈ lw_tbl) (k : sl_A cl L D cA g A p l e R s m args below meth c Q nL (pc + 3) lv (.long v :: st) M) : sl_A cl L D cA g A p l e R s m args below meth c Q nL pc lv st M :=
  fun H locs ls hW hl => lv_ldc2 C.1 C.2.1 C.2.2.2.1 (C.2.2.2.2.2.2.2.2.1.1 _ hw rfl _) hd (k H locs ls hW hl)
/-- what is said of a class's fields -/
def sl_H (cl : List vw_C) (ci : Nat) (Cn : String) (T : u_T) (N : Nat) (ty : Nat → FieldType) : Prop := cl[ci]? = some (Cn, T, N) ∧ (∀ w ∈ u_ws Cn T N, w ∈ lw_tbl) ∧ (∀ w ∈ u_ws Cn T N, goodWord w = true) ∧ (∀ k, k < N → parseFieldDescriptor (T k).2.2.1 = some (ty k)) ∧ (∀ a, a < N → ∀ b, b < N → a ≠ b → (T a).2.1 ≠ (T b).2.1)
theorem sa_hts (C : sl_C own cc nL ret cl L D cA g A z p s m meth c) {Cn : String} {T : u_T} {N ci : Nat} {ty : Nat → FieldType} (hH : sl_H cl ci Cn T N ty) : ∀ w ∈ u_ws Cn T N, w.before args s = true := fun w hw => C.2.2.2.2.2.2.2.2.1.1 w (hH.2.1 w hw) (hH.2.2.1 w hw) args
theorem sa_getI (C : sl_C own cc nL ret cl L D cA g A z p s m meth c) {index ci N : Nat} {Cn : String} {T : u_T} {ty : Nat → FieldType} {r : Nat} {fs : List (Option Nat)} {k : Nat} (hH : sl_H cl ci Cn T N ty) (hd : decode cc pc = .ok (.getfield index, 3)) (hw : Cond.fieldLink own index (T k).1 (T k).2.1 (T k).2.2.1 ∈ lw_tbl) (hk : k < N) (hr : L[r]? = some (.inr (ci, fs))) (hf : fs[k]? = some none)
    (kk : sl_A cl L D cA g A p l e R s m args below meth c Q nL (pc + 3) lv (.int (M r k) :: st) M) : sl_A cl L D cA g A p l e R s m args below meth c Q nL pc lv (.ref (g r) :: st) M :=
  fun H locs ls hW hl => va_get C.1 C.2.1 (sa_hts (args := args) C hH) (fun _ h => h) C.2.2.2.1 C.2.2.2.2.2.2.1 hW.1 r (sl_w_get hr) hH.1 k hk (C.2.2.2.2.2.2.2.2.1.1 _ hw rfl _) (fun _ h => h) (by rw [sl_f_get, hf, Nat.zero_add]; rfl) hd (kk H locs ls hW hl)
theorem sa_getR (C : sl_C own cc nL ret cl L D cA g A z p s m meth c) {index ci N : Nat} {Cn : String} {T : u_T} {ty : Nat → FieldType} {r r2 : Nat} {fs : List (Option Nat)} {k : Nat} (hH : sl_H cl ci Cn T N ty) (hd : decode cc pc = .ok (.getfield index, 3)) (hw : Cond.fieldLink own index (T k).1 (T k).2.1 (T k).2.2.1 ∈ lw_tbl) (hk : k < N) (hr : L[r]? = some (.inr (ci, fs))) (hf : fs[k]? = some (some r2))
    (kk : sl_A cl L D cA g A p l e R s m args below meth c Q nL (pc + 3) lv (.ref (g r2) :: st) M) : sl_A cl L D cA g A p l e R s m args below meth c Q nL pc lv (.ref (g r) :: st) M :=
  fun H locs ls hW hl => va_get C.1 C.2.1 (sa_hts (args := args) C hH) (fun _ h => h) C.2.2.2.1 C.2.2.2.2.2.2.1 hW.1 r (sl_w_get hr) hH.1 k hk (C.2.2.2.2.2.2.2.2.1.1 _ hw rfl _) (fun _ h => h) (by rw [sl_f_get, hf, Nat.zero_add]; rfl) hd (kk H locs ls hW hl)
theorem sa_getIN (C : sl_C own cc nL ret cl L D cA g A z p s m meth c) {index ci N : Nat} {Cn host : String} {T : u_T} {ty : Nat → FieldType} {r : Nat} {fs : List (Option Nat)} {k : Nat} (hH : sl_H cl ci Cn T N ty) (hd : decode cc pc = .ok (.getfield index, 3)) (hw : Cond.fieldLinkNest own index (T k).1 (T k).2.1 (T k).2.2.1 host ∈ lw_tbl) (hk : k < N) (hr : L[r]? = some (.inr (ci, fs))) (hf : fs[k]? = some none)
    (kk : sl_A cl L D cA g A p l e R s m args below meth c Q nL (pc + 3) lv (.int (M r k) :: st) M) : sl_A cl L D cA g A p l e R s m args below meth c Q nL pc lv (.ref (g r) :: st) M :=
  fun H locs ls hW hl => va_getN C.1 C.2.1 (sa_hts (args := args) C hH) (fun _ h => h) C.2.2.2.1 C.2.2.2.2.2.2.1 hW.1 r (sl_w_get hr) hH.1 k hk (va_Nw.use rfl (C.2.2.2.2.2.2.2.2.1.2.1 _ _ _ _ _ _ hw)) (fun _ h => h) (by rw [sl_f_get, hf, Nat.zero_add]; rfl) hd (kk H locs ls hW hl)
theorem sa_getRN (C : sl_C own cc nL ret cl L D cA g A z p s m meth c) {index ci N : Nat} {Cn host : String} {T : u_T} {ty : Nat → FieldType} {r r2 : Nat} {fs : List (Option Nat)} {k : Nat} (hH : sl_H cl ci Cn T N ty) (hd : decode cc pc = .ok (.getfield index, 3)) (hw : Cond.fieldLinkNest own index (T k).1 (T k).2.1 (T k).2.2.1 host ∈ lw_tbl) (hk : k < N) (hr : L[r]? = some (.inr (ci, fs))) (hf : fs[k]? = some (some r2))
    (kk : sl_A cl L D cA g A p l e R s m args below meth c Q nL (pc + 3) lv (.ref (g r2) :: st) M) : sl_A cl L D cA g A p l e R s m args below meth c Q nL pc lv (.ref (g r) :: st) M :=
  fun H locs ls hW hl => va_getN C.1 C.2.1 (sa_hts (args := args) C hH) (fun _ h => h) C.2.2.2.1 C.2.2.2.2.2.2.1 hW.1 r (sl_w_get hr) hH.1 k hk (va_Nw.use rfl (C.2.2.2.2.2.2.2.2.1.2.1 _ _ _ _ _ _ hw)) (fun _ h => h) (by rw [sl_f_get, hf, Nat.zero_add]; rfl) hd (kk H locs ls hW hl)
theorem sl_setO {r ci : Nat} {fs : List (Option Nat)} {k : Nat} {v : Int32} (hr : L[r]? = some (.inr (ci, fs))) (hf : fs[k]? = some none) : (sl_w L cA g M).set r (g r, .inr (ci, (sl_f g (M r) 0 fs).set k (.int v))) = sl_w L cA g (sl_up M r k v) := by
  rw [sl_f_set hf, ← sl_w_set (cA := cA) (g := g) hr (sl_up_o (M := M) (i := k) (v := v)), sl_up_s]
  rfl
theorem sl_setA {r n : Nat} {f : Nat → Int32} {M2 : sl_M} (hr : L[r]? = some (.inl n)) (h1 : M2 r = f) (h2 : ∀ r', r' ≠ r → M2 r' = M r') : (sl_w L cA g M).set r (g r, .inl (cA, n, .inl f)) = sl_w L cA g M2 := by
  rw [← sl_w_set (cA := cA) (g := g) hr h2, h1]
  rfl
theorem sa_put (C : sl_C own cc nL ret cl L D cA g A z p s m meth c) {index ci N : Nat} {Cn : String} {T : u_T} {ty : Nat → FieldType} {r : Nat} {fs : List (Option Nat)} {k : Nat} {v : Int32} {fty : FieldType} (hH : sl_H cl ci Cn T N ty) (hd : decode cc pc = .ok (.putfield index, 3)) (hw : Cond.fieldLink own index (T k).1 (T k).2.1 (T k).2.2.1 ∈ lw_tbl) (hk : k < N) (hfin : (T k).2.2.2 = false) (hty : parseFieldDescriptor (T k).2.2.1 = some fty) (hn : narrow fty (.int v) = .int v) (hfit : fits fty (.int v) = true) (hr : L[r]? = some (.inr (ci, fs))) (hf : fs[k]? = some none)
    (kk : sl_A cl L D cA g A p l e R s m args below meth c Q nL (pc + 3) lv st (sl_up M r k v)) : sl_A cl L D cA g A p l e R s m args below meth c Q nL pc lv (.int v :: .ref (g r) :: st) M :=
  fun H locs ls hW hl => va_put C.1 C.2.1 (sa_hts (args := args) C hH) (fun _ h => h) ty hH.2.2.2.1 hH.2.2.2.2 C.2.2.2.1 C.2.2.2.2.2.2.1 hW.1 C.2.2.2.2.2.2.2.1.d hW.2 r (sl_w_get hr) hH.1 k hk (C.2.2.2.2.2.2.2.2.1.1 _ hw rfl _) (fun _ h => h) hfin hty hn hfit (by rw [sl_f_len]; exact (List.getElem?_eq_some_iff.mp hf).1) hd (fun H1 locs1 hP hD hS => kk H1 locs1 ls ⟨by rw [← sl_setO hr hf]; exact hP, hS⟩ hl)
theorem sa_putN (C : sl_C own cc nL ret cl L D cA g A z p s m meth c) {index ci N : Nat} {Cn host : String} {T : u_T} {ty : Nat → FieldType} {r : Nat} {fs : List (Option Nat)} {k : Nat} {v : Int32} {fty : FieldType} (hH : sl_H cl ci Cn T N ty) (hd : decode cc pc = .ok (.putfield index, 3)) (hw : Cond.fieldLinkNest own index (T k).1 (T k).2.1 (T k).2.2.1 host ∈ lw_tbl) (hk : k < N) (hfin : (T k).2.2.2 = false) (hty : parseFieldDescriptor (T k).2.2.1 = some fty) (hn : narrow fty (.int v) = .int v) (hfit : fits fty (.int v) = true) (hr : L[r]? = some (.inr (ci, fs))) (hf : fs[k]? = some none)
    (kk : sl_A cl L D cA g A p l e R s m args below meth c Q nL (pc + 3) lv st (sl_up M r k v)) : sl_A cl L D cA g A p l e R s m args below meth c Q nL pc lv (.int v :: .ref (g r) :: st) M :=
  fun H locs ls hW hl => va_putN C.1 C.2.1 (sa_hts (args := args) C hH) (fun _ h => h) ty hH.2.2.2.1 hH.2.2.2.2 C.2.2.2.1 C.2.2.2.2.2.2.1 hW.1 C.2.2.2.2.2.2.2.1.d hW.2 r (sl_w_get hr) hH.1 k hk (va_Nw.use rfl (C.2.2.2.2.2.2.2.2.1.2.1 _ _ _ _ _ _ hw)) (fun _ h => h) hfin hty hn hfit (by rw [sl_f_len]; exact (List.getElem?_eq_some_iff.mp hf).1) hd (fun H1 locs1 hP hD hS => kk H1 locs1 ls ⟨by rw [← sl_setO hr hf]; exact hP, hS⟩ hl)
theorem sa_iald (C : sl_C own cc nL ret cl L D cA g A z p s m meth c) {r n : Nat} {i v : Int32} (hd : decode cc pc = .ok (.iaload, 1)) (hr : L[r]? = some (.inl n)) (h : sl_ld (M r) n i = some v)
    (kk : sl_A cl L D cA g A p l e R s m args below meth c Q nL (pc + 1) lv (.int v :: st) M) : sl_A cl L D cA g A p l e R s m args below meth c Q nL pc lv (.int i :: .ref (g r) :: st) M := by
  obtain ⟨h1, rfl⟩ := sl_ld_s h
  exact fun H locs ls hW hl => va_iald C.1 C.2.1 C.2.2.2.2.2.2.1 hW.1 r 0 (sl_w_get hr) rfl h1 hd (kk H locs ls hW hl)
theorem sa_iast (C : sl_C own cc nL ret cl L D cA g A z p s m meth c) {r n : Nat} {i v : Int32} {M2 : sl_M} (hd : decode cc pc = .ok (.iastore, 1)) (hr : L[r]? = some (.inl n)) (h : sl_st M r n i v = some M2)
    (kk : sl_A cl L D cA g A p l e R s m args below meth c Q nL (pc + 1) lv st M2) : sl_A cl L D cA g A p l e R s m args below meth c Q nL pc lv (.int v :: .int i :: .ref (g r) :: st) M := by
  obtain ⟨h1, rfl⟩ := sl_st_s h
  exact fun H locs ls hW hl => va_iast C.1 C.2.1 C.2.2.2.2.2.2.1 hW.1 C.2.2.2.2.2.2.2.1.d hW.2 r 0 (sl_w_get hr) rfl h1 hd (fun H1 locs1 hP hD hS => kk H1 locs1 ls ⟨by rw [← sl_setA hr sl_up_s sl_up_o]; exact hP, hS⟩ hl)
theorem sa_alen (C : sl_C own cc nL ret cl L D cA g A z p s m meth c) {r n : Nat} {v : Int32} (hd : decode cc pc = .ok (.arraylength, 1)) (hr : L[r]? = some (.inl n)) (hv : Int32.ofNat n = v)
    (kk : sl_A cl L D cA g A p l e R s m args below meth c Q nL (pc + 1) lv (.int v :: st) M) : sl_A cl L D cA g A p l e R s m args below meth c Q nL pc lv (.ref (g r) :: st) M :=
  fun H locs ls hW hl => va_alen C.1 C.2.1 C.2.2.2.2.2.2.1 hW.1 r 0 (sl_w_get hr) rfl hv hd (kk H locs ls hW hl)
/-- a call, behind its run -/
theorem sa_call {rv : Option Value} {M2 : sl_M} {rest : List Value} {st0 : List Value} {a : Array Value} (hr : ∀ (H : Heap) (locs : List Loc) (ls : Array Slot), sl_W cl L D cA g A s M H locs → lv_has ls nL lv → va_Run p l e R s m args below meth c H locs 0 0 0 0 (F0 m pc ls st0) rest (sl_Q cl L D cA g A rv M2 a) A)
    (kk : sl_A cl L D cA g A p l e R s m args below meth c Q nL (pc + 3) lv (rv.toList ++ rest) M2) : sl_A cl L D cA g A p l e R s m args below meth c Q nL pc lv st0 M := by
  intro H locs ls hW hl T hT X
  obtain ⟨v, st₀, t, T', Lc, h0, X', hL, e1, e2, ⟨hv, hP, hz, hk⟩, st⟩ := hr H locs ls hW hl T hT X
  cases hv
  rw [h0] at hz hk
  obtain ⟨t2, a1, b1⟩ := kk T'.heap (locs ++ Lc) ls ⟨by rw [e1]; exact hP, Nat.le_trans hW.2.1 (by rw [e1]; exact hz), fun q h1 h2 => by rw [e1, hk q (Nat.lt_of_lt_of_le h1 hW.2.1) h2]; exact hW.2.2.1 q h1 h2, fun q hq => by
      rcases List.mem_append.mp hq with h | h
      · exact hW.2.2.2 q h
      · exact hL q h⟩ hl T' rfl X'
  exact ⟨t2, st t2 a1, b1⟩
theorem sl_blind {av : List Value} : FrameBlind (va_Pc av (sl_P cl L D cA g A z M)) := by
  intro a U gg mk h
  obtain ⟨h1, h2, h3, h4, h5, h6⟩ := h
  have hW : U.WarmedH (U.calling gg mk a).vm := State.WarmedH.refl U
  exact ⟨h1, h2, va_K.moved (Vm.Alike.refl U.vm) h3, h4, h5.warm hW, h6.go hW (fun _ _ _ => rfl)⟩
theorem sl_pre (C : sl_C own cc nL ret cl L D cA g A z p s m meth c) {H : Heap} {locs : List Loc} (hW : sl_W cl L D cA g A s M H locs) {av : List Value} : ∀ U : State, U.heap = H → s.WarmedH U.vm → va_Pc av (sl_P cl L D cA g A z M) av.toArray U := by
  intro U hU hv
  refine ⟨rfl, by rw [hU]; exact hW.1, va_K.moved hv.alike C.2.2.2.2.2.2.1, C.2.2.2.2.2.2.2.1, C.2.2.2.2.2.2.2.2.1.warm hv, C.2.2.2.2.2.2.2.2.2.go hv (fun a h1 h2 => by rw [hU]; exact hW.2.2.1 a h1 h2)⟩
/-- what the tables say of a method that is called -/
def sl_Y (y : MethodName) (cy : ByteArray) (n nP : Nat) (rt : Option FieldType) : Prop := Cond.code y cy n rt ∈ lw_tbl ∧ Cond.initialized y.cls ∈ lw_tbl ∧ (y.cls ≠ "java/lang/invoke/MethodHandle" ∧ y.cls ≠ "java/lang/invoke/VarHandle") ∧ (parseMethodDescriptor y.desc).map (fun d => d.parameters.length) = some nP
theorem sl_Y.n {y : MethodName} {cy : ByteArray} {n nP : Nat} {rt : Option FieldType} (h : sl_Y y cy n nP rt) : ∀ sig, parseMethodDescriptor y.desc = some sig → nP = sig.parameters.length := fun sig hs => by
  have h2 := h.2.2.2
  rw [hs] at h2
  exact (Option.some.inj h2).symm
theorem sl_codes (C : sl_C own cc nL ret cl L D cA g A z p s m meth c) {y : MethodName} {cy : ByteArray} {n nP : Nat} {rt : Option FieldType} (h : sl_Y y cy n nP rt) : ∀ w ∈ [Cond.code y cy n rt], ∀ (a' : Array Value) (U : State), s.WarmedH U.vm → w.before a' U = true := by
  intro w hw a' U hU
  rw [List.mem_singleton.mp hw]
  exact (C.2.2.2.2.2.2.2.2.1.warm hU).1 _ h.1 rfl a'
theorem sa_invS (C : sl_C own cc nL ret cl L D cA g A z p s m meth c) {index : Nat} {y : MethodName} {cy : ByteArray} {n nP fr lo : Nat} {rt : Option FieldType} {rv : Option Value} {M2 : sl_M} {As rest : List Value} (hY : sl_Y y cy n nP rt) (hs : Cond.static y ∈ lw_tbl) (hw : Cond.methodLink own index y ∈ lw_tbl) (hd : decode cc pc = .ok (.invokestatic index, 3)) (hn : As.length = nP) (hR : fr + 1 ≤ R.frames ∧ 8 + (n + 11) + lo ≤ R.locals) (hc : (rest.map fun v => v.category).sum ≤ 8)
    (hM : sl_N cl L D cA g A z l y cy n rt fr lo As M rv M2) (hst : st = As.reverse ++ rest) (kk : sl_A cl L D cA g A p l e R s m args below meth c Q nL (pc + 3) lv (rv.toList ++ rest) M2) : sl_A cl L D cA g A p l e R s m args below meth c Q nL pc lv st M := by
  subst hst
  refine sa_call (fun H locs ls hW hl => va_runS (Ts := []) ⟨C.1, C.2.1, C.2.2.1, C.2.2.2.1, fun _ h => by cases h⟩ hM ⟨⟨rfl, rfl, hR.1, hR.2, sl_codes C hY, List.mem_singleton.mpr rfl, C.2.2.2.2.2.2.2.2.1.1 _ hY.1 rfl _, C.2.2.2.2.2.2.2.2.1.1 _ hY.2.1 rfl _, hY.2.2.1, hY.n, C.2.2.2.2.2.2.2.2.1.1 _ hw rfl _⟩, C.2.2.2.2.2.2.2.2.1.1 _ hs rfl _⟩ ⟨sl_blind, sl_pre C hW⟩ rfl hn hl.1 rfl (lv_room hc) hd ⟨Nat.zero_le _, Nat.zero_le _⟩) kk
theorem sa_invSN (C : sl_C own cc nL ret cl L D cA g A z p s m meth c) {index : Nat} {y : MethodName} {cy : ByteArray} {n nP fr lo : Nat} {rt : Option FieldType} {rv : Option Value} {M2 : sl_M} {As rest : List Value} {host : String} (hY : sl_Y y cy n nP rt) (hs : Cond.static y ∈ lw_tbl) (hw : Cond.methodLinkNest own index y host ∈ lw_tbl) (hd : decode cc pc = .ok (.invokestatic index, 3)) (hn : As.length = nP) (hR : fr + 1 ≤ R.frames ∧ 8 + (n + 11) + lo ≤ R.locals) (hc : (rest.map fun v => v.category).sum ≤ 8)
    (hM : sl_N cl L D cA g A z l y cy n rt fr lo As M rv M2) (hst : st = As.reverse ++ rest) (kk : sl_A cl L D cA g A p l e R s m args below meth c Q nL (pc + 3) lv (rv.toList ++ rest) M2) : sl_A cl L D cA g A p l e R s m args below meth c Q nL pc lv st M := by
  subst hst
  refine sa_call (fun H locs ls hW hl => va_runSN (Ts := []) ⟨C.1, C.2.1, C.2.2.1, C.2.2.2.1, fun _ h => by cases h⟩ hM ⟨⟨⟨rfl, rfl, hR.1, hR.2, sl_codes C hY, List.mem_singleton.mpr rfl⟩, C.2.2.2.2.2.2.2.2.1.1 _ hY.1 rfl _, C.2.2.2.2.2.2.2.2.1.1 _ hY.2.1 rfl _, hY.2.2.1, hY.n, va_Nw.use rfl (C.2.2.2.2.2.2.2.2.1.2.2 _ _ _ _ hw)⟩, C.2.2.2.2.2.2.2.2.1.1 _ hs rfl _, trivial⟩ ⟨sl_blind, sl_pre C hW⟩ rfl hn hl.1 rfl (lv_room hc) hd ⟨Nat.zero_le _, Nat.zero_le _⟩) kk
theorem sa_invV (C : sl_C own cc nL ret cl L D cA g A z p s m meth c) {index : Nat} {y : MethodName} {cy : ByteArray} {n nP fr lo : Nat} {rt : Option FieldType} {rv : Option Value} {M2 : sl_M} {As rest : List Value} {ci N r : Nat} {Cn : String} {T : u_T} {ty : Nat → FieldType} {fs : List (Option Nat)} (hY : sl_Y y cy n nP rt) (hs : Cond.instanceMethod y ∈ lw_tbl ∧ Cond.selects Cn y y ∈ lw_tbl) (hw : Cond.methodLink own index y ∈ lw_tbl) (hd : decode cc pc = .ok (.invokevirtual index, 3)) (hn : As.length = nP) (hR : fr + 1 ≤ R.frames ∧ 8 + (n + 11) + lo ≤ R.locals) (hc : (rest.map fun v => v.category).sum ≤ 8)
    (hH : sl_H cl ci Cn T N ty) (hr : L[r]? = some (.inr (ci, fs))) (hM : sl_N cl L D cA g A z l y cy n rt fr lo (.ref (g r) :: As) M rv M2) (hst : st = As.reverse ++ .ref (g r) :: rest) (kk : sl_A cl L D cA g A p l e R s m args below meth c Q nL (pc + 3) lv (rv.toList ++ rest) M2) : sl_A cl L D cA g A p l e R s m args below meth c Q nL pc lv st M := by
  subst hst
  refine sa_call (fun H locs ls hW hl => va_runV (Ts := []) (C := Cn) ⟨C.1, C.2.1, C.2.2.1, C.2.2.2.1, fun _ h => by cases h⟩ hM ⟨⟨rfl, rfl, hR.1, hR.2, sl_codes C hY, List.mem_singleton.mpr rfl, C.2.2.2.2.2.2.2.2.1.1 _ hY.1 rfl _, C.2.2.2.2.2.2.2.2.1.1 _ hY.2.1 rfl _, hY.2.2.1, hY.n, C.2.2.2.2.2.2.2.2.1.1 _ hw rfl _⟩, C.2.2.2.2.2.2.2.2.1.1 _ hs.1 rfl _, C.2.2.2.2.2.2.2.2.1.1 _ hs.2 rfl _⟩ ⟨sl_blind, va_recv C.2.2.2.2.2.2.1 hW.1 hH.1 (sl_w_get hr), sl_pre C hW⟩ rfl hn hl.1 rfl (lv_room hc) hd ⟨Nat.zero_le _, Nat.zero_le _⟩) kk
theorem sa_invVN (C : sl_C own cc nL ret cl L D cA g A z p s m meth c) {index : Nat} {y : MethodName} {cy : ByteArray} {n nP fr lo : Nat} {rt : Option FieldType} {rv : Option Value} {M2 : sl_M} {As rest : List Value} {ci N r : Nat} {Cn host : String} {T : u_T} {ty : Nat → FieldType} {fs : List (Option Nat)} (hY : sl_Y y cy n nP rt) (hs : Cond.instanceMethod y ∈ lw_tbl ∧ Cond.selects Cn y y ∈ lw_tbl) (hw : Cond.methodLinkNest own index y host ∈ lw_tbl) (hd : decode cc pc = .ok (.invokevirtual index, 3)) (hn : As.length = nP) (hR : fr + 1 ≤ R.frames ∧ 8 + (n + 11) + lo ≤ R.locals) (hc : (rest.map fun v => v.category).sum ≤ 8)
    (hH : sl_H cl ci Cn T N ty) (hr : L[r]? = some (.inr (ci, fs))) (hM : sl_N cl L D cA g A z l y cy n rt fr lo (.ref (g r) :: As) M rv M2) (hst : st = As.reverse ++ .ref (g r) :: rest) (kk : sl_A cl L D cA g A p l e R s m args below meth c Q nL (pc + 3) lv (rv.toList ++ rest) M2) : sl_A cl L D cA g A p l e R s m args below meth c Q nL pc lv st M := by
  subst hst
  refine sa_call (fun H locs ls hW hl => va_runVN (Ts := []) (C := Cn) ⟨C.1, C.2.1, C.2.2.1, C.2.2.2.1, fun _ h => by cases h⟩ hM ⟨⟨⟨rfl, rfl, hR.1, hR.2, sl_codes C hY, List.mem_singleton.mpr rfl⟩, C.2.2.2.2.2.2.2.2.1.1 _ hY.1 rfl _, C.2.2.2.2.2.2.2.2.1.1 _ hY.2.1 rfl _, hY.2.2.1, hY.n, va_Nw.use rfl (C.2.2.2.2.2.2.2.2.1.2.2 _ _ _ _ hw)⟩, C.2.2.2.2.2.2.2.2.1.1 _ hs.1 rfl _, C.2.2.2.2.2.2.2.2.1.1 _ hs.2 rfl _⟩ ⟨sl_blind, va_recv C.2.2.2.2.2.2.1 hW.1 hH.1 (sl_w_get hr), sl_pre C hW⟩ rfl hn hl.1 rfl (lv_room hc) hd ⟨Nat.zero_le _, Nat.zero_le _⟩) kk
end SLR
section SLE
variable {cl : List vw_C} {L : List sl_E} {D : va_G} {cA : ClassId} {g : Nat → Nat} {A : Nat → Prop} {z : sl_K}
variable {p : Program} {l : Launch} {e : Env} {R : Room} {s : State} {m : MethodId} {args : Array Value} {below : List Frame} {meth : Method} {c : Code}
variable {own : String} {cc : ByteArray} {nL pc : Nat} {ret : Option FieldType} {lv : List (Nat × Value)} {st : List Value} {M : sl_M}
theorem sa_iret (C : sl_C own cc nL (some .int) cl L D cA g A z p s m meth c) {x r : Int32} {M2 : sl_M} (hd : decode cc pc = .ok (.ireturn, 1)) (h : x = r) (hM : M = M2) : sl_A cl L D cA g A p l e R s m args below meth c (MQ below (sl_Q cl L D cA g A (some (.int r)) M2) args s 0 0 A) nL pc lv [.int x] M := by
  subst h; subst hM
  exact fun H locs ls hW hl => W.iret C.1 C.2.1 C.2.2.2.2.1 (fun t ht hw => ⟨rfl, by rw [ht]; exact hW.1, hW.2.F ht⟩) hW.2.2.2 hd C.2.2.2.2.2.1
theorem sa_zret (C : sl_C own cc nL (some .boolean) cl L D cA g A z p s m meth c) {x r : Int32} {M2 : sl_M} (hd : decode cc pc = .ok (.ireturn, 1)) (hx : x = 0 ∨ x = 1) (h : x = r) (hM : M = M2) : sl_A cl L D cA g A p l e R s m args below meth c (MQ below (sl_Q cl L D cA g A (some (.int r)) M2) args s 0 0 A) nL pc lv [.int x] M := by
  subst h; subst hM
  exact fun H locs ls hW hl => W.zret C.1 C.2.1 C.2.2.2.2.1 (by rcases hx with rfl | rfl <;> rfl) (fun t ht hw => ⟨rfl, by rw [ht]; exact hW.1, hW.2.F ht⟩) hW.2.2.2 hd C.2.2.2.2.2.1
theorem sa_lret (C : sl_C own cc nL (some .long) cl L D cA g A z p s m meth c) {x r : Int64} {M2 : sl_M} (hd : decode cc pc = .ok (.lreturn, 1)) (h : x = r) (hM : M = M2) : sl_A cl L D cA g A p l e R s m args below meth c (MQ below (sl_Q cl L D cA g A (some (.long r)) M2) args s 0 0 A) nL pc lv [.long x] M := by
  subst h; subst hM
  exact fun H locs ls hW hl => W.lret C.1 C.2.1 C.2.2.2.2.1 (fun t ht hw => ⟨rfl, by rw [ht]; exact hW.1, hW.2.F ht⟩) hW.2.2.2 hd C.2.2.2.2.2.1
theorem sa_vret (C : sl_C own cc nL none cl L D cA g A z p s m meth c) {M2 : sl_M} (hd : decode cc pc = .ok (.return_, 1)) (hM : M = M2) : sl_A cl L D cA g A p l e R s m args below meth c (MQ below (sl_Q cl L D cA g A none M2) args s 0 0 A) nL pc lv [] M := by
  subst hM
  exact fun H locs ls hW hl => W.vret C.1 C.2.1 C.2.2.2.2.1 (fun t ht hw => ⟨rfl, by rw [ht]; exact hW.1, hW.2.F ht⟩) hW.2.2.2 hd C.2.2.2.2.2.1
/-- a contract out of a walk from the entry -/
theorem sl_N.of {y : MethodName} {fr lo : Nat} {as : List Value} {rv : Option Value} {M2 : sl_M} {lv0 : List (Nat × Value)} (hy : plainName y.cls = true) (hn : (lg_sl as).length ≤ nL) (hlv : lv_args 0 as = lv0)
    (k : ∀ (p : Program) (e : Env) (s : State) (m : MethodId) (args : Array Value) (below : List Frame) (meth : Method) (c : Code), sl_C y.cls cc nL ret cl L D cA g A z p s m meth c → sl_A cl L D cA g A p l e { frames := fr, cells := 0, slots := 0, locals := lo } s m args below meth c (MQ below (sl_Q cl L D cA g A rv M2) args s 0 0 A) nL 0 lv0 [] M) : sl_N cl L D cA g A z l y cc nL ret fr lo as M rv M2 := by
  refine Met.ofW (cc := cc) (maxL := nL) (ret := ret) hy rfl ?_
  intro p e s m args below meth c s₁ B hml hv
  obtain ⟨rfl, hP, hK, hD, hT, hZ⟩ := hv
  have hl := lv_entry as hn
  rw [lg_entry_eq]
  rw [hlv] at hl
  exact k p e s m _ below meth c ⟨B.exec, B.bytes, hml, findClass_of_methodNamed B.named, B.returns, B.notSynchronized, hK, hD, hT, hZ⟩ s.heap [] _ ⟨hP, va_S.rf⟩ hl
end SLE
end
