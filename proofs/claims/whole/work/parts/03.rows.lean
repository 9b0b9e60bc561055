section SLR
variable {cl : List vw_C} {L : List sl_E} {D : va_G} {cA : ClassId} {g : Nat → Nat} {A : Nat → Prop} {z : sl_K}
variable {p : Program} {l : Launch} {e : Env} {R : Room} {s : State} {m : MethodId} {args : Array Value} {below : List Frame} {meth : Method} {c : Code} {Q : State → Prop}
variable {own : String} {cc : ByteArray} {nL pc : Nat} {ret : Option FieldType} {lv : List (Nat × Value)} {st : List Value} {M : sl_M}
theorem sa_iconst (C : sl_C own cc nL ret cl L D cA g A z p s m meth c) {n : Int} {v : Int32} (hd : decode cc pc = .ok (.iconst n, 1)) (hv : Int32.ofInt n = v)
    (k : sl_A cl L D cA g A p l e R s m args below meth c Q nL (pc + 1) lv (.int v :: st) M) : sl_A cl L D cA g A p l e R s m args below meth c Q nL pc lv (st) M :=
  fun H locs ls hW hl => lv_iconst C.1 C.2.1 hd hv (k H locs ls hW hl)
theorem sa_bipush (C : sl_C own cc nL ret cl L D cA g A z p s m meth c) {n : Int} {v : Int32} (hd : decode cc pc = .ok (.bipush n, 2)) (hv : (Int8.ofInt n).toInt32 = v)
    (k : sl_A cl L D cA g A p l e R s m args below meth c Q nL (pc + 2) lv (.int v :: st) M) : sl_A cl L D cA g A p l e R s m args below meth c Q nL pc lv (st) M :=
  fun H locs ls hW hl => lv_bipush C.1 C.2.1 hd hv (k H locs ls hW hl)
theorem sa_sipush (C : sl_C own cc nL ret cl L D cA g A z p s m meth c) {n : Int} {v : Int32} (hd : decode cc pc = .ok (.sipush n, 3)) (hv : (Int16.ofInt n).toInt32 = v)
    (k : sl_A cl L D cA g A p l e R s m args below meth c Q nL (pc + 3) lv (.int v :: st) M) : sl_A cl L D cA g A p l e R s m args below meth c Q nL pc lv (st) M :=
  fun H locs ls hW hl => lv_sipush C.1 C.2.1 hd hv (k H locs ls hW hl)
theorem sa_lconst (C : sl_C own cc nL ret cl L D cA g A z p s m meth c) {n : Fin 2} {v : Int64} (hd : decode cc pc = .ok (.lconst n, 1)) (hv : Int64.ofNat (n : Nat) = v)
    (k : sl_A cl L D cA g A p l e R s m args below meth c Q nL (pc + 1) lv (.long v :: st) M) : sl_A cl L D cA g A p l e R s m args below meth c Q nL pc lv (st) M :=
  fun H locs ls hW hl => lv_lconst C.1 C.2.1 hd hv (k H locs ls hW hl)
theorem sa_iload_n (C : sl_C own cc nL ret cl L D cA g A z p s m meth c) {k : Fin 4} {i : Nat} {x : Int32} (hd : decode cc pc = .ok (.iload_n k, 1)) (hi : (k : Nat) = i) (j : Nat) (hj : lv[j]? = some (i, .int x))
    (k : sl_A cl L D cA g A p l e R s m args below meth c Q nL (pc + 1) lv (.int x :: st) M) : sl_A cl L D cA g A p l e R s m args below meth c Q nL pc lv (st) M :=
  fun H locs ls hW hl => lv_iload_n C.1 C.2.1 hd hi (lv_at hl j hj) (k H locs ls hW hl)
theorem sa_iload (C : sl_C own cc nL ret cl L D cA g A z p s m meth c) {i : Nat} {x : Int32} (hd : decode cc pc = .ok (.iload i, 2)) (j : Nat) (hj : lv[j]? = some (i, .int x))
    (k : sl_A cl L D cA g A p l e R s m args below meth c Q nL (pc + 2) lv (.int x :: st) M) : sl_A cl L D cA g A p l e R s m args below meth c Q nL pc lv (st) M :=
  fun H locs ls hW hl => lv_iload C.1 C.2.1 hd (lv_at hl j hj) (k H locs ls hW hl)
theorem sa_lload_n (C : sl_C own cc nL ret cl L D cA g A z p s m meth c) {k : Fin 4} {i : Nat} {x : Int64} (hd : decode cc pc = .ok (.lload_n k, 1)) (hi : (k : Nat) = i) (j : Nat) (hj : lv[j]? = some (i, .long x))
    (k : sl_A cl L D cA g A p l e R s m args below meth c Q nL (pc + 1) lv (.long x :: st) M) : sl_A cl L D cA g A p l e R s m args below meth c Q nL pc lv (st) M :=
  fun H locs ls hW hl => lv_lload_n C.1 C.2.1 hd hi (lv_at hl j hj) (k H locs ls hW hl)
theorem sa_lload (C : sl_C own cc nL ret cl L D cA g A z p s m meth c) {i : Nat} {x : Int64} (hd : decode cc pc = .ok (.lload i, 2)) (j : Nat) (hj : lv[j]? = some (i, .long x))
    (k : sl_A cl L D cA g A p l e R s m args below meth c Q nL (pc + 2) lv (.long x :: st) M) : sl_A cl L D cA g A p l e R s m args below meth c Q nL pc lv (st) M :=
  fun H locs ls hW hl => lv_lload C.1 C.2.1 hd (lv_at hl j hj) (k H locs ls hW hl)
theorem sa_aload_n (C : sl_C own cc nL ret cl L D cA g A z p s m meth c) {k : Fin 4} {i : Nat} {x : Nat} (hd : decode cc pc = .ok (.aload_n k, 1)) (hi : (k : Nat) = i) (j : Nat) (hj : lv[j]? = some (i, .ref x))
    (k : sl_A cl L D cA g A p l e R s m args below meth c Q nL (pc + 1) lv (.ref x :: st) M) : sl_A cl L D cA g A p l e R s m args below meth c Q nL pc lv (st) M :=
  fun H locs ls hW hl => lv_aload_n C.1 C.2.1 hd hi (lv_at hl j hj) (k H locs ls hW hl)
theorem sa_aload (C : sl_C own cc nL ret cl L D cA g A z p s m meth c) {i : Nat} {x : Nat} (hd : decode cc pc = .ok (.aload i, 2)) (j : Nat) (hj : lv[j]? = some (i, .ref x))
    (k : sl_A cl L D cA g A p l e R s m args below meth c Q nL (pc + 2) lv (.ref x :: st) M) : sl_A cl L D cA g A p l e R s m args below meth c Q nL pc lv (st) M :=
  fun H locs ls hW hl => lv_aload C.1 C.2.1 hd (lv_at hl j hj) (k H locs ls hW hl)
theorem sa_istore_n (C : sl_C own cc nL ret cl L D cA g A z p s m meth c) {k : Fin 4} {i : Nat} {x : Int32} {lv2 : List (Nat × Value)} (hd : decode cc pc = .ok (.istore_n k, 1)) (hi : (k : Nat) = i) (hn : i < nL) (hl2 : (i, Value.int x) :: lv.filter (fun q => !(q.1 == i) && !(q.1 + 1 == i && q.2.category == 2)) = lv2)
    (k : sl_A cl L D cA g A p l e R s m args below meth c Q nL (pc + 1) lv2 st M) : sl_A cl L D cA g A p l e R s m args below meth c Q nL pc lv (.int x :: st) M :=
  fun H locs ls hW hl => lv_istore_n C.1 C.2.1 hd hi hl hn hl2 (fun ls2 h2 => k H locs ls2 hW h2)
theorem sa_istore (C : sl_C own cc nL ret cl L D cA g A z p s m meth c) {i : Nat} {x : Int32} {lv2 : List (Nat × Value)} (hd : decode cc pc = .ok (.istore i, 2))  (hn : i < nL) (hl2 : (i, Value.int x) :: lv.filter (fun q => !(q.1 == i) && !(q.1 + 1 == i && q.2.category == 2)) = lv2)
    (k : sl_A cl L D cA g A p l e R s m args below meth c Q nL (pc + 2) lv2 st M) : sl_A cl L D cA g A p l e R s m args below meth c Q nL pc lv (.int x :: st) M :=
  fun H locs ls hW hl => lv_istore C.1 C.2.1 hd  hl hn hl2 (fun ls2 h2 => k H locs ls2 hW h2)
theorem sa_lstore_n (C : sl_C own cc nL ret cl L D cA g A z p s m meth c) {k : Fin 4} {i : Nat} {x : Int64} {lv2 : List (Nat × Value)} (hd : decode cc pc = .ok (.lstore_n k, 1)) (hi : (k : Nat) = i) (hn : i + 1 < nL) (hl2 : (i, Value.long x) :: lv.filter (fun q => !(q.1 == i) && (!(q.1 == i + 1) && !(q.1 + 1 == i && q.2.category == 2))) = lv2)
    (k : sl_A cl L D cA g A p l e R s m args below meth c Q nL (pc + 1) lv2 st M) : sl_A cl L D cA g A p l e R s m args below meth c Q nL pc lv (.long x :: st) M :=
  fun H locs ls hW hl => lv_lstore_n C.1 C.2.1 hd hi hl hn hl2 (fun ls2 h2 => k H locs ls2 hW h2)
theorem sa_lstore (C : sl_C own cc nL ret cl L D cA g A z p s m meth c) {i : Nat} {x : Int64} {lv2 : List (Nat × Value)} (hd : decode cc pc = .ok (.lstore i, 2))  (hn : i + 1 < nL) (hl2 : (i, Value.long x) :: lv.filter (fun q => !(q.1 == i) && (!(q.1 == i + 1) && !(q.1 + 1 == i && q.2.category == 2))) = lv2)
    (k : sl_A cl L D cA g A p l e R s m args below meth c Q nL (pc + 2) lv2 st M) : sl_A cl L D cA g A p l e R s m args below meth c Q nL pc lv (.long x :: st) M :=
  fun H locs ls hW hl => lv_lstore C.1 C.2.1 hd  hl hn hl2 (fun ls2 h2 => k H locs ls2 hW h2)
theorem sa_iinc (C : sl_C own cc nL ret cl L D cA g A z p s m meth c) {i : Nat} {n : Int} {x v : Int32} {lv2 : List (Nat × Value)} (hd : decode cc pc = .ok (.iinc i n, 3)) (j : Nat) (hj : lv[j]? = some (i, .int x)) (hv : x + Int32.ofInt n = v) (hn : i < nL) (hl2 : (i, Value.int v) :: lv.filter (fun q => !(q.1 == i) && !(q.1 + 1 == i && q.2.category == 2)) = lv2)
    (k : sl_A cl L D cA g A p l e R s m args below meth c Q nL (pc + 3) lv2 st M) : sl_A cl L D cA g A p l e R s m args below meth c Q nL pc lv st M :=
  fun H locs ls hW hl => lv_iinc C.1 C.2.1 hd hl hj hv hn hl2 (fun ls2 h2 => k H locs ls2 hW h2)
theorem sa_iadd (C : sl_C own cc nL ret cl L D cA g A z p s m meth c) {x y : Int32} (hd : decode cc pc = .ok (.iadd, 1)) 
    (k : sl_A cl L D cA g A p l e R s m args below meth c Q nL (pc + 1) lv (.int (x + y) :: st) M) : sl_A cl L D cA g A p l e R s m args below meth c Q nL pc lv (.int y :: .int x :: st) M :=
  fun H locs ls hW hl => lv_iadd C.1 C.2.1 hd  (k H locs ls hW hl)
theorem sa_isub (C : sl_C own cc nL ret cl L D cA g A z p s m meth c) {x y : Int32} (hd : decode cc pc = .ok (.isub, 1)) 
    (k : sl_A cl L D cA g A p l e R s m args below meth c Q nL (pc + 1) lv (.int (x - y) :: st) M) : sl_A cl L D cA g A p l e R s m args below meth c Q nL pc lv (.int y :: .int x :: st) M :=
  fun H locs ls hW hl => lv_isub C.1 C.2.1 hd  (k H locs ls hW hl)
theorem sa_imul (C : sl_C own cc nL ret cl L D cA g A z p s m meth c) {x y : Int32} (hd : decode cc pc = .ok (.imul, 1)) 
    (k : sl_A cl L D cA g A p l e R s m args below meth c Q nL (pc + 1) lv (.int (x * y) :: st) M) : sl_A cl L D cA g A p l e R s m args below meth c Q nL pc lv (.int y :: .int x :: st) M :=
  fun H locs ls hW hl => lv_imul C.1 C.2.1 hd  (k H locs ls hW hl)
theorem sa_iand (C : sl_C own cc nL ret cl L D cA g A z p s m meth c) {x y : Int32} (hd : decode cc pc = .ok (.iand, 1)) 
    (k : sl_A cl L D cA g A p l e R s m args below meth c Q nL (pc + 1) lv (.int (x &&& y) :: st) M) : sl_A cl L D cA g A p l e R s m args below meth c Q nL pc lv (.int y :: .int x :: st) M :=
  fun H locs ls hW hl => lv_iand C.1 C.2.1 hd  (k H locs ls hW hl)
theorem sa_ior (C : sl_C own cc nL ret cl L D cA g A z p s m meth c) {x y : Int32} (hd : decode cc pc = .ok (.ior, 1)) 
    (k : sl_A cl L D cA g A p l e R s m args below meth c Q nL (pc + 1) lv (.int (x ||| y) :: st) M) : sl_A cl L D cA g A p l e R s m args below meth c Q nL pc lv (.int y :: .int x :: st) M :=
  fun H locs ls hW hl => lv_ior C.1 C.2.1 hd  (k H locs ls hW hl)
theorem sa_ixor (C : sl_C own cc nL ret cl L D cA g A z p s m meth c) {x y : Int32} (hd : decode cc pc = .ok (.ixor, 1)) 
    (k : sl_A cl L D cA g A p l e R s m args below meth c Q nL (pc + 1) lv (.int (x ^^^ y) :: st) M) : sl_A cl L D cA g A p l e R s m args below meth c Q nL pc lv (.int y :: .int x :: st) M :=
  fun H locs ls hW hl => lv_ixor C.1 C.2.1 hd  (k H locs ls hW hl)
theorem sa_ishl (C : sl_C own cc nL ret cl L D cA g A z p s m meth c) {x y : Int32} (hd : decode cc pc = .ok (.ishl, 1)) 
    (k : sl_A cl L D cA g A p l e R s m args below meth c Q nL (pc + 1) lv (.int (x <<< (y &&& 31)) :: st) M) : sl_A cl L D cA g A p l e R s m args below meth c Q nL pc lv (.int y :: .int x :: st) M :=
  fun H locs ls hW hl => lv_ishl C.1 C.2.1 hd  (k H locs ls hW hl)
theorem sa_ishr (C : sl_C own cc nL ret cl L D cA g A z p s m meth c) {x y : Int32} (hd : decode cc pc = .ok (.ishr, 1)) 
    (k : sl_A cl L D cA g A p l e R s m args below meth c Q nL (pc + 1) lv (.int (x >>> (y &&& 31)) :: st) M) : sl_A cl L D cA g A p l e R s m args below meth c Q nL pc lv (.int y :: .int x :: st) M :=
  fun H locs ls hW hl => lv_ishr C.1 C.2.1 hd  (k H locs ls hW hl)
theorem sa_iushr (C : sl_C own cc nL ret cl L D cA g A z p s m meth c) {x y : Int32} (hd : decode cc pc = .ok (.iushr, 1))
    (k : sl_A cl L D cA g A p l e R s m args below meth c Q nL (pc + 1) lv (.int (x.toUInt32 >>> (y.toUInt32 &&& Int32.toUInt32 31)).toInt32 :: st) M) : sl_A cl L D cA g A p l e R s m args below meth c Q nL pc lv (.int y :: .int x :: st) M :=
  fun H locs ls hW hl => lv_iushr C.1 C.2.1 hd rfl (k H locs ls hW hl)
theorem sa_ineg (C : sl_C own cc nL ret cl L D cA g A z p s m meth c) {x : Int32} (hd : decode cc pc = .ok (.ineg, 1))
    (k : sl_A cl L D cA g A p l e R s m args below meth c Q nL (pc + 1) lv (.int (-x) :: st) M) : sl_A cl L D cA g A p l e R s m args below meth c Q nL pc lv (.int x :: st) M :=
  fun H locs ls hW hl => lv_ineg C.1 C.2.1 hd (k H locs ls hW hl)
theorem sa_idiv (C : sl_C own cc nL ret cl L D cA g A z p s m meth c) {x y v : Int32} (hd : decode cc pc = .ok (.idiv, 1)) (h : sl_dv x y = some v)
    (k : sl_A cl L D cA g A p l e R s m args below meth c Q nL (pc + 1) lv (.int v :: st) M) : sl_A cl L D cA g A p l e R s m args below meth c Q nL pc lv (.int y :: .int x :: st) M :=
  fun H locs ls hW hl => by
  unfold sl_dv at h
  by_cases hc : y = 0
  · rw [if_pos hc] at h; cases h
  · rw [if_neg hc] at h; obtain rfl := Option.some.inj h; exact lv_idiv C.1 C.2.1 hd hc (k H locs ls hW hl)
theorem sa_irem (C : sl_C own cc nL ret cl L D cA g A z p s m meth c) {x y v : Int32} (hd : decode cc pc = .ok (.irem, 1)) (h : sl_rm x y = some v)
    (k : sl_A cl L D cA g A p l e R s m args below meth c Q nL (pc + 1) lv (.int v :: st) M) : sl_A cl L D cA g A p l e R s m args below meth c Q nL pc lv (.int y :: .int x :: st) M :=
  fun H locs ls hW hl => by
  unfold sl_rm at h
  by_cases hc : y = 0
  · rw [if_pos hc] at h; cases h
  · rw [if_neg hc] at h; obtain rfl := Option.some.inj h; exact lv_irem C.1 C.2.1 hd hc (k H locs ls hW hl)
theorem sa_idivc (C : sl_C own cc nL ret cl L D cA g A z p s m meth c) {x y : Int32} (hd : decode cc pc = .ok (.idiv, 1)) (hc : ¬ y = 0)
    (k : sl_A cl L D cA g A p l e R s m args below meth c Q nL (pc + 1) lv (.int (x / y) :: st) M) : sl_A cl L D cA g A p l e R s m args below meth c Q nL pc lv (.int y :: .int x :: st) M :=
  fun H locs ls hW hl => lv_idiv C.1 C.2.1 hd hc (k H locs ls hW hl)
theorem sa_iremc (C : sl_C own cc nL ret cl L D cA g A z p s m meth c) {x y : Int32} (hd : decode cc pc = .ok (.irem, 1)) (hc : ¬ y = 0)
    (k : sl_A cl L D cA g A p l e R s m args below meth c Q nL (pc + 1) lv (.int (x - x / y * y) :: st) M) : sl_A cl L D cA g A p l e R s m args below meth c Q nL pc lv (.int y :: .int x :: st) M :=
  fun H locs ls hW hl => lv_irem C.1 C.2.1 hd hc (k H locs ls hW hl)
theorem sa_i2l (C : sl_C own cc nL ret cl L D cA g A z p s m meth c) {x : Int32} (hd : decode cc pc = .ok (.i2l, 1))
    (k : sl_A cl L D cA g A p l e R s m args below meth c Q nL (pc + 1) lv (.long x.toInt64 :: st) M) : sl_A cl L D cA g A p l e R s m args below meth c Q nL pc lv (.int x :: st) M :=
  fun H locs ls hW hl => lv_i2l C.1 C.2.1 hd rfl (k H locs ls hW hl)
theorem sa_i2b (C : sl_C own cc nL ret cl L D cA g A z p s m meth c) {x : Int32} (hd : decode cc pc = .ok (.i2b, 1))
    (k : sl_A cl L D cA g A p l e R s m args below meth c Q nL (pc + 1) lv (.int x.toInt8.toInt32 :: st) M) : sl_A cl L D cA g A p l e R s m args below meth c Q nL pc lv (.int x :: st) M :=
  fun H locs ls hW hl => lv_i2b C.1 C.2.1 hd rfl (k H locs ls hW hl)
theorem sa_i2s (C : sl_C own cc nL ret cl L D cA g A z p s m meth c) {x : Int32} (hd : decode cc pc = .ok (.i2s, 1))
    (k : sl_A cl L D cA g A p l e R s m args below meth c Q nL (pc + 1) lv (.int x.toInt16.toInt32 :: st) M) : sl_A cl L D cA g A p l e R s m args below meth c Q nL pc lv (.int x :: st) M :=
  fun H locs ls hW hl => lv_i2s C.1 C.2.1 hd rfl (k H locs ls hW hl)
theorem sa_i2c (C : sl_C own cc nL ret cl L D cA g A z p s m meth c) {x : Int32} (hd : decode cc pc = .ok (.i2c, 1))
    (k : sl_A cl L D cA g A p l e R s m args below meth c Q nL (pc + 1) lv (.int (x.toUInt32 % 65536).toInt32 :: st) M) : sl_A cl L D cA g A p l e R s m args below meth c Q nL pc lv (.int x :: st) M :=
  fun H locs ls hW hl => lv_i2c C.1 C.2.1 hd rfl (k H locs ls hW hl)
theorem sa_ladd (C : sl_C own cc nL ret cl L D cA g A z p s m meth c) {x y : Int64} (hd : decode cc pc = .ok (.ladd, 1)) 
    (k : sl_A cl L D cA g A p l e R s m args below meth c Q nL (pc + 1) lv (.long (x + y) :: st) M) : sl_A cl L D cA g A p l e R s m args below meth c Q nL pc lv (.long y :: .long x :: st) M :=
  fun H locs ls hW hl => lv_ladd C.1 C.2.1 hd  (k H locs ls hW hl)
theorem sa_lmul (C : sl_C own cc nL ret cl L D cA g A z p s m meth c) {x y : Int64} (hd : decode cc pc = .ok (.lmul, 1)) 
    (k : sl_A cl L D cA g A p l e R s m args below meth c Q nL (pc + 1) lv (.long (x * y) :: st) M) : sl_A cl L D cA g A p l e R s m args below meth c Q nL pc lv (.long y :: .long x :: st) M :=
  fun H locs ls hW hl => lv_lmul C.1 C.2.1 hd  (k H locs ls hW hl)
theorem sa_lcmp (C : sl_C own cc nL ret cl L D cA g A z p s m meth c) {x y : Int64} (hd : decode cc pc = .ok (.lcmp, 1))
    (k : sl_A cl L D cA g A p l e R s m args below meth c Q nL (pc + 1) lv (.int (lg_cmp x y) :: st) M) : sl_A cl L D cA g A p l e R s m args below meth c Q nL pc lv (.long y :: .long x :: st) M :=
  fun H locs ls hW hl => W.lcmp C.1 C.2.1 hd (k H locs ls hW hl)
theorem sa_dup (C : sl_C own cc nL ret cl L D cA g A z p s m meth c) {va : Value} (hd : decode cc pc = .ok (.dup, 1)) (hv : va.category = 1)
    (k : sl_A cl L D cA g A p l e R s m args below meth c Q nL (pc + 1) lv (va :: va :: st) M) : sl_A cl L D cA g A p l e R s m args below meth c Q nL pc lv (va :: st) M :=
  fun H locs ls hW hl => lv_dup C.1 C.2.1 hd hv (k H locs ls hW hl)
theorem sa_pop (C : sl_C own cc nL ret cl L D cA g A z p s m meth c) {va : Value} (hd : decode cc pc = .ok (.pop, 1)) (hv : va.category = 1)
    (k : sl_A cl L D cA g A p l e R s m args below meth c Q nL (pc + 1) lv (st) M) : sl_A cl L D cA g A p l e R s m args below meth c Q nL pc lv (va :: st) M :=
  fun H locs ls hW hl => lv_pop C.1 C.2.1 hd hv (k H locs ls hW hl)
theorem sa_dup2 (C : sl_C own cc nL ret cl L D cA g A z p s m meth c) {va vb : Value} (hd : decode cc pc = .ok (.dup2, 1)) (hv : va.category = 1) (hw : vb.category = 1)
    (k : sl_A cl L D cA g A p l e R s m args below meth c Q nL (pc + 1) lv (va :: vb :: va :: vb :: st) M) : sl_A cl L D cA g A p l e R s m args below meth c Q nL pc lv (va :: vb :: st) M :=
  fun H locs ls hW hl => lv_dup2_11 C.1 C.2.1 hd hv hw (k H locs ls hW hl)
theorem sa_if_eq (C : sl_C own cc nL ret cl L D cA g A z p s m meth c) {x : Int32} {off : Int} {tgt : Nat} (hd : decode cc pc = .ok (.ifCond .eq off, 3)) (ht : (pc : Int) + off = (tgt : Int))
    (kt : x = 0 → sl_A cl L D cA g A p l e R s m args below meth c Q nL tgt lv st M) (kf : ¬ x = 0 → sl_A cl L D cA g A p l e R s m args below meth c Q nL (pc + 3) lv st M) : sl_A cl L D cA g A p l e R s m args below meth c Q nL pc lv (.int x :: st) M :=
  fun H locs ls hW hl => lv_if_eq C.1 C.2.1 hd ht (fun q => kt q H locs ls hW hl) (fun q => kf q H locs ls hW hl)
theorem sa_icmp_eq (C : sl_C own cc nL ret cl L D cA g A z p s m meth c) {x y : Int32} {off : Int} {tgt : Nat} (hd : decode cc pc = .ok (.if_icmp .eq off, 3)) (ht : (pc : Int) + off = (tgt : Int))
    (kt : x = y → sl_A cl L D cA g A p l e R s m args below meth c Q nL tgt lv st M) (kf : ¬ x = y → sl_A cl L D cA g A p l e R s m args below meth c Q nL (pc + 3) lv st M) : sl_A cl L D cA g A p l e R s m args below meth c Q nL pc lv (.int y :: .int x :: st) M :=
  fun H locs ls hW hl => lv_icmp_eq C.1 C.2.1 hd ht (fun q => kt q H locs ls hW hl) (fun q => kf q H locs ls hW hl)
theorem sa_if_ne (C : sl_C own cc nL ret cl L D cA g A z p s m meth c) {x : Int32} {off : Int} {tgt : Nat} (hd : decode cc pc = .ok (.ifCond .ne off, 3)) (ht : (pc : Int) + off = (tgt : Int))
    (kt : ¬ x = 0 → sl_A cl L D cA g A p l e R s m args below meth c Q nL tgt lv st M) (kf : x = 0 → sl_A cl L D cA g A p l e R s m args below meth c Q nL (pc + 3) lv st M) : sl_A cl L D cA g A p l e R s m args below meth c Q nL pc lv (.int x :: st) M :=
  fun H locs ls hW hl => lv_if_ne C.1 C.2.1 hd ht (fun q => kt q H locs ls hW hl) (fun q => kf q H locs ls hW hl)
theorem sa_icmp_ne (C : sl_C own cc nL ret cl L D cA g A z p s m meth c) {x y : Int32} {off : Int} {tgt : Nat} (hd : decode cc pc = .ok (.if_icmp .ne off, 3)) (ht : (pc : Int) + off = (tgt : Int))
    (kt : ¬ x = y → sl_A cl L D cA g A p l e R s m args below meth c Q nL tgt lv st M) (kf : x = y → sl_A cl L D cA g A p l e R s m args below meth c Q nL (pc + 3) lv st M) : sl_A cl L D cA g A p l e R s m args below meth c Q nL pc lv (.int y :: .int x :: st) M :=
  fun H locs ls hW hl => lv_icmp_ne C.1 C.2.1 hd ht (fun q => kt q H locs ls hW hl) (fun q => kf q H locs ls hW hl)
theorem sa_if_lt (C : sl_C own cc nL ret cl L D cA g A z p s m meth c) {x : Int32} {off : Int} {tgt : Nat} (hd : decode cc pc = .ok (.ifCond .lt off, 3)) (ht : (pc : Int) + off = (tgt : Int))
    (kt : x < 0 → sl_A cl L D cA g A p l e R s m args below meth c Q nL tgt lv st M) (kf : ¬ x < 0 → sl_A cl L D cA g A p l e R s m args below meth c Q nL (pc + 3) lv st M) : sl_A cl L D cA g A p l e R s m args below meth c Q nL pc lv (.int x :: st) M :=
  fun H locs ls hW hl => lv_if_lt C.1 C.2.1 hd ht (fun q => kt q H locs ls hW hl) (fun q => kf q H locs ls hW hl)
theorem sa_icmp_lt (C : sl_C own cc nL ret cl L D cA g A z p s m meth c) {x y : Int32} {off : Int} {tgt : Nat} (hd : decode cc pc = .ok (.if_icmp .lt off, 3)) (ht : (pc : Int) + off = (tgt : Int))
    (kt : x < y → sl_A cl L D cA g A p l e R s m args below meth c Q nL tgt lv st M) (kf : ¬ x < y → sl_A cl L D cA g A p l e R s m args below meth c Q nL (pc + 3) lv st M) : sl_A cl L D cA g A p l e R s m args below meth c Q nL pc lv (.int y :: .int x :: st) M :=
  fun H locs ls hW hl => lv_icmp_lt C.1 C.2.1 hd ht (fun q => kt q H locs ls hW hl) (fun q => kf q H locs ls hW hl)
theorem sa_if_ge (C : sl_C own cc nL ret cl L D cA g A z p s m meth c) {x : Int32} {off : Int} {tgt : Nat} (hd : decode cc pc = .ok (.ifCond .ge off, 3)) (ht : (pc : Int) + off = (tgt : Int))
    (kt : 0 ≤ x → sl_A cl L D cA g A p l e R s m args below meth c Q nL tgt lv st M) (kf : ¬ 0 ≤ x → sl_A cl L D cA g A p l e R s m args below meth c Q nL (pc + 3) lv st M) : sl_A cl L D cA g A p l e R s m args below meth c Q nL pc lv (.int x :: st) M :=
  fun H locs ls hW hl => lv_if_ge C.1 C.2.1 hd ht (fun q => kt q H locs ls hW hl) (fun q => kf q H locs ls hW hl)
theorem sa_icmp_ge (C : sl_C own cc nL ret cl L D cA g A z p s m meth c) {x y : Int32} {off : Int} {tgt : Nat} (hd : decode cc pc = .ok (.if_icmp .ge off, 3)) (ht : (pc : Int) + off = (tgt : Int))
    (kt : y ≤ x → sl_A cl L D cA g A p l e R s m args below meth c Q nL tgt lv st M) (kf : ¬ y ≤ x → sl_A cl L D cA g A p l e R s m args below meth c Q nL (pc + 3) lv st M) : sl_A cl L D cA g A p l e R s m args below meth c Q nL pc lv (.int y :: .int x :: st) M :=
  fun H locs ls hW hl => lv_icmp_ge C.1 C.2.1 hd ht (fun q => kt q H locs ls hW hl) (fun q => kf q H locs ls hW hl)
theorem sa_if_gt (C : sl_C own cc nL ret cl L D cA g A z p s m meth c) {x : Int32} {off : Int} {tgt : Nat} (hd : decode cc pc = .ok (.ifCond .gt off, 3)) (ht : (pc : Int) + off = (tgt : Int))
    (kt : 0 < x → sl_A cl L D cA g A p l e R s m args below meth c Q nL tgt lv st M) (kf : ¬ 0 < x → sl_A cl L D cA g A p l e R s m args below meth c Q nL (pc + 3) lv st M) : sl_A cl L D cA g A p l e R s m args below meth c Q nL pc lv (.int x :: st) M :=
  fun H locs ls hW hl => lv_if_gt C.1 C.2.1 hd ht (fun q => kt q H locs ls hW hl) (fun q => kf q H locs ls hW hl)
theorem sa_icmp_gt (C : sl_C own cc nL ret cl L D cA g A z p s m meth c) {x y : Int32} {off : Int} {tgt : Nat} (hd : decode cc pc = .ok (.if_icmp .gt off, 3)) (ht : (pc : Int) + off = (tgt : Int))
    (kt : y < x → sl_A cl L D cA g A p l e R s m args below meth c Q nL tgt lv st M) (kf : ¬ y < x → sl_A cl L D cA g A p l e R s m args below meth c Q nL (pc + 3) lv st M) : sl_A cl L D cA g A p l e R s m args below meth c Q nL pc lv (.int y :: .int x :: st) M :=
  fun H locs ls hW hl => lv_icmp_gt C.1 C.2.1 hd ht (fun q => kt q H locs ls hW hl) (fun q => kf q H locs ls hW hl)
theorem sa_if_le (C : sl_C own cc nL ret cl L D cA g A z p s m meth c) {x : Int32} {off : Int} {tgt : Nat} (hd : decode cc pc = .ok (.ifCond .le off, 3)) (ht : (pc : Int) + off = (tgt : Int))
    (kt : x ≤ 0 → sl_A cl L D cA g A p l e R s m args below meth c Q nL tgt lv st M) (kf : ¬ x ≤ 0 → sl_A cl L D cA g A p l e R s m args below meth c Q nL (pc + 3) lv st M) : sl_A cl L D cA g A p l e R s m args below meth c Q nL pc lv (.int x :: st) M :=
  fun H locs ls hW hl => lv_if_le C.1 C.2.1 hd ht (fun q => kt q H locs ls hW hl) (fun q => kf q H locs ls hW hl)
theorem sa_icmp_le (C : sl_C own cc nL ret cl L D cA g A z p s m meth c) {x y : Int32} {off : Int} {tgt : Nat} (hd : decode cc pc = .ok (.if_icmp .le off, 3)) (ht : (pc : Int) + off = (tgt : Int))
    (kt : x ≤ y → sl_A cl L D cA g A p l e R s m args below meth c Q nL tgt lv st M) (kf : ¬ x ≤ y → sl_A cl L D cA g A p l e R s m args below meth c Q nL (pc + 3) lv st M) : sl_A cl L D cA g A p l e R s m args below meth c Q nL pc lv (.int y :: .int x :: st) M :=
  fun H locs ls hW hl => lv_icmp_le C.1 C.2.1 hd ht (fun q => kt q H locs ls hW hl) (fun q => kf q H locs ls hW hl)
theorem sa_goto (C : sl_C own cc nL ret cl L D cA g A z p s m meth c) {off : Int} {tgt : Nat} (hd : decode cc pc = .ok (.goto off, 3)) (ht : (pc : Int) + off = (tgt : Int)) (k : sl_A cl L D cA g A p l e R s m args below meth c Q nL tgt lv st M) : sl_A cl L D cA g A p l e R s m args below meth c Q nL pc lv st M :=
  fun H locs ls hW hl => lv_goto C.1 C.2.1 hd ht (k H locs ls hW hl)
theorem sa_swIn (C : sl_C own cc nL ret cl L D cA g A z p s m meth c) {x k : Int32} {dflt lo hi : Int} {offs : Array Int} {len : Nat} {off : Int} {tgt : Nat} (hd : decode cc pc = .ok (.tableswitch dflt lo hi offs, len)) (hx : x = k) (hk : ¬ k.toInt < lo ∧ ¬ hi < k.toInt ∧ offs[(k.toInt - lo).toNat]? = some off) (ht : (pc : Int) + off = (tgt : Int)) (kk : sl_A cl L D cA g A p l e R s m args below meth c Q nL tgt lv st M) : sl_A cl L D cA g A p l e R s m args below meth c Q nL pc lv (.int x :: st) M := by
  subst hx
  exact fun H locs ls hW hl => lv_tableIn C.1 C.2.1 hd hk.1 hk.2.1 hk.2.2 ht (kk H locs ls hW hl)
theorem sa_swOut (C : sl_C own cc nL ret cl L D cA g A z p s m meth c) {x : Int32} {dflt lo hi : Int} {offs : Array Int} {len : Nat} {tgt : Nat} (hd : decode cc pc = .ok (.tableswitch dflt lo hi offs, len)) (hx : x.toInt < lo ∨ hi < x.toInt) (ht : (pc : Int) + dflt = (tgt : Int)) (kk : sl_A cl L D cA g A p l e R s m args below meth c Q nL tgt lv st M) : sl_A cl L D cA g A p l e R s m args below meth c Q nL pc lv (.int x :: st) M :=
  fun H locs ls hW hl => lv_tableOut C.1 C.2.1 hd hx ht (kk H locs ls hW hl)
theorem sa_sub (ks : List Nat) {lv2 : List (Nat × Value)} (h : lv_pick lv ks = lv2) (k : sl_A cl L D cA g A p l e R s m args below meth c Q nL pc lv2 st M) : sl_A cl L D cA g A p l e R s m args below meth c Q nL pc lv st M :=
  fun H locs ls hW hl => k H locs ls hW (lv_sub hl ks h)
theorem sa_pc {pc2 : Nat} (h : pc = pc2) (k : sl_A cl L D cA g A p l e R s m args below meth c Q nL pc2 lv st M) : sl_A cl L D cA g A p l e R s m args below meth c Q nL pc lv st M := h ▸ k
theorem sa_ldc (C : sl_C own cc nL ret cl L D cA g A z p s m meth c) {index : Nat} {v : Int32} (hd : decode cc pc = .ok (.ldc index, 2)) (hw : Cond.constant own index v ∈ lw_tbl) (k : sl_A cl L D cA g A p l e R s m args below meth c Q nL (pc + 2) lv (.int v :: st) M) : sl_A cl L D cA g A p l e R s m args below meth c Q nL pc lv st M :=
  fun H locs ls hW hl => lv_ldc C.1 C.2.1 C.2.2.2.1 (C.2.2.2.2.2.2.2.2.1.1 _ hw rfl _) hd (k H locs ls hW hl)
theorem sa_ldcw (C : sl_C own cc nL ret cl L D cA g A z p s m meth c) {index : Nat} {v : Int32} (hd : decode cc pc = .ok (.ldc_w index, 3)) (hw : Cond.constant own index v ∈ lw_tbl) (k : sl_A cl L D cA g A p l e R s m args below meth c Q nL (pc + 3) lv (.int v :: st) M) : sl_A cl L D cA g A p l e R s m args below meth c Q nL pc lv st M :=
  fun H locs ls hW hl => lv_ldcw C.1 C.2.1 C.2.2.2.1 (C.2.2.2.2.2.2.2.2.1.1 _ hw rfl _) hd (k H locs ls hW hl)
theorem sa_ldc2 (C : sl_C own cc nL ret cl L D cA g A z p s m meth c) {index : Nat} {v : Int64} (hd : decode cc pc = .ok (.ldc2_w index, 3)) (hw : Cond.constantLong own index v ∈ lw_tbl) (k : sl_A cl L D cA g A p l e R s m args below meth c Q nL (pc + 3) lv (.long v :: st) M) : sl_A cl L D cA g A p l e R s m args below meth c Q nL pc lv st M :=
  fun H locs ls hW hl => lv_ldc2 C.1 C.2.1 C.2.2.2.1 (C.2.2.2.2.2.2.2.2.1.1 _ hw rfl _) hd (k H locs ls hW hl)
/-- what is said of a class's fields -/
def sl_H (cl : List vw_C) (ci : Nat) (Cn : String) (T : u_T) (N : Nat) (ty : Nat → FieldType) : Prop := cl[ci]? = some (Cn, T, N) ∧ (∀ w ∈ u_ws Cn T N, w ∈ lw_tbl) ∧ (∀ w ∈ u_ws Cn T N, goodWord w = true) ∧ (∀ k, k < N → parseFieldDescriptor (T k).2.2.1 = some (ty k)) ∧ (∀ a, a < N → ∀ b, b < N → a ≠ b → (T a).2.1 ≠ (T b).2.1)
theorem sa_hts (C : sl_C own cc nL ret cl L D cA g A z p s m meth c) {Cn : String} {T : u_T} {N ci : Nat} {ty : Nat → FieldType} (hH : sl_H cl ci Cn T N ty) : ∀ w ∈ u_ws Cn T N, w.before args s = true := fun w hw => C.2.2.2.2.2.2.2.2.1.1 w (hH.2.1 w hw) (hH.2.2.1 w hw) args
theorem sa_getI (C : sl_C own cc nL ret cl L D cA g A z p s m meth c) {index ci N : Nat} {Cn : String} {T : u_T} {ty : Nat → FieldType} {r : Nat} {fs : List (Option Nat)} {k : Nat} (hH : sl_H cl ci Cn T N ty) (hd : decode cc pc = .ok (.getfield index, 3)) (hw : Cond.fieldLink own index (T k).1 (T k).2.1 (T k).2.2.1 ∈ lw_tbl) (hk : k < N) (hr : L[r]? = some (.inr (ci, fs))) (hf : fs[k]? = some none)
    (kk : sl_A cl L D cA g A p l e R s m args below meth c Q nL (pc + 3) lv (.int (M r k) :: st) M) : sl_A cl L D cA g A p l e R s m args below meth c Q nL pc lv (.ref (g r) :: st) M :=
  fun H locs ls hW hl => va_get C.1 C.2.1 (sa_hts (args := args) C hH) (fun _ h => h) C.2.2.2.1 C.2.2.2.2.2.2.1 hW.1 r (sl_w_get hr) hH.1 k hk (C.2.2.2.2.2.2.2.2.1.1 _ hw rfl _) (fun _ h => h) (by rw [sl_f_get, hf, Nat.zero_add]; rfl) hd (kk H locs ls hW hl)
theorem sa_getR (C : sl_C own cc nL ret cl L D cA g A z p s m meth c) {index ci N : Nat} {Cn : String} {T : u_T} {ty : Nat → FieldType} {r r2 : Nat} {fs : List (Option Nat)} {k : Nat} (hH : sl_H cl ci Cn T N ty) (hd : decode cc pc = .ok (.getfield index, 3)) (hw : Cond.fieldLink own index (T k).1 (T k).2.1 (T k).2.2.1 ∈ lw_tbl) (hk : k < N) (hr : L[r]? = some (.inr (ci, fs))) (hf : fs[k]? = some (some r2))
    (kk : sl_A cl L D cA g A p l e R s m args below meth c Q nL (pc + 3) lv (.ref (g r2) :: st) M) : sl_A cl L D cA g A p l e R s m args below meth c Q nL pc lv (.ref (g r) :: st) M :=
  fun H locs ls hW hl => va_get C.1 C.2.1 (sa_hts (args := args) C hH) (fun _ h => h) C.2.2.2.1 C.2.2.2.2.2.2.1 hW.1 r (sl_w_get hr) hH.1 k hk (C.2.2.2.2.2.2.2.2.1.1 _ hw rfl _) (fun _ h => h) (by rw [sl_f_get, hf, Nat.zero_add]; rfl) hd (kk H locs ls hW hl)
theorem sa_getIN (C : sl_C own cc nL ret cl L D cA g A z p s m meth c) {index ci N : Nat} {Cn host : String} {T : u_T} {ty : Nat → FieldType} {r : Nat} {fs : List (Option Nat)} {k : Nat} (hH : sl_H cl ci Cn T N ty) (hd : decode cc pc = .ok (.getfield index, 3)) (hw : Cond.fieldLinkNest own index (T k).1 (T k).2.1 (T k).2.2.1 host ∈ lw_tbl) (hk : k < N) (hr : L[r]? = some (.inr (ci, fs))) (hf : fs[k]? = some none)
    (kk : sl_A cl L D cA g A p l e R s m args below meth c Q nL (pc + 3) lv (.int (M r k) :: st) M) : sl_A cl L D cA g A p l e R s m args below meth c Q nL pc lv (.ref (g r) :: st) M :=
  fun H locs ls hW hl => va_getN C.1 C.2.1 (sa_hts (args := args) C hH) (fun _ h => h) C.2.2.2.1 C.2.2.2.2.2.2.1 hW.1 r (sl_w_get hr) hH.1 k hk (va_Nw.use rfl (C.2.2.2.2.2.2.2.2.1.2.1 _ _ _ _ _ _ hw)) (fun _ h => h) (by rw [sl_f_get, hf, Nat.zero_add]; rfl) hd (kk H locs ls hW hl)
theorem sa_getRN (C : sl_C own cc nL ret cl L D cA g A z p s m meth c) {index ci N : Nat} {Cn host : String} {T : u_T} {ty : Nat → FieldType} {r r2 : Nat} {fs : List (Option Nat)} {k : Nat} (hH : sl_H cl ci Cn T N ty) (hd : decode cc pc = .ok (.getfield index, 3)) (hw : Cond.fieldLinkNest own index (T k).1 (T k).2.1 (T k).2.2.1 host ∈ lw_tbl) (hk : k < N) (hr : L[r]? = some (.inr (ci, fs))) (hf : fs[k]? = some (some r2))
    (kk : sl_A cl L D cA g A p l e R s m args below meth c Q nL (pc + 3) lv (.ref (g r2) :: st) M) : sl_A cl L D cA g A p l e R s m args below meth c Q nL pc lv (.ref (g r) :: st) M :=
  fun H locs ls hW hl => va_getN C.1 C.2.1 (sa_hts (args := args) C hH) (fun _ h => h) C.2.2.2.1 C.2.2.2.2.2.2.1 hW.1 r (sl_w_get hr) hH.1 k hk (va_Nw.use rfl (C.2.2.2.2.2.2.2.2.1.2.1 _ _ _ _ _ _ hw)) (fun _ h => h) (by rw [sl_f_get, hf, Nat.zero_add]; rfl) hd (kk H locs ls hW hl)
theorem sl_setO {r ci : Nat} {fs : List (Option Nat)} {k : Nat} {v : Int32} (hr : L[r]? = some (.inr (ci, fs))) (hf : fs[k]? = some none) : (sl_w L cA g M).set r (g r, .inr (ci, (sl_f g (M r) 0 fs).set k (.int v))) = sl_w L cA g (sl_up M r k v) := by
  rw [sl_f_set hf, ← sl_w_set (cA := cA) (g := g) hr (sl_up_o (M := M) (i := k) (v := v)), sl_up_s]
  rfl
theorem sl_setA {r n : Nat} {f : Nat → Int32} {M2 : sl_M} (hr : L[r]? = some (.inl n)) (h1 : M2 r = f) (h2 : ∀ r', r' ≠ r → M2 r' = M r') : (sl_w L cA g M).set r (g r, .inl (cA, n, .inl f)) = sl_w L cA g M2 := by
  rw [← sl_w_set (cA := cA) (g := g) hr h2, h1]
  rfl
theorem sa_put (C : sl_C own cc nL ret cl L D cA g A z p s m meth c) {index ci N : Nat} {Cn : String} {T : u_T} {ty : Nat → FieldType} {r : Nat} {fs : List (Option Nat)} {k : Nat} {v : Int32} {fty : FieldType} (hH : sl_H cl ci Cn T N ty) (hd : decode cc pc = .ok (.putfield index, 3)) (hw : Cond.fieldLink own index (T k).1 (T k).2.1 (T k).2.2.1 ∈ lw_tbl) (hk : k < N) (hfin : (T k).2.2.2 = false) (hty : parseFieldDescriptor (T k).2.2.1 = some fty) (hn : narrow fty (.int v) = .int v) (hfit : fits fty (.int v) = true) (hr : L[r]? = some (.inr (ci, fs))) (hf : fs[k]? = some none)
    (kk : sl_A cl L D cA g A p l e R s m args below meth c Q nL (pc + 3) lv st (sl_up M r k v)) : sl_A cl L D cA g A p l e R s m args below meth c Q nL pc lv (.int v :: .ref (g r) :: st) M :=
  fun H locs ls hW hl => va_put C.1 C.2.1 (sa_hts (args := args) C hH) (fun _ h => h) ty hH.2.2.2.1 hH.2.2.2.2 C.2.2.2.1 C.2.2.2.2.2.2.1 hW.1 C.2.2.2.2.2.2.2.1.d hW.2 r (sl_w_get hr) hH.1 k hk (C.2.2.2.2.2.2.2.2.1.1 _ hw rfl _) (fun _ h => h) hfin hty hn hfit (by rw [sl_f_len]; exact (List.getElem?_eq_some_iff.mp hf).1) hd (fun H1 locs1 hP hD hS => kk H1 locs1 ls ⟨by rw [← sl_setO hr hf]; exact hP, hS⟩ hl)
theorem sa_putN (C : sl_C own cc nL ret cl L D cA g A z p s m meth c) {index ci N : Nat} {Cn host : String} {T : u_T} {ty : Nat → FieldType} {r : Nat} {fs : List (Option Nat)} {k : Nat} {v : Int32} {fty : FieldType} (hH : sl_H cl ci Cn T N ty) (hd : decode cc pc = .ok (.putfield index, 3)) (hw : Cond.fieldLinkNest own index (T k).1 (T k).2.1 (T k).2.2.1 host ∈ lw_tbl) (hk : k < N) (hfin : (T k).2.2.2 = false) (hty : parseFieldDescriptor (T k).2.2.1 = some fty) (hn : narrow fty (.int v) = .int v) (hfit : fits fty (.int v) = true) (hr : L[r]? = some (.inr (ci, fs))) (hf : fs[k]? = some none)
    (kk : sl_A cl L D cA g A p l e R s m args below meth c Q nL (pc + 3) lv st (sl_up M r k v)) : sl_A cl L D cA g A p l e R s m args below meth c Q nL pc lv (.int v :: .ref (g r) :: st) M :=
  fun H locs ls hW hl => va_putN C.1 C.2.1 (sa_hts (args := args) C hH) (fun _ h => h) ty hH.2.2.2.1 hH.2.2.2.2 C.2.2.2.1 C.2.2.2.2.2.2.1 hW.1 C.2.2.2.2.2.2.2.1.d hW.2 r (sl_w_get hr) hH.1 k hk (va_Nw.use rfl (C.2.2.2.2.2.2.2.2.1.2.1 _ _ _ _ _ _ hw)) (fun _ h => h) hfin hty hn hfit (by rw [sl_f_len]; exact (List.getElem?_eq_some_iff.mp hf).1) hd (fun H1 locs1 hP hD hS => kk H1 locs1 ls ⟨by rw [← sl_setO hr hf]; exact hP, hS⟩ hl)
theorem sa_iald (C : sl_C own cc nL ret cl L D cA g A z p s m meth c) {r n : Nat} {i v : Int32} (hd : decode cc pc = .ok (.iaload, 1)) (hr : L[r]? = some (.inl n)) (h : sl_ld (M r) n i = some v)
    (kk : sl_A cl L D cA g A p l e R s m args below meth c Q nL (pc + 1) lv (.int v :: st) M) : sl_A cl L D cA g A p l e R s m args below meth c Q nL pc lv (.int i :: .ref (g r) :: st) M := by
  obtain ⟨h1, rfl⟩ := sl_ld_s h
  exact fun H locs ls hW hl => va_iald C.1 C.2.1 C.2.2.2.2.2.2.1 hW.1 r 0 (sl_w_get hr) rfl h1 hd (kk H locs ls hW hl)
theorem sa_iast (C : sl_C own cc nL ret cl L D cA g A z p s m meth c) {r n : Nat} {i v : Int32} {M2 : sl_M} (hd : decode cc pc = .ok (.iastore, 1)) (hr : L[r]? = some (.inl n)) (h : sl_st M r n i v = some M2)
    (kk : sl_A cl L D cA g A p l e R s m args below meth c Q nL (pc + 1) lv st M2) : sl_A cl L D cA g A p l e R s m args below meth c Q nL pc lv (.int v :: .int i :: .ref (g r) :: st) M := by
  obtain ⟨h1, rfl⟩ := sl_st_s h
  exact fun H locs ls hW hl => va_iast C.1 C.2.1 C.2.2.2.2.2.2.1 hW.1 C.2.2.2.2.2.2.2.1.d hW.2 r 0 (sl_w_get hr) rfl h1 hd (fun H1 locs1 hP hD hS => kk H1 locs1 ls ⟨by rw [← sl_setA hr sl_up_s sl_up_o]; exact hP, hS⟩ hl)
theorem sa_alen (C : sl_C own cc nL ret cl L D cA g A z p s m meth c) {r n : Nat} {v : Int32} (hd : decode cc pc = .ok (.arraylength, 1)) (hr : L[r]? = some (.inl n)) (hv : Int32.ofNat n = v)
    (kk : sl_A cl L D cA g A p l e R s m args below meth c Q nL (pc + 1) lv (.int v :: st) M) : sl_A cl L D cA g A p l e R s m args below meth c Q nL pc lv (.ref (g r) :: st) M :=
  fun H locs ls hW hl => va_alen C.1 C.2.1 C.2.2.2.2.2.2.1 hW.1 r 0 (sl_w_get hr) rfl hv hd (kk H locs ls hW hl)
/-- a call, behind its run -/
theorem sa_call {rv : Option Value} {M2 : sl_M} {rest : List Value} {st0 : List Value} {a : Array Value} (hr : ∀ (H : Heap) (locs : List Loc) (ls : Array Slot), sl_W cl L D cA g A s M H locs → lv_has ls nL lv → va_Run p l e R s m args below meth c H locs 0 0 0 0 (F0 m pc ls st0) rest (sl_Q cl L D cA g A rv M2 a) A)
    (kk : sl_A cl L D cA g A p l e R s m args below meth c Q nL (pc + 3) lv (rv.toList ++ rest) M2) : sl_A cl L D cA g A p l e R s m args below meth c Q nL pc lv st0 M := by
  intro H locs ls hW hl T hT X
  obtain ⟨v, st₀, t, T', Lc, h0, X', hL, e1, e2, ⟨hv, hP, hz, hk⟩, st⟩ := hr H locs ls hW hl T hT X
  cases hv
  rw [h0] at hz hk
  obtain ⟨t2, a1, b1⟩ := kk T'.heap (locs ++ Lc) ls ⟨by rw [e1]; exact hP, Nat.le_trans hW.2.1 (by rw [e1]; exact hz), fun q h1 h2 => by rw [e1, hk q (Nat.lt_of_lt_of_le h1 hW.2.1) h2]; exact hW.2.2.1 q h1 h2, fun q hq => by
      rcases List.mem_append.mp hq with h | h
      · exact hW.2.2.2 q h
      · exact hL q h⟩ hl T' rfl X'
  exact ⟨t2, st t2 a1, b1⟩
theorem sl_blind {av : List Value} : FrameBlind (va_Pc av (sl_P cl L D cA g A z M)) := by
  intro a U gg mk h
  obtain ⟨h1, h2, h3, h4, h5, h6⟩ := h
  have hW : U.WarmedH (U.calling gg mk a).vm := State.WarmedH.refl U
  exact ⟨h1, h2, va_K.moved (Vm.Alike.refl U.vm) h3, h4, h5.warm hW, h6.go hW (fun _ _ _ => rfl)⟩
theorem sl_pre (C : sl_C own cc nL ret cl L D cA g A z p s m meth c) {H : Heap} {locs : List Loc} (hW : sl_W cl L D cA g A s M H locs) {av : List Value} : ∀ U : State, U.heap = H → s.WarmedH U.vm → va_Pc av (sl_P cl L D cA g A z M) av.toArray U := by
  intro U hU hv
  refine ⟨rfl, by rw [hU]; exact hW.1, va_K.moved hv.alike C.2.2.2.2.2.2.1, C.2.2.2.2.2.2.2.1, C.2.2.2.2.2.2.2.2.1.warm hv, C.2.2.2.2.2.2.2.2.2.go hv (fun a h1 h2 => by rw [hU]; exact hW.2.2.1 a h1 h2)⟩
/-- what the tables say of a method that is called -/
def sl_Y (y : MethodName) (cy : ByteArray) (n nP : Nat) (rt : Option FieldType) : Prop := Cond.code y cy n rt ∈ lw_tbl ∧ Cond.initialized y.cls ∈ lw_tbl ∧ (y.cls ≠ "java/lang/invoke/MethodHandle" ∧ y.cls ≠ "java/lang/invoke/VarHandle") ∧ (parseMethodDescriptor y.desc).map (fun d => d.parameters.length) = some nP
theorem sl_Y.n {y : MethodName} {cy : ByteArray} {n nP : Nat} {rt : Option FieldType} (h : sl_Y y cy n nP rt) : ∀ sig, parseMethodDescriptor y.desc = some sig → nP = sig.parameters.length := fun sig hs => by
  have h2 := h.2.2.2
  rw [hs] at h2
  exact (Option.some.inj h2).symm
theorem sl_codes (C : sl_C own cc nL ret cl L D cA g A z p s m meth c) {y : MethodName} {cy : ByteArray} {n nP : Nat} {rt : Option FieldType} (h : sl_Y y cy n nP rt) : ∀ w ∈ [Cond.code y cy n rt], ∀ (a' : Array Value) (U : State), s.WarmedH U.vm → w.before a' U = true := by
  intro w hw a' U hU
  rw [List.mem_singleton.mp hw]
  exact (C.2.2.2.2.2.2.2.2.1.warm hU).1 _ h.1 rfl a'
theorem sa_invS (C : sl_C own cc nL ret cl L D cA g A z p s m meth c) {index : Nat} {y : MethodName} {cy : ByteArray} {n nP fr lo : Nat} {rt : Option FieldType} {rv : Option Value} {M2 : sl_M} {As rest : List Value} (hY : sl_Y y cy n nP rt) (hs : Cond.static y ∈ lw_tbl) (hw : Cond.methodLink own index y ∈ lw_tbl) (hd : decode cc pc = .ok (.invokestatic index, 3)) (hn : As.length = nP) (hR : fr + 1 ≤ R.frames ∧ 8 + (n + 11) + lo ≤ R.locals) (hc : (rest.map fun v => v.category).sum ≤ 8)
    (hM : sl_N cl L D cA g A z l y cy n rt fr lo As M rv M2) (hst : st = As.reverse ++ rest) (kk : sl_A cl L D cA g A p l e R s m args below meth c Q nL (pc + 3) lv (rv.toList ++ rest) M2) : sl_A cl L D cA g A p l e R s m args below meth c Q nL pc lv st M := by
  subst hst
  refine sa_call (fun H locs ls hW hl => va_runS (Ts := []) ⟨C.1, C.2.1, C.2.2.1, C.2.2.2.1, fun _ h => by cases h⟩ hM ⟨⟨rfl, rfl, hR.1, hR.2, sl_codes C hY, List.mem_singleton.mpr rfl, C.2.2.2.2.2.2.2.2.1.1 _ hY.1 rfl _, C.2.2.2.2.2.2.2.2.1.1 _ hY.2.1 rfl _, hY.2.2.1, hY.n, C.2.2.2.2.2.2.2.2.1.1 _ hw rfl _⟩, C.2.2.2.2.2.2.2.2.1.1 _ hs rfl _⟩ ⟨sl_blind, sl_pre C hW⟩ rfl hn hl.1 rfl (lv_room hc) hd ⟨Nat.zero_le _, Nat.zero_le _⟩) kk
theorem sa_invSN (C : sl_C own cc nL ret cl L D cA g A z p s m meth c) {index : Nat} {y : MethodName} {cy : ByteArray} {n nP fr lo : Nat} {rt : Option FieldType} {rv : Option Value} {M2 : sl_M} {As rest : List Value} {host : String} (hY : sl_Y y cy n nP rt) (hs : Cond.static y ∈ lw_tbl) (hw : Cond.methodLinkNest own index y host ∈ lw_tbl) (hd : decode cc pc = .ok (.invokestatic index, 3)) (hn : As.length = nP) (hR : fr + 1 ≤ R.frames ∧ 8 + (n + 11) + lo ≤ R.locals) (hc : (rest.map fun v => v.category).sum ≤ 8)
    (hM : sl_N cl L D cA g A z l y cy n rt fr lo As M rv M2) (hst : st = As.reverse ++ rest) (kk : sl_A cl L D cA g A p l e R s m args below meth c Q nL (pc + 3) lv (rv.toList ++ rest) M2) : sl_A cl L D cA g A p l e R s m args below meth c Q nL pc lv st M := by
  subst hst
  refine sa_call (fun H locs ls hW hl => va_runSN (Ts := []) ⟨C.1, C.2.1, C.2.2.1, C.2.2.2.1, fun _ h => by cases h⟩ hM ⟨⟨⟨rfl, rfl, hR.1, hR.2, sl_codes C hY, List.mem_singleton.mpr rfl⟩, C.2.2.2.2.2.2.2.2.1.1 _ hY.1 rfl _, C.2.2.2.2.2.2.2.2.1.1 _ hY.2.1 rfl _, hY.2.2.1, hY.n, va_Nw.use rfl (C.2.2.2.2.2.2.2.2.1.2.2 _ _ _ _ hw)⟩, C.2.2.2.2.2.2.2.2.1.1 _ hs rfl _, trivial⟩ ⟨sl_blind, sl_pre C hW⟩ rfl hn hl.1 rfl (lv_room hc) hd ⟨Nat.zero_le _, Nat.zero_le _⟩) kk
theorem sa_invV (C : sl_C own cc nL ret cl L D cA g A z p s m meth c) {index : Nat} {y : MethodName} {cy : ByteArray} {n nP fr lo : Nat} {rt : Option FieldType} {rv : Option Value} {M2 : sl_M} {As rest : List Value} {ci N r : Nat} {Cn : String} {T : u_T} {ty : Nat → FieldType} {fs : List (Option Nat)} (hY : sl_Y y cy n nP rt) (hs : Cond.instanceMethod y ∈ lw_tbl ∧ Cond.selects Cn y y ∈ lw_tbl) (hw : Cond.methodLink own index y ∈ lw_tbl) (hd : decode cc pc = .ok (.invokevirtual index, 3)) (hn : As.length = nP) (hR : fr + 1 ≤ R.frames ∧ 8 + (n + 11) + lo ≤ R.locals) (hc : (rest.map fun v => v.category).sum ≤ 8)
    (hH : sl_H cl ci Cn T N ty) (hr : L[r]? = some (.inr (ci, fs))) (hM : sl_N cl L D cA g A z l y cy n rt fr lo (.ref (g r) :: As) M rv M2) (hst : st = As.reverse ++ .ref (g r) :: rest) (kk : sl_A cl L D cA g A p l e R s m args below meth c Q nL (pc + 3) lv (rv.toList ++ rest) M2) : sl_A cl L D cA g A p l e R s m args below meth c Q nL pc lv st M := by
  subst hst
  refine sa_call (fun H locs ls hW hl => va_runV (Ts := []) (C := Cn) ⟨C.1, C.2.1, C.2.2.1, C.2.2.2.1, fun _ h => by cases h⟩ hM ⟨⟨rfl, rfl, hR.1, hR.2, sl_codes C hY, List.mem_singleton.mpr rfl, C.2.2.2.2.2.2.2.2.1.1 _ hY.1 rfl _, C.2.2.2.2.2.2.2.2.1.1 _ hY.2.1 rfl _, hY.2.2.1, hY.n, C.2.2.2.2.2.2.2.2.1.1 _ hw rfl _⟩, C.2.2.2.2.2.2.2.2.1.1 _ hs.1 rfl _, C.2.2.2.2.2.2.2.2.1.1 _ hs.2 rfl _⟩ ⟨sl_blind, va_recv C.2.2.2.2.2.2.1 hW.1 hH.1 (sl_w_get hr), sl_pre C hW⟩ rfl hn hl.1 rfl (lv_room hc) hd ⟨Nat.zero_le _, Nat.zero_le _⟩) kk
theorem sa_invVN (C : sl_C own cc nL ret cl L D cA g A z p s m meth c) {index : Nat} {y : MethodName} {cy : ByteArray} {n nP fr lo : Nat} {rt : Option FieldType} {rv : Option Value} {M2 : sl_M} {As rest : List Value} {ci N r : Nat} {Cn host : String} {T : u_T} {ty : Nat → FieldType} {fs : List (Option Nat)} (hY : sl_Y y cy n nP rt) (hs : Cond.instanceMethod y ∈ lw_tbl ∧ Cond.selects Cn y y ∈ lw_tbl) (hw : Cond.methodLinkNest own index y host ∈ lw_tbl) (hd : decode cc pc = .ok (.invokevirtual index, 3)) (hn : As.length = nP) (hR : fr + 1 ≤ R.frames ∧ 8 + (n + 11) + lo ≤ R.locals) (hc : (rest.map fun v => v.category).sum ≤ 8)
    (hH : sl_H cl ci Cn T N ty) (hr : L[r]? = some (.inr (ci, fs))) (hM : sl_N cl L D cA g A z l y cy n rt fr lo (.ref (g r) :: As) M rv M2) (hst : st = As.reverse ++ .ref (g r) :: rest) (kk : sl_A cl L D cA g A p l e R s m args below meth c Q nL (pc + 3) lv (rv.toList ++ rest) M2) : sl_A cl L D cA g A p l e R s m args below meth c Q nL pc lv st M := by
  subst hst
  refine sa_call (fun H locs ls hW hl => va_runVN (Ts := []) (C := Cn) ⟨C.1, C.2.1, C.2.2.1, C.2.2.2.1, fun _ h => by cases h⟩ hM ⟨⟨⟨rfl, rfl, hR.1, hR.2, sl_codes C hY, List.mem_singleton.mpr rfl⟩, C.2.2.2.2.2.2.2.2.1.1 _ hY.1 rfl _, C.2.2.2.2.2.2.2.2.1.1 _ hY.2.1 rfl _, hY.2.2.1, hY.n, va_Nw.use rfl (C.2.2.2.2.2.2.2.2.1.2.2 _ _ _ _ hw)⟩, C.2.2.2.2.2.2.2.2.1.1 _ hs.1 rfl _, C.2.2.2.2.2.2.2.2.1.1 _ hs.2 rfl _⟩ ⟨sl_blind, va_recv C.2.2.2.2.2.2.1 hW.1 hH.1 (sl_w_get hr), sl_pre C hW⟩ rfl hn hl.1 rfl (lv_room hc) hd ⟨Nat.zero_le _, Nat.zero_le _⟩) kk
end SLR
section SLE
variable {cl : List vw_C} {L : List sl_E} {D : va_G} {cA : ClassId} {g : Nat → Nat} {A : Nat → Prop} {z : sl_K}
variable {p : Program} {l : Launch} {e : Env} {R : Room} {s : State} {m : MethodId} {args : Array Value} {below : List Frame} {meth : Method} {c : Code}
variable {own : String} {cc : ByteArray} {nL pc : Nat} {ret : Option FieldType} {lv : List (Nat × Value)} {st : List Value} {M : sl_M}
theorem sa_iret (C : sl_C own cc nL (some .int) cl L D cA g A z p s m meth c) {x r : Int32} {M2 : sl_M} (hd : decode cc pc = .ok (.ireturn, 1)) (h : x = r) (hM : M = M2) : sl_A cl L D cA g A p l e R s m args below meth c (MQ below (sl_Q cl L D cA g A (some (.int r)) M2) args s 0 0 A) nL pc lv [.int x] M := by
  subst h; subst hM
  exact fun H locs ls hW hl => W.iret C.1 C.2.1 C.2.2.2.2.1 (fun t ht hw => ⟨rfl, by rw [ht]; exact hW.1, hW.2.F ht⟩) hW.2.2.2 hd C.2.2.2.2.2.1
theorem sa_zret (C : sl_C own cc nL (some .boolean) cl L D cA g A z p s m meth c) {x r : Int32} {M2 : sl_M} (hd : decode cc pc = .ok (.ireturn, 1)) (hx : x = 0 ∨ x = 1) (h : x = r) (hM : M = M2) : sl_A cl L D cA g A p l e R s m args below meth c (MQ below (sl_Q cl L D cA g A (some (.int r)) M2) args s 0 0 A) nL pc lv [.int x] M := by
  subst h; subst hM
  exact fun H locs ls hW hl => W.zret C.1 C.2.1 C.2.2.2.2.1 (by rcases hx with rfl | rfl <;> rfl) (fun t ht hw => ⟨rfl, by rw [ht]; exact hW.1, hW.2.F ht⟩) hW.2.2.2 hd C.2.2.2.2.2.1
theorem sa_lret (C : sl_C own cc nL (some .long) cl L D cA g A z p s m meth c) {x r : Int64} {M2 : sl_M} (hd : decode cc pc = .ok (.lreturn, 1)) (h : x = r) (hM : M = M2) : sl_A cl L D cA g A p l e R s m args below meth c (MQ below (sl_Q cl L D cA g A (some (.long r)) M2) args s 0 0 A) nL pc lv [.long x] M := by
  subst h; subst hM
  exact fun H locs ls hW hl => W.lret C.1 C.2.1 C.2.2.2.2.1 (fun t ht hw => ⟨rfl, by rw [ht]; exact hW.1, hW.2.F ht⟩) hW.2.2.2 hd C.2.2.2.2.2.1
theorem sa_vret (C : sl_C own cc nL none cl L D cA g A z p s m meth c) {M2 : sl_M} (hd : decode cc pc = .ok (.return_, 1)) (hM : M = M2) : sl_A cl L D cA g A p l e R s m args below meth c (MQ below (sl_Q cl L D cA g A none M2) args s 0 0 A) nL pc lv [] M := by
  subst hM
  exact fun H locs ls hW hl => W.vret C.1 C.2.1 C.2.2.2.2.1 (fun t ht hw => ⟨rfl, by rw [ht]; exact hW.1, hW.2.F ht⟩) hW.2.2.2 hd C.2.2.2.2.2.1
/-- a contract out of a walk from the entry -/
theorem sl_N.of {y : MethodName} {fr lo : Nat} {as : List Value} {rv : Option Value} {M2 : sl_M} {lv0 : List (Nat × Value)} (hy : plainName y.cls = true) (hn : (lg_sl as).length ≤ nL) (hlv : lv_args 0 as = lv0)
    (k : ∀ (p : Program) (e : Env) (s : State) (m : MethodId) (args : Array Value) (below : List Frame) (meth : Method) (c : Code), sl_C y.cls cc nL ret cl L D cA g A z p s m meth c → sl_A cl L D cA g A p l e { frames := fr, cells := 0, slots := 0, locals := lo } s m args below meth c (MQ below (sl_Q cl L D cA g A rv M2) args s 0 0 A) nL 0 lv0 [] M) : sl_N cl L D cA g A z l y cc nL ret fr lo as M rv M2 := by
  refine Met.ofW (cc := cc) (maxL := nL) (ret := ret) hy rfl ?_
  intro p e s m args below meth c s₁ B hml hv
  obtain ⟨rfl, hP, hK, hD, hT, hZ⟩ := hv
  have hl := lv_entry as hn
  rw [lg_entry_eq]
  rw [hlv] at hl
  exact k p e s m _ below meth c ⟨B.exec, B.bytes, hml, findClass_of_methodNamed B.named, B.returns, B.notSynchronized, hK, hD, hT, hZ⟩ s.heap [] _ ⟨hP, va_S.rf⟩ hl
end SLE
