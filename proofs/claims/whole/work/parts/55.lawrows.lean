/-! the law's rows: two systems side by side -/
abbrev sl_A0 (s : State) : Nat → Prop := fun q : Nat => s.heap.size ≤ q
def lj_C (D : va_G) (cA : ClassId) (gX gR : Nat → Nat) (z : sl_K) (p : Program) (s : State) (m : MethodId) (meth : Method) (c : Code) (b L : Nat) (xs : Nat → Int32) : Prop :=
  p.tables.exec = Jvm.exec ∧ c.code = code ∧ c.maxLocals = 4 ∧ s.vm.findClass R_law = some m.cls ∧ va_K D sl_cl [(cA, .int)] s ∧ sl_T s ∧ sl_Z (sl_A0 s) z s ∧ va_X b L xs s s.heap ∧ b < s.heap.size ∧ sl_D LX gX (sl_A0 s) ∧ sl_D LR gR (sl_A0 s) ∧ (∀ i, i < 37 → ∀ j, j < 12 → gX i ≠ gR j) ∧ L ≤ 384 ∧ meth.sig.returnType = ret ∧ meth.locks = false
def lj_A (D : va_G) (cA : ClassId) (gX gR : Nat → Nat) (p : Program) (l : Launch) (e : Env) (s : State) (m : MethodId) (below : List Frame) (meth : Method) (c : Code) (b : Nat) (pc : Nat) (lv : List (Nat × Value)) (st : List Value) (MX MR : sl_M) : Prop :=
  ∀ (H : Heap) (locs : List Loc) (ls : Array Slot), va_P D sl_cl (sl_w LX cA gX MX) H → va_P D sl_cl (sl_w LR cA gR MR) H → va_S (sl_A0 s) s.heap H locs → lv_has ls 4 lv → W p l e room_1 s m #[Value.ref b] below meth c H locs 49 1454 (lw_Z below #[Value.ref b] s) (F0 m pc ls st)
def lj_v (gX gR : Nat → Nat) (b i : Nat) : List (Nat × Value) := [(0, .ref b), (1, .ref (gX 27)), (2, .ref (gR 0)), (3, .int (nI i))]
section LJ
variable {D : va_G} {cA : ClassId} {gX gR : Nat → Nat} {z : sl_K} {p : Program} {l : Launch} {e : Env} {s : State} {m : MethodId} {below : List Frame} {meth : Method} {c : Code} {b L : Nat} {xs : Nat → Int32}
variable {pc : Nat} {lv : List (Nat × Value)} {st : List Value} {MX MR : sl_M}
theorem lj_w (C : lj_C D cA gX gR z p s m meth c b L xs) {w : Cond} (h : w ∈ lw_tbl) (hg : goodWord w = true) (a : Array Value) : w.before a s = true := C.2.2.2.2.2.1.1 w h hg a
theorem lj_nb (C : lj_C D cA gX gR z p s m meth c b L xs) : ¬ sl_A0 s b := Nat.not_le.mpr C.2.2.2.2.2.2.2.2.1
theorem lj_aload (C : lj_C D cA gX gR z p s m meth c b L xs) {j : Fin 4} {i x : Nat} (hd : decode code pc = .ok (.aload_n j, 1)) (hi : (j : Nat) = i) (t : Nat) (hj : lv[t]? = some (i, .ref x)) (kk : lj_A D cA gX gR p l e s m below meth c b (pc + 1) lv (.ref x :: st) MX MR) : lj_A D cA gX gR p l e s m below meth c b pc lv st MX MR :=
  fun H locs ls hX hR hS hl => lv_aload_n C.1 C.2.1 hd hi (lv_at hl t hj) (kk H locs ls hX hR hS hl)
theorem lj_iload (C : lj_C D cA gX gR z p s m meth c b L xs) {j : Fin 4} {i : Nat} {x : Int32} (hd : decode code pc = .ok (.iload_n j, 1)) (hi : (j : Nat) = i) (t : Nat) (hj : lv[t]? = some (i, .int x)) (kk : lj_A D cA gX gR p l e s m below meth c b (pc + 1) lv (.int x :: st) MX MR) : lj_A D cA gX gR p l e s m below meth c b pc lv st MX MR :=
  fun H locs ls hX hR hS hl => lv_iload_n C.1 C.2.1 hd hi (lv_at hl t hj) (kk H locs ls hX hR hS hl)
theorem lj_iconst (C : lj_C D cA gX gR z p s m meth c b L xs) {n : Int} {v : Int32} (hd : decode code pc = .ok (.iconst n, 1)) (hv : Int32.ofInt n = v) (kk : lj_A D cA gX gR p l e s m below meth c b (pc + 1) lv (.int v :: st) MX MR) : lj_A D cA gX gR p l e s m below meth c b pc lv st MX MR :=
  fun H locs ls hX hR hS hl => lv_iconst C.1 C.2.1 hd hv (kk H locs ls hX hR hS hl)
theorem lj_bipush (C : lj_C D cA gX gR z p s m meth c b L xs) {n : Int} {v : Int32} (hd : decode code pc = .ok (.bipush n, 2)) (hv : (Int8.ofInt n).toInt32 = v) (kk : lj_A D cA gX gR p l e s m below meth c b (pc + 2) lv (.int v :: st) MX MR) : lj_A D cA gX gR p l e s m below meth c b pc lv st MX MR :=
  fun H locs ls hX hR hS hl => lv_bipush C.1 C.2.1 hd hv (kk H locs ls hX hR hS hl)
theorem lj_iadd (C : lj_C D cA gX gR z p s m meth c b L xs) {x y : Int32} (hd : decode code pc = .ok (.iadd, 1)) (kk : lj_A D cA gX gR p l e s m below meth c b (pc + 1) lv (.int (x + y) :: st) MX MR) : lj_A D cA gX gR p l e s m below meth c b pc lv (.int y :: .int x :: st) MX MR :=
  fun H locs ls hX hR hS hl => lv_iadd C.1 C.2.1 hd (kk H locs ls hX hR hS hl)
theorem lj_isub (C : lj_C D cA gX gR z p s m meth c b L xs) {x y : Int32} (hd : decode code pc = .ok (.isub, 1)) (kk : lj_A D cA gX gR p l e s m below meth c b (pc + 1) lv (.int (x - y) :: st) MX MR) : lj_A D cA gX gR p l e s m below meth c b pc lv (.int y :: .int x :: st) MX MR :=
  fun H locs ls hX hR hS hl => lv_isub C.1 C.2.1 hd (kk H locs ls hX hR hS hl)
theorem lj_iand (C : lj_C D cA gX gR z p s m meth c b L xs) {x y : Int32} (hd : decode code pc = .ok (.iand, 1)) (kk : lj_A D cA gX gR p l e s m below meth c b (pc + 1) lv (.int (x &&& y) :: st) MX MR) : lj_A D cA gX gR p l e s m below meth c b pc lv (.int y :: .int x :: st) MX MR :=
  fun H locs ls hX hR hS hl => lv_iand C.1 C.2.1 hd (kk H locs ls hX hR hS hl)
theorem lj_slen (C : lj_C D cA gX gR z p s m meth c b L xs) (hd : decode code pc = .ok (.arraylength, 1)) (kk : lj_A D cA gX gR p l e s m below meth c b (pc + 1) lv (.int (nI L) :: st) MX MR) : lj_A D cA gX gR p l e s m below meth c b pc lv (.ref b :: st) MX MR :=
  fun H locs ls hX hR hS hl => va_slen C.1 C.2.1 C.2.2.2.2.2.2.2.1 C.2.2.2.2.2.2.2.2.1 (lj_nb C) hS hd (kk H locs ls hX hR hS hl)
theorem lj_sld (C : lj_C D cA gX gR z p s m meth c b L xs) {x : Int32} {j : Nat} (hx : x = nI j) (hj : j < L) (hd : decode code pc = .ok (.iaload, 1)) (kk : lj_A D cA gX gR p l e s m below meth c b (pc + 1) lv (.int (xs j) :: st) MX MR) : lj_A D cA gX gR p l e s m below meth c b pc lv (.int x :: .ref b :: st) MX MR := by
  have hL := C.2.2.2.2.2.2.2.2.2.2.2.2.1
  subst hx
  exact fun H locs ls hX hR hS hl => va_sld C.1 C.2.1 C.2.2.2.2.2.2.2.1 C.2.2.2.2.2.2.2.2.1 (lj_nb C) hS (vp_in_nI hj (by omega)) hd (by rw [nI_clamp (by omega)]; exact kk H locs ls hX hR hS hl)
theorem lj_goto (C : lj_C D cA gX gR z p s m meth c b L xs) {off : Int} {tgt : Nat} (hd : decode code pc = .ok (.goto off, 3)) (ht : (pc : Int) + off = (tgt : Int)) (kk : lj_A D cA gX gR p l e s m below meth c b tgt lv st MX MR) : lj_A D cA gX gR p l e s m below meth c b pc lv st MX MR :=
  fun H locs ls hX hR hS hl => lv_goto C.1 C.2.1 hd ht (kk H locs ls hX hR hS hl)
theorem lj_iinc (C : lj_C D cA gX gR z p s m meth c b L xs) {i : Nat} {d : Int} {x v : Int32} {lv2 : List (Nat × Value)} (hd : decode code pc = .ok (.iinc i d, 3)) (t : Nat) (hj : lv[t]? = some (i, .int x)) (hv : x + Int32.ofInt d = v) (hn : i < 4) (hl2 : (i, Value.int v) :: lv.filter (fun q => !(q.1 == i) && !(q.1 + 1 == i && q.2.category == 2)) = lv2) (kk : lj_A D cA gX gR p l e s m below meth c b (pc + 3) lv2 st MX MR) : lj_A D cA gX gR p l e s m below meth c b pc lv st MX MR :=
  fun H locs ls hX hR hS hl => lv_iinc C.1 C.2.1 hd hl hj hv hn hl2 (fun ls2 h2 => kk H locs ls2 hX hR hS h2)
theorem lj_pick (ks : List Nat) {lv2 : List (Nat × Value)} (h : lv_pick lv ks = lv2) (kk : lj_A D cA gX gR p l e s m below meth c b pc lv2 st MX MR) : lj_A D cA gX gR p l e s m below meth c b pc lv st MX MR :=
  fun H locs ls hX hR hS hl => kk H locs ls hX hR hS (lv_sub hl ks h)
theorem lj_gt (C : lj_C D cA gX gR z p s m meth c b L xs) {x y : Int32} {off : Int} {tgt : Nat} (hd : decode code pc = .ok (.if_icmp .gt off, 3)) (ht : (pc : Int) + off = (tgt : Int)) (kt : y < x → lj_A D cA gX gR p l e s m below meth c b tgt lv st MX MR) (kf : ¬ y < x → lj_A D cA gX gR p l e s m below meth c b (pc + 3) lv st MX MR) : lj_A D cA gX gR p l e s m below meth c b pc lv (.int y :: .int x :: st) MX MR :=
  fun H locs ls hX hR hS hl => lv_icmp_gt C.1 C.2.1 hd ht (fun q => kt q H locs ls hX hR hS hl) (fun q => kf q H locs ls hX hR hS hl)
/-- the two answers are the same -/
theorem lj_eq (C : lj_C D cA gX gR z p s m meth c b L xs) {x : Int32} {off : Int} {tgt : Nat} (hd : decode code pc = .ok (.if_icmp .eq off, 3)) (ht : (pc : Int) + off = (tgt : Int)) (kk : lj_A D cA gX gR p l e s m below meth c b tgt lv st MX MR) : lj_A D cA gX gR p l e s m below meth c b pc lv (.int x :: .int x :: st) MX MR :=
  fun H locs ls hX hR hS hl => lv_icmp_eq C.1 C.2.1 hd ht (fun _ => kk H locs ls hX hR hS hl) (fun q => absurd rfl q)
theorem lj_swIn (C : lj_C D cA gX gR z p s m meth c b L xs) {x k : Int32} {dflt lo hi : Int} {offs : Array Int} {len : Nat} {off : Int} {tgt : Nat} (hd : decode code pc = .ok (.tableswitch dflt lo hi offs, len)) (hx : x = k) (hk : ¬ k.toInt < lo ∧ ¬ hi < k.toInt ∧ offs[(k.toInt - lo).toNat]? = some off) (ht : (pc : Int) + off = (tgt : Int)) (kk : lj_A D cA gX gR p l e s m below meth c b tgt lv st MX MR) : lj_A D cA gX gR p l e s m below meth c b pc lv (.int x :: st) MX MR := by
  subst hx
  exact fun H locs ls hX hR hS hl => lv_tableIn C.1 C.2.1 hd hk.1 hk.2.1 hk.2.2 ht (kk H locs ls hX hR hS hl)
theorem lj_swOut (C : lj_C D cA gX gR z p s m meth c b L xs) {x : Int32} {dflt lo hi : Int} {offs : Array Int} {len : Nat} {tgt : Nat} (hd : decode code pc = .ok (.tableswitch dflt lo hi offs, len)) (hx : x.toInt < lo ∨ hi < x.toInt) (ht : (pc : Int) + dflt = (tgt : Int)) (kk : lj_A D cA gX gR p l e s m below meth c b tgt lv st MX MR) : lj_A D cA gX gR p l e s m below meth c b pc lv (.int x :: st) MX MR :=
  fun H locs ls hX hR hS hl => lv_tableOut C.1 C.2.1 hd hx ht (kk H locs ls hX hR hS hl)
/-- an argument: script[i + k] -/
theorem lj_arg (C : lj_C D cA gX gR z p s m meth c b L xs) {i k : Nat} {n : Int} (d0 : decode code pc = .ok (.aload_n 0, 1)) (d1 : decode code (pc + 1) = .ok (.iload_n 3, 1)) (d2 : decode code (pc + 2) = .ok (.iconst n, 1)) (d3 : decode code (pc + 3) = .ok (.iadd, 1)) (d4 : decode code (pc + 4) = .ok (.iaload, 1)) (hn : Int32.ofInt n = nI k) (hk : i + k < L) (kk : lj_A D cA gX gR p l e s m below meth c b (pc + 5) (lj_v gX gR b i) (.int (xs (i + k)) :: st) MX MR) : lj_A D cA gX gR p l e s m below meth c b pc (lj_v gX gR b i) st MX MR := by
  refine lj_aload C d0 rfl 0 rfl ?_
  refine lj_iload C d1 rfl 3 rfl ?_
  refine lj_iconst C d2 hn ?_
  refine lj_iadd C d3 ?_
  exact lj_sld C (nI_add i k) hk d4 kk
theorem lj_callX (C : lj_C D cA gX gR z p s m meth c b L xs) {index : Nat} {y : MethodName} {cy : ByteArray} {n nP fr lo : Nat} {r : Int32} {M2 : sl_M} {As rest : List Value} (hY : sl_Y y cy n nP (some .int)) (hs : Cond.instanceMethod y ∈ lw_tbl ∧ Cond.selects RX4 y y ∈ lw_tbl) (hw : Cond.methodLink R_law index y ∈ lw_tbl) (hd : decode code pc = .ok (.invokevirtual index, 3)) (hn : As.length = nP) (hR0 : fr + 1 ≤ 13 ∧ 8 + (n + 11) + lo ≤ 484) (hc : (rest.map fun v => v.category).sum ≤ 8)
    (hM : ∀ A : Nat → Prop, sl_N sl_cl LX D cA gX A z l y cy n (some .int) fr lo (.ref (gX 27) :: As) MX (some (.int r)) M2) (hst : st = As.reverse ++ .ref (gX 27) :: rest) (kk : lj_A D cA gX gR p l e s m below meth c b (pc + 3) lv (.int r :: rest) M2 MR) : lj_A D cA gX gR p l e s m below meth c b pc lv st MX MR := by
  subst hst
  intro H locs ls hX hR hS hl
  have hDX := C.2.2.2.2.2.2.2.2.2.1
  have hDR := C.2.2.2.2.2.2.2.2.2.2.1
  have hdis := C.2.2.2.2.2.2.2.2.2.2.2.1
  have hAX : ∀ q, (∃ i, i < 37 ∧ q = gX i) → sl_A0 s q := fun q ⟨i, hi, e⟩ => by rw [e]; exact hDX.2 i hi
  have hD : sl_D LX gX (fun q => ∃ i, i < 37 ∧ q = gX i) := ⟨hDX.1, fun r hr => ⟨r, hr, rfl⟩⟩
  have run : va_Run p l e room_1 s m #[Value.ref b] below meth c H locs 49 1454 0 0 (F0 m pc ls (As.reverse ++ .ref (gX 27) :: rest)) rest (sl_Q sl_cl LX D cA gX (fun q => ∃ i, i < 37 ∧ q = gX i) (some (.int r)) M2 (Value.ref (gX 27) :: As).toArray) (fun q => ∃ i, i < 37 ∧ q = gX i) :=
    va_runV (Ts := []) (C := RX4) (b := gX 27) (nL := 4) (cc := code) (As := As) (rest := rest) (own := R_law) ⟨C.1, C.2.1, C.2.2.1, C.2.2.2.1, fun _ h => by cases h⟩ (hM _) ⟨⟨rfl, rfl, hR0.1, hR0.2, (fun w hw' a' U hU => by rw [List.mem_singleton.mp hw']; exact (C.2.2.2.2.2.1.warm hU).1 _ hY.1 rfl a'), List.mem_singleton.mpr rfl, lj_w C hY.1 rfl _, lj_w C hY.2.1 rfl _, hY.2.2.1, hY.n, lj_w C hw rfl _⟩, lj_w C hs.1 rfl _, lj_w C hs.2 rfl _⟩ ⟨sl_blind, va_recv C.2.2.2.2.1 hX hh_X4.1 (sl_w_get lx_27), fun U hU hv => ⟨rfl, by rw [hU]; exact hX, va_K.moved hv.alike C.2.2.2.2.1, hD, C.2.2.2.2.2.1.warm hv, (C.2.2.2.2.2.2.1.nar hAX).go hv (fun a h1 h2 => by rw [hU]; exact hS.2.1 a h1 (Nat.not_le.mpr h1))⟩⟩ rfl hn hl.1 rfl (lv_room hc) hd ⟨Nat.le_refl _, Nat.le_refl _⟩
  intro T hT XX
  obtain ⟨v, st₀, t, T', Lc, h0, X', hL, e1, e2, ⟨hv, hP, hz, hk⟩, stp⟩ := run T hT XX
  cases hv
  rw [h0] at hz hk
  have hR' : va_P D sl_cl (sl_w LR cA gR MR) T'.heap := hR.kept (fun k q hq => by
    obtain ⟨eq, he, rfl⟩ := sl_w_of hq
    have hk12 : k < 12 := (List.getElem?_eq_some_iff.mp he).1
    rw [e1]
    exact hk _ ((hR k _ hq).lt) (fun ⟨i, hi, ei⟩ => hdis i hi k hk12 ei.symm))
  obtain ⟨t2, b1', b2⟩ := kk T'.heap (locs ++ Lc) ls (by rw [e1]; exact hP) hR' ⟨Nat.le_trans hS.1 (by rw [e1]; exact hz), fun q h1 h2 => by rw [e1, hk q (Nat.lt_of_lt_of_le h1 hS.1) (fun w => h2 (hAX q w))]; exact hS.2.1 q h1 h2, fun q hq => by
      rcases List.mem_append.mp hq with h | h
      · exact hS.2.2 q h
      · exact hAX _ (hL q h)⟩ hl T' rfl X'
  exact ⟨t2, stp t2 b1', b2⟩
theorem lj_callR (C : lj_C D cA gX gR z p s m meth c b L xs) {index : Nat} {y : MethodName} {cy : ByteArray} {n nP fr lo : Nat} {r : Int32} {M2 : sl_M} {As rest : List Value} (hY : sl_Y y cy n nP (some .int)) (hs : Cond.instanceMethod y ∈ lw_tbl ∧ Cond.selects RX5 y y ∈ lw_tbl) (hw : Cond.methodLink R_law index y ∈ lw_tbl) (hd : decode code pc = .ok (.invokevirtual index, 3)) (hn : As.length = nP) (hR0 : fr + 1 ≤ 13 ∧ 8 + (n + 11) + lo ≤ 484) (hc : (rest.map fun v => v.category).sum ≤ 8)
    (hM : ∀ A : Nat → Prop, sl_N sl_cl LR D cA gR A z l y cy n (some .int) fr lo (.ref (gR 0) :: As) MR (some (.int r)) M2) (hst : st = As.reverse ++ .ref (gR 0) :: rest) (kk : lj_A D cA gX gR p l e s m below meth c b (pc + 3) lv (.int r :: rest) MX M2) : lj_A D cA gX gR p l e s m below meth c b pc lv st MX MR := by
  subst hst
  intro H locs ls hX hR hS hl
  have hDX := C.2.2.2.2.2.2.2.2.2.1
  have hDR := C.2.2.2.2.2.2.2.2.2.2.1
  have hdis := C.2.2.2.2.2.2.2.2.2.2.2.1
  have hAX : ∀ q, (∃ i, i < 12 ∧ q = gR i) → sl_A0 s q := fun q ⟨i, hi, e⟩ => by rw [e]; exact hDR.2 i hi
  have hD : sl_D LR gR (fun q => ∃ i, i < 12 ∧ q = gR i) := ⟨hDR.1, fun r hr => ⟨r, hr, rfl⟩⟩
  have run : va_Run p l e room_1 s m #[Value.ref b] below meth c H locs 49 1454 0 0 (F0 m pc ls (As.reverse ++ .ref (gR 0) :: rest)) rest (sl_Q sl_cl LR D cA gR (fun q => ∃ i, i < 12 ∧ q = gR i) (some (.int r)) M2 (Value.ref (gR 0) :: As).toArray) (fun q => ∃ i, i < 12 ∧ q = gR i) :=
    va_runV (Ts := []) (C := RX5) (b := gR 0) (nL := 4) (cc := code) (As := As) (rest := rest) (own := R_law) ⟨C.1, C.2.1, C.2.2.1, C.2.2.2.1, fun _ h => by cases h⟩ (hM _) ⟨⟨rfl, rfl, hR0.1, hR0.2, (fun w hw' a' U hU => by rw [List.mem_singleton.mp hw']; exact (C.2.2.2.2.2.1.warm hU).1 _ hY.1 rfl a'), List.mem_singleton.mpr rfl, lj_w C hY.1 rfl _, lj_w C hY.2.1 rfl _, hY.2.2.1, hY.n, lj_w C hw rfl _⟩, lj_w C hs.1 rfl _, lj_w C hs.2 rfl _⟩ ⟨sl_blind, va_recv C.2.2.2.2.1 hR hh_X5.1 (sl_w_get lr_0), fun U hU hv => ⟨rfl, by rw [hU]; exact hR, va_K.moved hv.alike C.2.2.2.2.1, hD, C.2.2.2.2.2.1.warm hv, (C.2.2.2.2.2.2.1.nar hAX).go hv (fun a h1 h2 => by rw [hU]; exact hS.2.1 a h1 (Nat.not_le.mpr h1))⟩⟩ rfl hn hl.1 rfl (lv_room hc) hd ⟨Nat.le_refl _, Nat.le_refl _⟩
  intro T hT XX
  obtain ⟨v, st₀, t, T', Lc, h0, X', hL, e1, e2, ⟨hv, hP, hz, hk⟩, stp⟩ := run T hT XX
  cases hv
  rw [h0] at hz hk
  have hX' : va_P D sl_cl (sl_w LX cA gX MX) T'.heap := hX.kept (fun k q hq => by
    obtain ⟨eq, he, rfl⟩ := sl_w_of hq
    have hk37 : k < 37 := (List.getElem?_eq_some_iff.mp he).1
    rw [e1]
    exact hk _ ((hX k _ hq).lt) (fun ⟨i, hi, ei⟩ => hdis k hk37 i hi ei))
  obtain ⟨t2, b1', b2⟩ := kk T'.heap (locs ++ Lc) ls hX' (by rw [e1]; exact hP) ⟨Nat.le_trans hS.1 (by rw [e1]; exact hz), fun q h1 h2 => by rw [e1, hk q (Nat.lt_of_lt_of_le h1 hS.1) (fun w => h2 (hAX q w))]; exact hS.2.1 q h1 h2, fun q hq => by
      rcases List.mem_append.mp hq with h | h
      · exact hS.2.2 q h
      · exact hAX _ (hL q h)⟩ hl T' rfl X'
  exact ⟨t2, stp t2 b1', b2⟩
theorem lj_end (C : lj_C D cA gX gR z p s m meth c b L xs) (hd : decode code pc = .ok (.ireturn, 1)) : lj_A D cA gX gR p l e s m below meth c b pc lv [.int 1] MX MR :=
  fun H locs ls hX hR hS hl => va_forget (fun q hq => hS.2.2 q hq) (lw_ret C.1 C.2.1 C.2.2.2.2.2.2.2.2.2.2.2.2.2.1 C.2.2.2.2.2.2.2.2.2.2.2.2.2.2 hd)
end LJ
