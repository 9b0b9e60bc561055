/-! making the objects: a world that grows, cell by cell -/
def zz : Nat → Int32 := fun _ => 0
def sn_C (own : String) (cc : ByteArray) (nL : Nat) (D : va_G) (cA : ClassId) (A : Nat → Prop) (p : Program) (s : State) (m : MethodId) (c : Code) : Prop :=
  p.tables.exec = Jvm.exec ∧ c.code = cc ∧ c.maxLocals = nL ∧ s.vm.findClass own = some m.cls ∧ va_K D sl_cl [(cA, .int)] s ∧ sl_T s ∧ ∀ q : Nat, s.heap.size ≤ q → A q
def sn_A (D : va_G) (A : Nat → Prop) (p : Program) (l : Launch) (e : Env) (R : Room) (s : State) (m : MethodId) (args : Array Value) (below : List Frame) (meth : Method) (c : Code) (Q : State → Prop) (nL pc : Nat) (lv : List (Nat × Value)) (st : List Value) (ws : va_W) (k n : Nat) : Prop :=
  ∀ (H : Heap) (locs : List Loc) (ls : Array Slot), va_P D sl_cl ws H → va_D A ws → va_S A s.heap H locs → lv_has ls nL lv → W p l e R s m args below meth c H locs k n Q (F0 m pc ls st)
/-- a constructor's contract -/
def sn_N (D : va_G) (cA : ClassId) (l : Launch) (y : MethodName) (cc : ByteArray) (nL fr lo mc ms : Nat) (as : List Value) (ws : va_W) (out : va_W → Prop) : Prop :=
  ∀ sz : Nat, Met l y [.code y cc nL none] { frames := fr, cells := mc, slots := ms, locals := lo } (va_Pc as (fun U => U.heap.size = sz ∧ va_P D sl_cl ws U.heap ∧ va_K D sl_cl [(cA, .int)] U ∧ va_D (fun _ => True) ws ∧ sl_T U)) (va_Qv out (fun w t => va_P D sl_cl w t.heap ∧ va_D (va_A ws sz) w) (va_A ws sz)) mc ms (va_A ws sz)
section SN
variable {D : va_G} {cA : ClassId} {A : Nat → Prop}
variable {p : Program} {l : Launch} {e : Env} {R : Room} {s : State} {m : MethodId} {args : Array Value} {below : List Frame} {meth : Method} {c : Code} {Q : State → Prop}
variable {own : String} {cc : ByteArray} {nL pc : Nat} {lv : List (Nat × Value)} {st : List Value} {ws : va_W} {k n : Nat}
theorem sn_w (C : sn_C own cc nL D cA A p s m c) {w : Cond} (h : w ∈ lw_tbl) (hg : goodWord w = true) (a : Array Value) : w.before a s = true := C.2.2.2.2.2.1.1 w h hg a
theorem sn_iconst (C : sn_C own cc nL D cA A p s m c) {i : Int} {v : Int32} (hd : decode cc pc = .ok (.iconst i, 1)) (hv : Int32.ofInt i = v) (kk : sn_A D A p l e R s m args below meth c Q nL (pc + 1) lv (.int v :: st) ws k n) : sn_A D A p l e R s m args below meth c Q nL pc lv st ws k n :=
  fun H locs ls hP hD hS hl => lv_iconst C.1 C.2.1 hd hv (kk H locs ls hP hD hS hl)
theorem sn_bipush (C : sn_C own cc nL D cA A p s m c) {i : Int} {v : Int32} (hd : decode cc pc = .ok (.bipush i, 2)) (hv : (Int8.ofInt i).toInt32 = v) (kk : sn_A D A p l e R s m args below meth c Q nL (pc + 2) lv (.int v :: st) ws k n) : sn_A D A p l e R s m args below meth c Q nL pc lv st ws k n :=
  fun H locs ls hP hD hS hl => lv_bipush C.1 C.2.1 hd hv (kk H locs ls hP hD hS hl)
theorem sn_sipush (C : sn_C own cc nL D cA A p s m c) {i : Int} {v : Int32} (hd : decode cc pc = .ok (.sipush i, 3)) (hv : (Int16.ofInt i).toInt32 = v) (kk : sn_A D A p l e R s m args below meth c Q nL (pc + 3) lv (.int v :: st) ws k n) : sn_A D A p l e R s m args below meth c Q nL pc lv st ws k n :=
  fun H locs ls hP hD hS hl => lv_sipush C.1 C.2.1 hd hv (kk H locs ls hP hD hS hl)
theorem sn_aload_n (C : sn_C own cc nL D cA A p s m c) {j : Fin 4} {i x : Nat} (hd : decode cc pc = .ok (.aload_n j, 1)) (hi : (j : Nat) = i) (t : Nat) (hj : lv[t]? = some (i, .ref x)) (kk : sn_A D A p l e R s m args below meth c Q nL (pc + 1) lv (.ref x :: st) ws k n) : sn_A D A p l e R s m args below meth c Q nL pc lv st ws k n :=
  fun H locs ls hP hD hS hl => lv_aload_n C.1 C.2.1 hd hi (lv_at hl t hj) (kk H locs ls hP hD hS hl)
theorem sn_iload_n (C : sn_C own cc nL D cA A p s m c) {j : Fin 4} {i : Nat} {x : Int32} (hd : decode cc pc = .ok (.iload_n j, 1)) (hi : (j : Nat) = i) (t : Nat) (hj : lv[t]? = some (i, .int x)) (kk : sn_A D A p l e R s m args below meth c Q nL (pc + 1) lv (.int x :: st) ws k n) : sn_A D A p l e R s m args below meth c Q nL pc lv st ws k n :=
  fun H locs ls hP hD hS hl => lv_iload_n C.1 C.2.1 hd hi (lv_at hl t hj) (kk H locs ls hP hD hS hl)
theorem sn_istore_n (C : sn_C own cc nL D cA A p s m c) {j : Fin 4} {i : Nat} {x : Int32} {lv2 : List (Nat × Value)} (hd : decode cc pc = .ok (.istore_n j, 1)) (hi : (j : Nat) = i) (hn : i < nL) (hl2 : (i, Value.int x) :: lv.filter (fun q => !(q.1 == i) && !(q.1 + 1 == i && q.2.category == 2)) = lv2) (kk : sn_A D A p l e R s m args below meth c Q nL (pc + 1) lv2 st ws k n) : sn_A D A p l e R s m args below meth c Q nL pc lv (.int x :: st) ws k n :=
  fun H locs ls hP hD hS hl => lv_istore_n C.1 C.2.1 hd hi hl hn hl2 (fun ls2 h2 => kk H locs ls2 hP hD hS h2)
theorem sn_astore_n (C : sn_C own cc nL D cA A p s m c) {j : Fin 4} {i x : Nat} {lv2 : List (Nat × Value)} (hd : decode cc pc = .ok (.astore_n j, 1)) (hi : (j : Nat) = i) (hn : i < nL) (hl2 : (i, Value.ref x) :: lv.filter (fun q => !(q.1 == i) && !(q.1 + 1 == i && q.2.category == 2)) = lv2) (kk : sn_A D A p l e R s m args below meth c Q nL (pc + 1) lv2 st ws k n) : sn_A D A p l e R s m args below meth c Q nL pc lv (.ref x :: st) ws k n :=
  fun H locs ls hP hD hS hl => lv_astore_n C.1 C.2.1 hd hi hl hn hl2 (fun ls2 h2 => kk H locs ls2 hP hD hS h2)
theorem sn_iinc (C : sn_C own cc nL D cA A p s m c) {i : Nat} {d : Int} {x v : Int32} {lv2 : List (Nat × Value)} (hd : decode cc pc = .ok (.iinc i d, 3)) (t : Nat) (hj : lv[t]? = some (i, .int x)) (hv : x + Int32.ofInt d = v) (hn : i < nL) (hl2 : (i, Value.int v) :: lv.filter (fun q => !(q.1 == i) && !(q.1 + 1 == i && q.2.category == 2)) = lv2) (kk : sn_A D A p l e R s m args below meth c Q nL (pc + 3) lv2 st ws k n) : sn_A D A p l e R s m args below meth c Q nL pc lv st ws k n :=
  fun H locs ls hP hD hS hl => lv_iinc C.1 C.2.1 hd hl hj hv hn hl2 (fun ls2 h2 => kk H locs ls2 hP hD hS h2)
theorem sn_iadd (C : sn_C own cc nL D cA A p s m c) {x y : Int32} (hd : decode cc pc = .ok (.iadd, 1)) (kk : sn_A D A p l e R s m args below meth c Q nL (pc + 1) lv (.int (x + y) :: st) ws k n) : sn_A D A p l e R s m args below meth c Q nL pc lv (.int y :: .int x :: st) ws k n :=
  fun H locs ls hP hD hS hl => lv_iadd C.1 C.2.1 hd (kk H locs ls hP hD hS hl)
theorem sn_dup (C : sn_C own cc nL D cA A p s m c) {x : Nat} (hd : decode cc pc = .ok (.dup, 1)) (kk : sn_A D A p l e R s m args below meth c Q nL (pc + 1) lv (.ref x :: .ref x :: st) ws k n) : sn_A D A p l e R s m args below meth c Q nL pc lv (.ref x :: st) ws k n :=
  fun H locs ls hP hD hS hl => lv_dup C.1 C.2.1 hd rfl (kk H locs ls hP hD hS hl)
theorem sn_icmp_ge (C : sn_C own cc nL D cA A p s m c) {x y : Int32} {off : Int} {tgt : Nat} (hd : decode cc pc = .ok (.if_icmp .ge off, 3)) (ht : (pc : Int) + off = (tgt : Int)) (kt : y ≤ x → sn_A D A p l e R s m args below meth c Q nL tgt lv st ws k n) (kf : ¬ y ≤ x → sn_A D A p l e R s m args below meth c Q nL (pc + 3) lv st ws k n) : sn_A D A p l e R s m args below meth c Q nL pc lv (.int y :: .int x :: st) ws k n :=
  fun H locs ls hP hD hS hl => lv_icmp_ge C.1 C.2.1 hd ht (fun q => kt q H locs ls hP hD hS hl) (fun q => kf q H locs ls hP hD hS hl)
theorem sn_goto (C : sn_C own cc nL D cA A p s m c) {off : Int} {tgt : Nat} (hd : decode cc pc = .ok (.goto off, 3)) (ht : (pc : Int) + off = (tgt : Int)) (kk : sn_A D A p l e R s m args below meth c Q nL tgt lv st ws k n) : sn_A D A p l e R s m args below meth c Q nL pc lv st ws k n :=
  fun H locs ls hP hD hS hl => lv_goto C.1 C.2.1 hd ht (kk H locs ls hP hD hS hl)
theorem sn_pick (ks : List Nat) {lv2 : List (Nat × Value)} (h : lv_pick lv ks = lv2) (kk : sn_A D A p l e R s m args below meth c Q nL pc lv2 st ws k n) : sn_A D A p l e R s m args below meth c Q nL pc lv st ws k n :=
  fun H locs ls hP hD hS hl => kk H locs ls hP hD hS (lv_sub hl ks h)
theorem sn_oi (C : sn_C own cc nL D cA A p s m c) {index x : Nat} (hd : decode cc pc = .ok (.invokespecial index, 3)) (hw : Cond.methodLink own index objectInit ∈ lw_tbl) (hi : Cond.instanceMethod objectInit ∈ lw_tbl) (hc : Cond.code objectInit ⟨#[0xb1]⟩ 1 none ∈ lw_tbl) (hR : 1 ≤ R.frames ∧ 12 ≤ R.locals) (kk : sn_A D A p l e R s m args below meth c Q nL (pc + 3) lv [] ws k n) : sn_A D A p l e R s m args below meth c Q nL pc lv [.ref x] ws k n := by
  intro H locs ls hP hD hS hl
  refine W.objInit C.1 C.2.1 C.2.2.2.1 (sn_w C hw rfl _) (sn_w C hi rfl _) (sn_w C hc rfl _) rfl (by rw [C.2.2.1]; exact hl.1) rfl hd hR.1 (Nat.le_trans (Nat.le_of_ble_eq_true rfl) hR.2) ?_
  exact W.eq (g2 := F0 m (pc + 3) ls []) rfl (kk H locs ls hP hD hS hl)
theorem sn_newa (C : sn_C own cc nL D cA A p s m c) {x : Int32} {N k2 n2 : Nat} (hd : decode cc pc = .ok (.newarray .int, 2)) (hw : Cond.arrayClass .int ∈ lw_tbl) (hx : ¬ x < 0) (hN : x.toNatClampNeg = N) (hb : N * 4 ≤ 536870912) (hk : k + 1 = k2) (hn : n + N = n2) (hk2 : k2 ≤ R.cells) (hn2 : n2 ≤ R.slots)
    (kk : ∀ q : Nat, sn_A D A p l e R s m args below meth c Q nL (pc + 2) lv (.ref q :: st) (ws ++ [(q, .inl (cA, N, .inl zz))]) k2 n2) : sn_A D A p l e R s m args below meth c Q nL pc lv (.int x :: st) ws k n := by
  subst hk; subst hn
  intro H locs ls hP hD hS hl
  refine va_newa (atype := .int) (ty := .int) (a0 := (N, .inl zz)) C.1 C.2.1 (sn_w C hw rfl _) rfl C.2.2.2.2.1 hP hD hS C.2.2.2.2.2.2 (fun _ => rfl) hx hN hb hk2 hn2 hd (fun q cA2 H1 hK2 hP1 hD1 hS1 => ?_)
  have e1 : s.vm.findClass ("[" ++ FieldType.int.toString) = some cA := (hK2.2 0 _ rfl).2
  have e2 : s.vm.findClass ("[" ++ FieldType.int.toString) = some cA2 := (hK2.2 1 _ rfl).2
  have e3 : cA2 = cA := Option.some.inj (e2.symm.trans e1)
  subst e3
  exact kk q H1 locs ls hP1 hD1 hS1 hl
theorem sn_hts (C : sn_C own cc nL D cA A p s m c) {Cn : String} {T : u_T} {N ci : Nat} {ty : Nat → FieldType} (hH : sl_H sl_cl ci Cn T N ty) : ∀ w ∈ u_ws Cn T N, w.before args s = true := fun w hw => sn_w C (hH.2.1 w hw) (hH.2.2.1 w hw) args
theorem sn_new (C : sn_C own cc nL D cA A p s m c) {index ci N k2 n2 : Nat} {Cn : String} {T : u_T} {ty : Nat → FieldType} {fs : List Value} (hH : sl_H sl_cl ci Cn T N ty) (hd : decode cc pc = .ok (.new index, 3)) (hw : Cond.classLink own index Cn ∈ lw_tbl) (hi : Cond.instantiable Cn N ∈ lw_tbl) (hini : Cond.initialized Cn ∈ lw_tbl) (hfs : ∀ j, j < N → defaultValue (ty j) = vp_V fs j) (hk : k + 1 = k2) (hn : n + N = n2) (hk2 : k2 ≤ R.cells) (hn2 : n2 ≤ R.slots)
    (kk : ∀ q : Nat, sn_A D A p l e R s m args below meth c Q nL (pc + 3) lv (.ref q :: st) (ws ++ [(q, .inr (ci, fs))]) k2 n2) : sn_A D A p l e R s m args below meth c Q nL pc lv st ws k n := by
  subst hk; subst hn
  intro H locs ls hP hD hS hl
  exact va_new C.1 C.2.1 (sn_hts (args := args) C hH) (fun _ h => h) ty hH.2.2.2.1 C.2.2.2.1 (sn_w C hw rfl _) (sn_w C hi rfl _) (sn_w C hini rfl _) C.2.2.2.2.1 hP hD hS C.2.2.2.2.2.2 hH.1 hfs hk2 hn2 hd (fun q H1 hP1 hD1 hS1 => kk q H1 locs ls hP1 hD1 hS1 hl)
theorem sn_putF (C : sn_C own cc nL D cA A p s m c) {index ci N : Nat} {T : u_T} {ty : Nat → FieldType} {fs : List Value} {f : Nat} {a : Nat} {v : Value} {fty : FieldType} {ws2 : va_W} (hH : sl_H sl_cl ci own T N ty) (hin : meth.name = "<init>") (hd : decode cc pc = .ok (.putfield index, 3)) (hw : Cond.fieldLink own index (T f).1 (T f).2.1 (T f).2.2.1 ∈ lw_tbl) (hf : f < N) (hfin : (T f).2.2.2 = true) (hdecl : (T f).1 = own) (hty : parseFieldDescriptor (T f).2.2.1 = some fty) (hn : narrow fty v = v) (hfit : fits fty v = true) (q0 : Nat) (he : ws[q0]? = some (a, .inr (ci, fs))) (hl0 : f < fs.length) (h2 : ws.set q0 (a, .inr (ci, fs.set f v)) = ws2)
    (kk : sn_A D A p l e R s m args below meth c Q nL (pc + 3) lv st ws2 k n) : sn_A D A p l e R s m args below meth c Q nL pc lv (v :: .ref a :: st) ws k n := by
  subst h2
  intro H locs ls hP hD hS hl
  exact va_putF C.1 C.2.1 (sn_hts (args := args) C hH) (fun _ h => h) ty hH.2.2.2.1 hH.2.2.2.2 C.2.2.2.1 C.2.2.2.2.1 hP hD hS q0 he hH.1 f hf (sn_w C hw rfl _) (fun _ h => h) hfin hin hdecl hty hn hfit hl0 hd (fun H1 locs1 hP1 hD1 hS1 => kk H1 locs1 ls hP1 hD1 hS1 hl)
theorem sn_put (C : sn_C own cc nL D cA A p s m c) {index ci N : Nat} {T : u_T} {ty : Nat → FieldType} {fs : List Value} {f : Nat} {a : Nat} {v : Value} {fty : FieldType} {ws2 : va_W} (hH : sl_H sl_cl ci own T N ty) (hd : decode cc pc = .ok (.putfield index, 3)) (hw : Cond.fieldLink own index (T f).1 (T f).2.1 (T f).2.2.1 ∈ lw_tbl) (hf : f < N) (hfin : (T f).2.2.2 = false) (hty : parseFieldDescriptor (T f).2.2.1 = some fty) (hn : narrow fty v = v) (hfit : fits fty v = true) (q0 : Nat) (he : ws[q0]? = some (a, .inr (ci, fs))) (hl0 : f < fs.length) (h2 : ws.set q0 (a, .inr (ci, fs.set f v)) = ws2)
    (kk : sn_A D A p l e R s m args below meth c Q nL (pc + 3) lv st ws2 k n) : sn_A D A p l e R s m args below meth c Q nL pc lv (v :: .ref a :: st) ws k n := by
  subst h2
  intro H locs ls hP hD hS hl
  exact va_put C.1 C.2.1 (sn_hts (args := args) C hH) (fun _ h => h) ty hH.2.2.2.1 hH.2.2.2.2 C.2.2.2.1 C.2.2.2.2.1 hP hD hS q0 he hH.1 f hf (sn_w C hw rfl _) (fun _ h => h) hfin hty hn hfit hl0 hd (fun H1 locs1 hP1 hD1 hS1 => kk H1 locs1 ls hP1 hD1 hS1 hl)
theorem sn_get (C : sn_C own cc nL D cA A p s m c) {index ci N : Nat} {T : u_T} {ty : Nat → FieldType} {fs : List Value} {f : Nat} {a : Nat} {v : Value} (hH : sl_H sl_cl ci own T N ty) (hd : decode cc pc = .ok (.getfield index, 3)) (hw : Cond.fieldLink own index (T f).1 (T f).2.1 (T f).2.2.1 ∈ lw_tbl) (hf : f < N) (q0 : Nat) (he : ws[q0]? = some (a, .inr (ci, fs))) (hv : fs[f]? = some v)
    (kk : sn_A D A p l e R s m args below meth c Q nL (pc + 3) lv (v :: st) ws k n) : sn_A D A p l e R s m args below meth c Q nL pc lv (.ref a :: st) ws k n := by
  intro H locs ls hP hD hS hl
  exact va_get C.1 C.2.1 (sn_hts (args := args) C hH) (fun _ h => h) C.2.2.2.1 C.2.2.2.2.1 hP q0 he hH.1 f hf (sn_w C hw rfl _) (fun _ h => h) hv hd (kk H locs ls hP hD hS hl)
theorem sn_iast (C : sn_C own cc nL D cA A p s m c) {a N j : Nat} {f : Nat → Int32} {i x : Int32} {ws2 : va_W} (hd : decode cc pc = .ok (.iastore, 1)) (q0 : Nat) (he : ws[q0]? = some (a, .inl (cA, N, .inl f))) (hi : i = nI j) (hj : j < N) (hN : N < 2 ^ 31) (h2 : ws.set q0 (a, .inl (cA, N, .inl (upd f j x))) = ws2)
    (kk : sn_A D A p l e R s m args below meth c Q nL (pc + 1) lv st ws2 k n) : sn_A D A p l e R s m args below meth c Q nL pc lv (.int x :: .int i :: .ref a :: st) ws k n := by
  subst h2; subst hi
  intro H locs ls hP hD hS hl
  refine va_iast C.1 C.2.1 C.2.2.2.2.1 hP hD hS q0 0 he rfl (vp_in_nI hj hN) hd (fun H1 locs1 hP1 hD1 hS1 => ?_)
  rw [nI_clamp (by omega)] at hP1 hD1
  exact kk H1 locs1 ls hP1 hD1 hS1 hl
theorem sn_codes (C : sn_C own cc nL D cA A p s m c) {y : MethodName} {cy : ByteArray} {i nP : Nat} {rt : Option FieldType} (h : sl_Y y cy i nP rt) : ∀ w ∈ [Cond.code y cy i rt], ∀ (a' : Array Value) (U : State), s.WarmedH U.vm → w.before a' U = true := by
  intro w hw a' U hU
  rw [List.mem_singleton.mp hw]
  exact (C.2.2.2.2.2.1.warm hU).1 _ h.1 rfl a'
theorem sn_blind {av : List Value} {sz : Nat} {wc : va_W} : FrameBlind (va_Pc av (fun U => U.heap.size = sz ∧ va_P D sl_cl wc U.heap ∧ va_K D sl_cl [(cA, .int)] U ∧ va_D (fun _ => True) wc ∧ sl_T U)) := by
  intro a U gg mk h
  obtain ⟨h1, h2, h3, h4, h5, h6⟩ := h
  exact ⟨h1, h2, h3, va_K.moved (Vm.Alike.refl U.vm) h4, h5, h6.warm (State.WarmedH.refl U)⟩
theorem sn_pre (C : sn_C own cc nL D cA A p s m c) {H : Heap} {av : List Value} {wc : va_W} {B : Nat → Prop} (hP : va_P D sl_cl wc H) (hD : va_D B wc) : ∀ U : State, U.heap = H → s.WarmedH U.vm → va_Pc av (fun U => U.heap.size = H.size ∧ va_P D sl_cl wc U.heap ∧ va_K D sl_cl [(cA, .int)] U ∧ va_D (fun _ => True) wc ∧ sl_T U) av.toArray U := by
  intro U hU hv
  exact ⟨rfl, by rw [hU], by rw [hU]; exact hP, va_K.moved hv.alike C.2.2.2.2.1, ⟨hD.1, fun _ _ _ => trivial⟩, C.2.2.2.2.2.1.warm hv⟩
/-- a call of a nest mate's constructor -/
theorem sn_callN (C : sn_C own cc nL D cA A p s m c) {index i nP fr lo mc ms a k2 n2 : Nat} {y : MethodName} {cy : ByteArray} {host : String} {As rest : List Value} {wc wr : va_W} {out : va_W → Prop} (hY : sl_Y y cy i nP none) (hy : y.name = "<init>") (hs : Cond.instanceMethod y ∈ lw_tbl) (hw : Cond.methodLinkNest own index y host ∈ lw_tbl) (hd : decode cc pc = .ok (.invokespecial index, 3)) (hn : As.length = nP) (hR : fr + 1 ≤ R.frames ∧ 8 + (i + 11) + lo ≤ R.locals) (hc : (rest.map fun v => v.category).sum ≤ 8) (hk : k + mc = k2) (hn2 : n + ms = n2) (hk3 : k2 ≤ R.cells ∧ n2 ≤ R.slots)
    (hM : sn_N D cA l y cy i fr lo mc ms (.ref a :: As) wc out) (hst : st = As.reverse ++ .ref a :: rest) (isC isR : List Nat) (hnC : va_nd isC = true) (hC : isC.map (fun i => ws[i]?) = wc.map some) (hP0 : isC.filterMap (fun i => ws[i]?) = wc) (hRr : isR.map (fun i => ws[i]?) = wr.map some) (hnR : va_nd isR = true) (hdis : ∀ i ∈ isR, i ∉ isC)
    (kk : ∀ w, out w → sn_A D A p l e R s m args below meth c Q nL (pc + 3) lv rest (wr ++ w) k2 n2) : sn_A D A p l e R s m args below meth c Q nL pc lv st ws k n := by
  subst hst; subst hk; subst hn2
  intro H locs ls hP hD hS hl
  have hPc := hP.sub isC hP0
  have hDc := hD.sub isC hnC hC
  have hFc := va_free hD hS C.2.2.2.2.2.2 isC hC
  refine va_callv (va_runIN (Ts := []) ⟨C.1, C.2.1, C.2.2.1, C.2.2.2.1, fun _ h => by cases h⟩ (hM H.size) ⟨⟨⟨rfl, rfl, hR.1, hR.2, sn_codes C hY, List.mem_singleton.mpr rfl⟩, sn_w C hY.1 rfl _, sn_w C hY.2.1 rfl _, hY.2.2.1, hY.n, va_Nw.use rfl (C.2.2.2.2.2.1.2.2 _ _ _ _ hw)⟩, hy, sn_w C hs rfl _⟩ ⟨sn_blind, sn_pre C hPc hDc⟩ rfl hn hl.1 rfl (lv_room hc) hd hk3) hS (fun q _ h => hFc q h) hFc (fun w t H1 locs1 ht hvm ho hB hz1 hk1 hS1 => ?_)
  obtain ⟨hP1, hD1⟩ := hB
  rw [ht] at hP1
  obtain ⟨hP2, hD2⟩ := va_join hP hD isC isR hC hRr hnR hdis hk1 hFc hP1 hD1
  exact kk w ho H1 locs1 ls hP2 hD2 hS1 hl
theorem sn_callP (C : sn_C own cc nL D cA A p s m c) {index i nP fr lo mc ms a k2 n2 : Nat} {y : MethodName} {cy : ByteArray} {As rest : List Value} {wc wr : va_W} {out : va_W → Prop} (hY : sl_Y y cy i nP none) (hy : y.name = "<init>") (hs : Cond.instanceMethod y ∈ lw_tbl) (hw : Cond.methodLink own index y ∈ lw_tbl) (hd : decode cc pc = .ok (.invokespecial index, 3)) (hn : As.length = nP) (hR : fr + 1 ≤ R.frames ∧ 8 + (i + 11) + lo ≤ R.locals) (hc : (rest.map fun v => v.category).sum ≤ 8) (hk : k + mc = k2) (hn2 : n + ms = n2) (hk3 : k2 ≤ R.cells ∧ n2 ≤ R.slots)
    (hM : sn_N D cA l y cy i fr lo mc ms (.ref a :: As) wc out) (hst : st = As.reverse ++ .ref a :: rest) (isC isR : List Nat) (hnC : va_nd isC = true) (hC : isC.map (fun i => ws[i]?) = wc.map some) (hP0 : isC.filterMap (fun i => ws[i]?) = wc) (hRr : isR.map (fun i => ws[i]?) = wr.map some) (hnR : va_nd isR = true) (hdis : ∀ i ∈ isR, i ∉ isC)
    (kk : ∀ w, out w → sn_A D A p l e R s m args below meth c Q nL (pc + 3) lv rest (wr ++ w) k2 n2) : sn_A D A p l e R s m args below meth c Q nL pc lv st ws k n := by
  subst hst; subst hk; subst hn2
  intro H locs ls hP hD hS hl
  have hPc := hP.sub isC hP0
  have hDc := hD.sub isC hnC hC
  have hFc := va_free hD hS C.2.2.2.2.2.2 isC hC
  refine va_callv (va_runI (Ts := []) ⟨C.1, C.2.1, C.2.2.1, C.2.2.2.1, fun _ h => by cases h⟩ (hM H.size) ⟨⟨rfl, rfl, hR.1, hR.2, sn_codes C hY, List.mem_singleton.mpr rfl, sn_w C hY.1 rfl _, sn_w C hY.2.1 rfl _, hY.2.2.1, hY.n, sn_w C hw rfl _⟩, hy, sn_w C hs rfl _⟩ ⟨sn_blind, sn_pre C hPc hDc⟩ rfl hn hl.1 rfl (lv_room hc) hd hk3) hS (fun q _ h => hFc q h) hFc (fun w t H1 locs1 ht hvm ho hB hz1 hk1 hS1 => ?_)
  obtain ⟨hP1, hD1⟩ := hB
  rw [ht] at hP1
  obtain ⟨hP2, hD2⟩ := va_join hP hD isC isR hC hRr hnR hdis hk1 hFc hP1 hD1
  exact kk w ho H1 locs1 ls hP2 hD2 hS1 hl
end SN
/-- a constructor's contract out of its walk -/
theorem sn_N.of {D : va_G} {cA : ClassId} {l : Launch} {y : MethodName} {cc : ByteArray} {nL fr lo mc ms : Nat} {as : List Value} {ws : va_W} {out : va_W → Prop} {lv0 : List (Nat × Value)} (hy : plainName y.cls = true) (hy2 : y.name = "<init>") (hn : (lg_sl as).length ≤ nL) (hlv : lv_args 0 as = lv0)
    (k : ∀ (A : Nat → Prop) (p : Program) (e : Env) (s : State) (m : MethodId) (args : Array Value) (below : List Frame) (meth : Method) (c : Code), sn_C y.cls cc nL D cA A p s m c → meth.sig.returnType = none → meth.locks = false → meth.name = "<init>" → sn_A D A p l e { frames := fr, cells := mc, slots := ms, locals := lo } s m args below meth c (MQ below (va_Qv out (fun w t => va_P D sl_cl w t.heap ∧ va_D A w) A) args s mc ms A) nL 0 lv0 [] ws 0 0) : sn_N D cA l y cc nL fr lo mc ms as ws out := by
  intro sz
  refine Met.ofW (cc := cc) (maxL := nL) (ret := none) hy rfl ?_
  intro p e s m args below meth c s₁ B hml hv
  obtain ⟨rfl, rfl, hP, hK, hD, hT⟩ := hv
  have hl := lv_entry as hn
  rw [lg_entry_eq]
  rw [hlv] at hl
  exact k (va_A ws s.heap.size) p e s m _ below meth c ⟨B.exec, B.bytes, hml, findClass_of_methodNamed B.named, hK, hT, fun q h => Or.inr h⟩ B.returns B.notSynchronized ((name_of_methodNamed B.named B.method).1.trans hy2) s.heap [] _ hP hD.self va_S.rf hl
theorem sn_ret {D : va_G} {A : Nat → Prop} {p : Program} {l : Launch} {e : Env} {R : Room} {s : State} {m : MethodId} {args : Array Value} {below : List Frame} {meth : Method} {c : Code} {own : String} {cc : ByteArray} {nL pc k n : Nat} {cA : ClassId} {lv : List (Nat × Value)} {ws : va_W} {out : va_W → Prop} (C : sn_C own cc nL D cA A p s m c) (hr : meth.sig.returnType = none) (hlocks : meth.locks = false) (hd : decode cc pc = .ok (.return_, 1)) (ho : out ws) : sn_A D A p l e R s m args below meth c (MQ below (va_Qv out (fun w t => va_P D sl_cl w t.heap ∧ va_D A w) A) args s k n A) nL pc lv [] ws k n :=
  fun H locs ls hP hD hS hl => W.vret C.1 C.2.1 hr (fun t ht hW => ⟨⟨ws, rfl, ho, by rw [ht]; exact hP, hD⟩, hS.F ht⟩) hS.2.2 hd hlocks
