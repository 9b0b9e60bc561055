/-! The picture: a fixed graph of cells, all that changes are ints. A cell is an int array (its length), or an object (its class's place, its fields: none an int, some r the cell r) -/
abbrev sl_M : Type := Nat → Nat → Int32
abbrev sl_E : Type := Nat ⊕ (Nat × List (Option Nat))
def sl_up (M : sl_M) (r i : Nat) (v : Int32) : sl_M := fun r' => if r' = r then upd (M r) i v else M r'
def sl_v (g : Nat → Nat) (f : Nat → Int32) (k : Nat) : Option Nat → Value
  | none => .int (f k)
  | some r => .ref (g r)
def sl_f (g : Nat → Nat) (f : Nat → Int32) : Nat → List (Option Nat) → List Value
  | _, [] => []
  | k, o :: t => sl_v g f k o :: sl_f g f (k + 1) t
theorem sl_f_get {g : Nat → Nat} {f : Nat → Int32} : ∀ (fs : List (Option Nat)) (k0 k : Nat), (sl_f g f k0 fs)[k]? = (fs[k]?).map (sl_v g f (k0 + k))
  | [], k0, k => by simp [sl_f]
  | o :: t, k0, 0 => by simp [sl_f]
  | o :: t, k0, k + 1 => by
    rw [sl_f, List.getElem?_cons_succ, List.getElem?_cons_succ, sl_f_get t (k0 + 1) k, show k0 + 1 + k = k0 + (k + 1) by omega]
theorem sl_f_len {g : Nat → Nat} {f : Nat → Int32} : ∀ (fs : List (Option Nat)) (k0 : Nat), (sl_f g f k0 fs).length = fs.length
  | [], k0 => rfl
  | o :: t, k0 => by rw [sl_f, List.length_cons, List.length_cons, sl_f_len t]
theorem sl_f_set {g : Nat → Nat} {f : Nat → Int32} {v : Int32} {k : Nat} {fs : List (Option Nat)} (h : fs[k]? = some none) : (sl_f g f 0 fs).set k (.int v) = sl_f g (upd f k v) 0 fs := by
  apply List.ext_getElem?
  intro j
  rw [sl_f_get, Nat.zero_add]
  by_cases hj : j = k
  · subst hj
    have hl : j < (sl_f g f 0 fs).length := by rw [sl_f_len]; exact (List.getElem?_eq_some_iff.mp h).1
    rw [List.getElem?_set_self hl, h]
    simp [sl_v, upd]
  · rw [List.getElem?_set_ne (Ne.symm hj), sl_f_get, Nat.zero_add]
    cases fs[j]? with
    | none => rfl
    | some o => cases o <;> simp [sl_v, upd, hj]
def sl_e (cA : ClassId) (g : Nat → Nat) (f : Nat → Int32) : sl_E → va_E
  | .inl n => .inl (cA, n, .inl f)
  | .inr o => .inr (o.1, sl_f g f 0 o.2)
def sl_w (L : List sl_E) (cA : ClassId) (g : Nat → Nat) (M : sl_M) : va_W := (List.range L.length).map (fun r => (g r, sl_e cA g (M r) (L.getD r (.inl 0))))
theorem sl_w_get {L : List sl_E} {cA : ClassId} {g : Nat → Nat} {M : sl_M} {r : Nat} {e : sl_E} (h : L[r]? = some e) : (sl_w L cA g M)[r]? = some (g r, sl_e cA g (M r) e) := by
  have hl := (List.getElem?_eq_some_iff.mp h).1
  rw [sl_w, List.getElem?_map, List.getElem?_range hl]
  show some (g r, sl_e cA g (M r) (L.getD r (.inl 0))) = _
  rw [List.getD_eq_getElem?_getD, h]
  rfl
theorem sl_w_of {L : List sl_E} {cA : ClassId} {g : Nat → Nat} {M : sl_M} {k : Nat} {q : Nat × va_E} (h : (sl_w L cA g M)[k]? = some q) : ∃ e, L[k]? = some e ∧ q = (g k, sl_e cA g (M k) e) := by
  have hl : k < L.length := by
    have := (List.getElem?_eq_some_iff.mp h).1
    simpa [sl_w] using this
  refine ⟨L[k], List.getElem?_eq_getElem hl, ?_⟩
  rw [sl_w_get (List.getElem?_eq_getElem hl)] at h
  exact (Option.some.inj h).symm
theorem sl_w_set {L : List sl_E} {cA : ClassId} {g : Nat → Nat} {M M' : sl_M} {r : Nat} {e : sl_E} (h : L[r]? = some e) (hM : ∀ r', r' ≠ r → M' r' = M r') : (sl_w L cA g M).set r (g r, sl_e cA g (M' r) e) = sl_w L cA g M' := by
  have hl := (List.getElem?_eq_some_iff.mp h).1
  apply List.ext_getElem?
  intro j
  by_cases hj : j = r
  · subst hj
    rw [List.getElem?_set_self (by simpa [sl_w] using hl), sl_w_get h]
  · rw [List.getElem?_set_ne (Ne.symm hj), sl_w, sl_w, List.getElem?_map, List.getElem?_map]
    by_cases hk : j < L.length
    · rw [List.getElem?_range hk]
      simp [hM j hj]
    · rw [List.getElem?_eq_none (by simpa using hk)]
      rfl
def sl_D (L : List sl_E) (g : Nat → Nat) (A : Nat → Prop) : Prop := (∀ i j, i < L.length → j < L.length → g i = g j → i = j) ∧ ∀ r, r < L.length → A (g r)
theorem sl_D.d {L : List sl_E} {g : Nat → Nat} {A : Nat → Prop} {cA : ClassId} {M : sl_M} (h : sl_D L g A) : va_D A (sl_w L cA g M) := by
  refine ⟨fun i j p q hi hj e => ?_, fun k q hk => ?_⟩
  · obtain ⟨a, ha, rfl⟩ := sl_w_of hi
    obtain ⟨b, hb, rfl⟩ := sl_w_of hj
    exact h.1 i j (List.getElem?_eq_some_iff.mp ha).1 (List.getElem?_eq_some_iff.mp hb).1 e
  · obtain ⟨a, ha, rfl⟩ := sl_w_of hk
    exact h.2 k (List.getElem?_eq_some_iff.mp ha).1
/-- the words of the tables at a state -/
def sl_T (U : State) : Prop := (∀ w ∈ lw_tbl, goodWord w = true → ∀ a : Array Value, w.before a U = true) ∧ (∀ (o : String) (i : Nat) (b n d h : String), Cond.fieldLinkNest o i b n d h ∈ lw_tbl → va_Nw (.fieldLinkNest o i b n d h) U) ∧ (∀ (o : String) (i : Nat) (y : MethodName) (h : String), Cond.methodLinkNest o i y h ∈ lw_tbl → va_Nw (.methodLinkNest o i y h) U)
theorem sl_T.warm {s U : State} (h : sl_T s) (hW : s.WarmedH U.vm) : sl_T U :=
  ⟨fun w hw hg a => word_at hW (good_of_word hg) (h.1 w hw hg #[]), fun o i b n d k hw => va_Nw.warmF hW (h.2.1 o i b n d k hw), fun o i y k hw => va_Nw.warmM hW (h.2.2 o i y k hw)⟩
theorem sl_T.same {s U : State} (h : sl_T s) (hv : s.vm = U.vm) : sl_T U := by
  have hW : s.WarmedH U.vm := by rw [← hv]; exact State.WarmedH.refl s
  exact h.warm hW
/-- what is old and stays: two static rows of ints, the texts -/
abbrev sl_K : Type := (Nat × Nat) × (Nat → Nat) × (Nat → Nat)
def sl_wo : List Int32 := [1, 5, 3, 20, 0, 1, 3]
def sl_ka : List Int32 := [-1, 0, 0, 1, 0, 0, 5]
def sl_tx : List (Nat × String) := [(37, "house"), (106, "floor"), (108, "blind"), (110, "west"), (112, "east"), (52, "haze"), (60, "rate"), (72, "land"), (74, "water"), (76, "field"), (78, "sea"), (80, "roof"), (82, "wood"), (84, "elm"), (90, "to"), (92, "high"), (94, "age")]
def sl_ln : List Nat := [5, 5, 5, 4, 4, 4, 4, 4, 5, 5, 3, 4, 4, 3, 2, 4, 3]
def sl_by : List (List Int32) := [[104, 111, 117, 115, 101], [102, 108, 111, 111, 114], [98, 108, 105, 110, 100], [119, 101, 115, 116], [101, 97, 115, 116], [104, 97, 122, 101], [114, 97, 116, 101], [108, 97, 110, 100], [119, 97, 116, 101, 114], [102, 105, 101, 108, 100], [115, 101, 97], [114, 111, 111, 102], [119, 111, 111, 100], [101, 108, 109], [116, 111], [104, 105, 103, 104], [97, 103, 101]]
def sl_Z (A : Nat → Prop) (z : sl_K) (U : State) : Prop :=
  va_Z "SeenLand$Land" "WORTHS" "[I" (.ref z.1.1) A U U.heap ∧ va_T .int z.1.1 7 (fun j => .int (sl_wo.getD j 0)) A U U.heap ∧
  va_Z "SeenLand$Land" "KIND_ABOVE" "[I" (.ref z.1.2) A U U.heap ∧ va_T .int z.1.2 7 (fun j => .int (sl_ka.getD j 0)) A U U.heap ∧
  va_Z "java/lang/String" "COMPACT_STRINGS" "Z" (.int 1) A U U.heap ∧ vk_S 17 sl_ln sl_by z.2.1 z.2.2 A U U.heap ∧ (∀ i q, sl_tx[i]? = some q → vk_R "SeenLand$TextReader" q.1 q.2 (z.2.1 i) U) ∧ va_Zq "jdk/internal/util/Preconditions" "SIOOBE_FORMATTER" "Ljava/util/function/BiFunction;" A U U.heap
theorem sl_Z.go {A : Nat → Prop} {z : sl_K} {s U : State} (h : sl_Z A z s) (hW : s.WarmedH U.vm) (hq : ∀ a : Nat, a < s.heap.size → ¬ A a → U.heap[a]? = s.heap[a]?) : sl_Z A z U :=
  ⟨(h.1.kept hq).moved hW.alike, (h.2.1.kept hq).moved hW.alike, (h.2.2.1.kept hq).moved hW.alike, (h.2.2.2.1.kept hq).moved hW.alike, (h.2.2.2.2.1.kept hq).moved hW.alike, (h.2.2.2.2.2.1.kept hq).moved hW.alike, fun i q hi => (h.2.2.2.2.2.2.1 i q hi).warm hW, (h.2.2.2.2.2.2.2.kept hq).moved hW.alike⟩
/-- a method's context -/
def sl_C (own : String) (cc : ByteArray) (nL : Nat) (ret : Option FieldType) (cl : List vw_C) (L : List sl_E) (D : va_G) (cA : ClassId) (g : Nat → Nat) (A : Nat → Prop) (z : sl_K) (p : Program) (s : State) (m : MethodId) (meth : Method) (c : Code) : Prop :=
  p.tables.exec = Jvm.exec ∧ c.code = cc ∧ c.maxLocals = nL ∧ s.vm.findClass own = some m.cls ∧ meth.sig.returnType = ret ∧ meth.locks = false ∧ va_K D cl [(cA, .int)] s ∧ sl_D L g A ∧ sl_T s ∧ sl_Z A z s
def sl_W (cl : List vw_C) (L : List sl_E) (D : va_G) (cA : ClassId) (g : Nat → Nat) (A : Nat → Prop) (s : State) (M : sl_M) (H : Heap) (locs : List Loc) : Prop := va_P D cl (sl_w L cA g M) H ∧ va_S A s.heap H locs
def sl_A (cl : List vw_C) (L : List sl_E) (D : va_G) (cA : ClassId) (g : Nat → Nat) (A : Nat → Prop) (p : Program) (l : Launch) (e : Env) (R : Room) (s : State) (m : MethodId) (args : Array Value) (below : List Frame) (meth : Method) (c : Code) (Q : State → Prop) (nL pc : Nat) (lv : List (Nat × Value)) (st : List Value) (M : sl_M) : Prop :=
  ∀ (H : Heap) (locs : List Loc) (ls : Array Slot), sl_W cl L D cA g A s M H locs → lv_has ls nL lv → W p l e R s m args below meth c H locs 0 0 Q (F0 m pc ls st)
/-- the end of a method: its answer, the picture behind it -/
def sl_Q (cl : List vw_C) (L : List sl_E) (D : va_G) (cA : ClassId) (g : Nat → Nat) (A : Nat → Prop) (rv : Option Value) (M : sl_M) : Array Value → State → Outcome → State → Prop := fun _ st o t => o = .returned rv ∧ va_P D cl (sl_w L cA g M) t.heap ∧ va_F A st t
def sl_P (cl : List vw_C) (L : List sl_E) (D : va_G) (cA : ClassId) (g : Nat → Nat) (A : Nat → Prop) (z : sl_K) (M : sl_M) (U : State) : Prop := va_P D cl (sl_w L cA g M) U.heap ∧ va_K D cl [(cA, .int)] U ∧ sl_D L g A ∧ sl_T U ∧ sl_Z A z U
/-- a method's contract: from the picture M with these arguments it answers rv and leaves the picture M2 -/
def sl_N (cl : List vw_C) (L : List sl_E) (D : va_G) (cA : ClassId) (g : Nat → Nat) (A : Nat → Prop) (z : sl_K) (l : Launch) (y : MethodName) (cc : ByteArray) (nL : Nat) (ret : Option FieldType) (fr lo : Nat) (as : List Value) (M : sl_M) (rv : Option Value) (M2 : sl_M) : Prop :=
  Met l y [.code y cc nL ret] { frames := fr, cells := 0, slots := 0, locals := lo } (va_Pc as (sl_P cl L D cA g A z M)) (sl_Q cl L D cA g A rv M2) 0 0 A
/-! loads, stores, as numbers -/
def sl_ld (f : Nat → Int32) (n : Nat) (i : Int32) : Option Int32 := if i < 0 ∨ n ≤ i.toNatClampNeg then none else some (f i.toNatClampNeg)
def sl_st (M : sl_M) (r n : Nat) (i v : Int32) : Option sl_M := if i < 0 ∨ n ≤ i.toNatClampNeg then none else some (sl_up M r i.toNatClampNeg v)
def sl_bo (v : Int32) : Option Int32 := if v = 0 then some 0 else if v = 1 then some 1 else none
def sl_dv (x y : Int32) : Option Int32 := if y = 0 then none else some (x / y)
def sl_rm (x y : Int32) : Option Int32 := if y = 0 then none else some (x - x / y * y)
def sl_cp (M : sl_M) (r0 n0 r1 n1 : Nat) (sp dp n : Int32) : Option sl_M := if sp < 0 ∨ dp < 0 ∨ n < 0 ∨ n0 < sp.toNatClampNeg + n.toNatClampNeg ∨ n1 < dp.toNatClampNeg + n.toNatClampNeg then none else some (fun r => if r = r1 then va_cpy (M r0) (M r1) sp.toNatClampNeg dp.toNatClampNeg n.toNatClampNeg else M r)
theorem sl_ld_s {f : Nat → Int32} {n : Nat} {i v : Int32} (h : sl_ld f n i = some v) : vp_in i n ∧ f i.toNatClampNeg = v := by
  unfold sl_ld at h
  by_cases hc : i < 0 ∨ n ≤ i.toNatClampNeg
  · rw [if_pos hc] at h; cases h
  · rw [if_neg hc] at h; exact ⟨hc, Option.some.inj h⟩
theorem sl_st_s {M M2 : sl_M} {r n : Nat} {i v : Int32} (h : sl_st M r n i v = some M2) : vp_in i n ∧ sl_up M r i.toNatClampNeg v = M2 := by
  unfold sl_st at h
  by_cases hc : i < 0 ∨ n ≤ i.toNatClampNeg
  · rw [if_pos hc] at h; cases h
  · rw [if_neg hc] at h; exact ⟨hc, Option.some.inj h⟩
theorem sl_bo_s {v w : Int32} (h : sl_bo v = some w) : w = v ∧ (v = 0 ∨ v = 1) := by
  unfold sl_bo at h
  by_cases h0 : v = 0
  · rw [if_pos h0] at h; exact ⟨by rw [h0]; exact (Option.some.inj h).symm, Or.inl h0⟩
  · rw [if_neg h0] at h
    by_cases h1 : v = 1
    · rw [if_pos h1] at h; exact ⟨by rw [h1]; exact (Option.some.inj h).symm, Or.inr h1⟩
    · rw [if_neg h1] at h; cases h
theorem sl_b {α β : Type} {x : Option α} {f : α → Option β} {r : β} (h : x.bind f = some r) : ∃ v, x = some v ∧ f v = some r := by
  cases x with
  | none => cases h
  | some v => exact ⟨v, rfl, h⟩
theorem sl_t {α : Type} {c : Prop} [Decidable c] {a b r : α} (hc : c) (h : (if c then a else b) = r) : a = r := (if_pos hc).symm.trans h
theorem sl_n {α : Type} {c : Prop} [Decidable c] {a b r : α} (hc : ¬ c) (h : (if c then a else b) = r) : b = r := (if_neg hc).symm.trans h
theorem sl_up_o {M : sl_M} {r i : Nat} {v : Int32} : ∀ r', r' ≠ r → sl_up M r i v r' = M r' := fun r' h => by simp [sl_up, h]
theorem sl_up_s {M : sl_M} {r i : Nat} {v : Int32} : sl_up M r i v r = upd (M r) i v := by simp [sl_up]
