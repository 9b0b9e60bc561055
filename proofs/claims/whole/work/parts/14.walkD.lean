/-! X5 in -/
def f5_in (x0 : Int64) (x2 : Int64) (x4 : Int64) : Int32 := (if (lg_cmp x0 x2) < 0 then (0 : Int32) else (if 0 < (lg_cmp x0 x4) then (0 : Int32) else (1 : Int32)))
theorem f5_in_b {x0 : Int64} {x2 : Int64} {x4 : Int64} : f5_in x0 x2 x4 = 0 ∨ f5_in x0 x2 x4 = 1 := by
  rw [f5_in]
  first | exact if_b | ((repeat' split) <;> first | exact Or.inl rfl | exact Or.inr rfl)
theorem cc5_in {D : va_G} {cA : ClassId} {g : Nat → Nat} {A : Nat → Prop} {z : sl_K} {l : Launch} {x0 : Int64} {x2 : Int64} {x4 : Int64} {M : sl_M} {r : Int32} (h : f5_in x0 x2 x4 = r) : sl_N sl_cl LR D cA g A z l yX5_in cX5_in 6 (some .boolean) 0 0 [.long x0, .long x2, .long x4] M (some (.int r)) M := by
  refine sl_N.of (by decide) (Nat.le_of_ble_eq_true rfl) rfl ?_
  intro p e s m args below meth c C
  replace C : sl_C RX5 cX5_in 6 (some .boolean) sl_cl LR D cA g A z p s m meth c := C
  have hR : 0 ≤ (({ frames := 0, cells := 0, slots := 0, locals := 0 } : Room)).frames ∧ 0 ≤ (({ frames := 0, cells := 0, slots := 0, locals := 0 } : Room)).locals := ⟨Nat.le_refl _, Nat.le_refl _⟩
  rw [f5_in] at h
  refine sa_lload_n C dX5_in_0 rfl 0 rfl ?_
  refine sa_lload_n C dX5_in_1 rfl 1 rfl ?_
  refine sa_lcmp C dX5_in_2 ?_
  refine sa_if_lt C dX5_in_3 (tgt := 17) (by decide) (fun c1 => ?_) (fun c1 => ?_)
  · replace h := sl_t c1 h
    refine sa_iconst C dX5_in_17 ic_0 ?_
    exact sa_zret C dX5_in_18 (Or.inl rfl) h rfl
  · replace h := sl_n c1 h
    refine sa_lload_n C dX5_in_6 rfl 0 rfl ?_
    refine sa_lload C dX5_in_7 2 rfl ?_
    refine sa_lcmp C dX5_in_9 ?_
    refine sa_if_gt C dX5_in_10 (tgt := 17) (by decide) (fun c2 => ?_) (fun c2 => ?_)
    · replace h := sl_t c2 h
      refine sa_iconst C dX5_in_17 ic_0 ?_
      exact sa_zret C dX5_in_18 (Or.inl rfl) h rfl
    · replace h := sl_n c2 h
      refine sa_iconst C dX5_in_13 ic_1 ?_
      refine sa_goto C dX5_in_14 (tgt := 18) (by decide) ?_
      exact sa_zret C dX5_in_18 (Or.inr rfl) h rfl
/-! X5 finds -/
def f5_finds (x1 : Int32) (M : sl_M) : Option (Int32 × sl_M) := (sl_ld (M 4) 7 ((-1000001 : Int32) - x1)).bind fun v1 => (sl_st M 4 7 ((-1000001 : Int32) - x1) (v1 + (1 : Int32))).bind fun M2 => some (x1, M2)
theorem cc5_finds {D : va_G} {cA : ClassId} {g : Nat → Nat} {A : Nat → Prop} {z : sl_K} {l : Launch} {x1 : Int32} {M : sl_M} {r : Int32 × sl_M} (h : f5_finds x1 M = some r) : sl_N sl_cl LR D cA g A z l yX5_finds cX5_finds 2 (some .int) 0 0 [.ref (g 0), .int x1] M (some (.int r.1)) r.2 := by
  refine sl_N.of (by decide) (Nat.le_of_ble_eq_true rfl) rfl ?_
  intro p e s m args below meth c C
  replace C : sl_C RX5 cX5_finds 2 (some .int) sl_cl LR D cA g A z p s m meth c := C
  have hR : 0 ≤ (({ frames := 0, cells := 0, slots := 0, locals := 0 } : Room)).frames ∧ 0 ≤ (({ frames := 0, cells := 0, slots := 0, locals := 0 } : Room)).locals := ⟨Nat.le_refl _, Nat.le_refl _⟩
  rw [f5_finds] at h
  refine sa_aload_n C dX5_finds_0 rfl 0 rfl ?_
  refine sa_getR C hh_X5 (k := 3) dX5_finds_1 q_840 (by decide) lr_0 rfl ?_
  refine sa_ldc C dX5_finds_4 q_910 ?_
  refine sa_iload_n C dX5_finds_6 rfl 1 rfl ?_
  refine sa_isub C dX5_finds_7 ?_
  refine sa_dup2 C dX5_finds_8 rfl rfl ?_
  obtain ⟨v1, ev1, h⟩ := sl_b h
  refine sa_iald C dX5_finds_9 lr_4 ev1 ?_
  refine sa_iconst C dX5_finds_10 ic_1 ?_
  refine sa_iadd C dX5_finds_11 ?_
  obtain ⟨M2, eM2, h⟩ := sl_b h
  refine sa_iast C dX5_finds_12 lr_4 eM2 ?_
  refine sa_iload_n C dX5_finds_13 rfl 1 rfl ?_
  exact sa_iret C dX5_finds_14 (sl_p1 h) (sl_p2 h)
/-! X5 isCell -/
def f5_isCell (x0 : Int32) : Int32 := (f5_in x0.toInt64 (0 : Int64) (23 : Int64))
theorem f5_isCell_b {x0 : Int32} : f5_isCell x0 = 0 ∨ f5_isCell x0 = 1 := by
  rw [f5_isCell]
  first | exact f5_in_b | ((repeat' split) <;> first | exact Or.inl rfl | exact Or.inr rfl)
theorem cc5_isCell {D : va_G} {cA : ClassId} {g : Nat → Nat} {A : Nat → Prop} {z : sl_K} {l : Launch} {x0 : Int32} {M : sl_M} {r : Int32} (h : f5_isCell x0 = r) : sl_N sl_cl LR D cA g A z l yX5_isCell cX5_isCell 1 (some .boolean) 1 25 [.int x0] M (some (.int r)) M := by
  refine sl_N.of (by decide) (Nat.le_of_ble_eq_true rfl) rfl ?_
  intro p e s m args below meth c C
  replace C : sl_C RX5 cX5_isCell 1 (some .boolean) sl_cl LR D cA g A z p s m meth c := C
  have hR : 1 ≤ (({ frames := 1, cells := 0, slots := 0, locals := 25 } : Room)).frames ∧ 25 ≤ (({ frames := 1, cells := 0, slots := 0, locals := 25 } : Room)).locals := ⟨Nat.le_refl _, Nat.le_refl _⟩
  rw [f5_isCell] at h
  refine sa_iload_n C dX5_isCell_0 rfl 0 rfl ?_
  refine sa_i2l C dX5_isCell_1 ?_
  refine sa_lconst C dX5_isCell_2 (v := 0) rfl ?_
  refine sa_ldc2 C dX5_isCell_3 q_905 ?_
  refine sa_invSi C yy_X5_in q_907 q_906 dX5_isCell_6 (As := [.long x0.toInt64, .long (0 : Int64), .long (23 : Int64)]) (rest := []) rfl ⟨Nat.le_trans (Nat.le_of_ble_eq_true rfl) hR.1, Nat.le_trans (Nat.le_of_ble_eq_true rfl) hR.2⟩ (Nat.le_of_ble_eq_true rfl) (cc5_in rfl) rfl ?_
  exact sa_zret C dX5_isCell_9 (by first | assumption | exact f5_in_b | ((repeat' split) <;> first | exact Or.inl rfl | exact Or.inr rfl)) h rfl
/-! X5 isKind -/
def f5_isKind (x0 : Int32) : Int32 := (f5_in x0.toInt64 (0 : Int64) (6 : Int64))
theorem f5_isKind_b {x0 : Int32} : f5_isKind x0 = 0 ∨ f5_isKind x0 = 1 := by
  rw [f5_isKind]
  first | exact f5_in_b | ((repeat' split) <;> first | exact Or.inl rfl | exact Or.inr rfl)
theorem cc5_isKind {D : va_G} {cA : ClassId} {g : Nat → Nat} {A : Nat → Prop} {z : sl_K} {l : Launch} {x0 : Int32} {M : sl_M} {r : Int32} (h : f5_isKind x0 = r) : sl_N sl_cl LR D cA g A z l yX5_isKind cX5_isKind 1 (some .boolean) 1 25 [.int x0] M (some (.int r)) M := by
  refine sl_N.of (by decide) (Nat.le_of_ble_eq_true rfl) rfl ?_
  intro p e s m args below meth c C
  replace C : sl_C RX5 cX5_isKind 1 (some .boolean) sl_cl LR D cA g A z p s m meth c := C
  have hR : 1 ≤ (({ frames := 1, cells := 0, slots := 0, locals := 25 } : Room)).frames ∧ 25 ≤ (({ frames := 1, cells := 0, slots := 0, locals := 25 } : Room)).locals := ⟨Nat.le_refl _, Nat.le_refl _⟩
  rw [f5_isKind] at h
  refine sa_iload_n C dX5_isKind_0 rfl 0 rfl ?_
  refine sa_i2l C dX5_isKind_1 ?_
  refine sa_lconst C dX5_isKind_2 (v := 0) rfl ?_
  refine sa_ldc2 C dX5_isKind_3 q_922 ?_
  refine sa_invSi C yy_X5_in q_907 q_906 dX5_isKind_6 (As := [.long x0.toInt64, .long (0 : Int64), .long (6 : Int64)]) (rest := []) rfl ⟨Nat.le_trans (Nat.le_of_ble_eq_true rfl) hR.1, Nat.le_trans (Nat.le_of_ble_eq_true rfl) hR.2⟩ (Nat.le_of_ble_eq_true rfl) (cc5_in rfl) rfl ?_
  exact sa_zret C dX5_isKind_9 (by first | assumption | exact f5_in_b | ((repeat' split) <;> first | exact Or.inl rfl | exact Or.inr rfl)) h rfl
/-! X5 isFloor -/
def f5_isFloor (x0 : Int32) : Int32 := (f5_in x0.toInt64 (1 : Int64) (40 : Int64))
theorem f5_isFloor_b {x0 : Int32} : f5_isFloor x0 = 0 ∨ f5_isFloor x0 = 1 := by
  rw [f5_isFloor]
  first | exact f5_in_b | ((repeat' split) <;> first | exact Or.inl rfl | exact Or.inr rfl)
theorem cc5_isFloor {D : va_G} {cA : ClassId} {g : Nat → Nat} {A : Nat → Prop} {z : sl_K} {l : Launch} {x0 : Int32} {M : sl_M} {r : Int32} (h : f5_isFloor x0 = r) : sl_N sl_cl LR D cA g A z l yX5_isFloor cX5_isFloor 1 (some .boolean) 1 25 [.int x0] M (some (.int r)) M := by
  refine sl_N.of (by decide) (Nat.le_of_ble_eq_true rfl) rfl ?_
  intro p e s m args below meth c C
  replace C : sl_C RX5 cX5_isFloor 1 (some .boolean) sl_cl LR D cA g A z p s m meth c := C
  have hR : 1 ≤ (({ frames := 1, cells := 0, slots := 0, locals := 25 } : Room)).frames ∧ 25 ≤ (({ frames := 1, cells := 0, slots := 0, locals := 25 } : Room)).locals := ⟨Nat.le_refl _, Nat.le_refl _⟩
  rw [f5_isFloor] at h
  refine sa_iload_n C dX5_isFloor_0 rfl 0 rfl ?_
  refine sa_i2l C dX5_isFloor_1 ?_
  refine sa_lconst C dX5_isFloor_2 (v := 1) rfl ?_
  refine sa_ldc2 C dX5_isFloor_3 q_959 ?_
  refine sa_invSi C yy_X5_in q_907 q_906 dX5_isFloor_6 (As := [.long x0.toInt64, .long (1 : Int64), .long (40 : Int64)]) (rest := []) rfl ⟨Nat.le_trans (Nat.le_of_ble_eq_true rfl) hR.1, Nat.le_trans (Nat.le_of_ble_eq_true rfl) hR.2⟩ (Nat.le_of_ble_eq_true rfl) (cc5_in rfl) rfl ?_
  exact sa_zret C dX5_isFloor_9 (by first | assumption | exact f5_in_b | ((repeat' split) <;> first | exact Or.inl rfl | exact Or.inr rfl)) h rfl
/-! X5 isAhead -/
def f5_isAhead (x0 : Int32) : Int32 := (f5_in x0.toInt64 (0 : Int64) (60 : Int64))
theorem f5_isAhead_b {x0 : Int32} : f5_isAhead x0 = 0 ∨ f5_isAhead x0 = 1 := by
  rw [f5_isAhead]
  first | exact f5_in_b | ((repeat' split) <;> first | exact Or.inl rfl | exact Or.inr rfl)
theorem cc5_isAhead {D : va_G} {cA : ClassId} {g : Nat → Nat} {A : Nat → Prop} {z : sl_K} {l : Launch} {x0 : Int32} {M : sl_M} {r : Int32} (h : f5_isAhead x0 = r) : sl_N sl_cl LR D cA g A z l yX5_isAhead cX5_isAhead 1 (some .boolean) 1 25 [.int x0] M (some (.int r)) M := by
  refine sl_N.of (by decide) (Nat.le_of_ble_eq_true rfl) rfl ?_
  intro p e s m args below meth c C
  replace C : sl_C RX5 cX5_isAhead 1 (some .boolean) sl_cl LR D cA g A z p s m meth c := C
  have hR : 1 ≤ (({ frames := 1, cells := 0, slots := 0, locals := 25 } : Room)).frames ∧ 25 ≤ (({ frames := 1, cells := 0, slots := 0, locals := 25 } : Room)).locals := ⟨Nat.le_refl _, Nat.le_refl _⟩
  rw [f5_isAhead] at h
  refine sa_iload_n C dX5_isAhead_0 rfl 0 rfl ?_
  refine sa_i2l C dX5_isAhead_1 ?_
  refine sa_lconst C dX5_isAhead_2 (v := 0) rfl ?_
  refine sa_ldc2 C dX5_isAhead_3 q_1108 ?_
  refine sa_invSi C yy_X5_in q_907 q_906 dX5_isAhead_6 (As := [.long x0.toInt64, .long (0 : Int64), .long (60 : Int64)]) (rest := []) rfl ⟨Nat.le_trans (Nat.le_of_ble_eq_true rfl) hR.1, Nat.le_trans (Nat.le_of_ble_eq_true rfl) hR.2⟩ (Nat.le_of_ble_eq_true rfl) (cc5_in rfl) rfl ?_
  exact sa_zret C dX5_isAhead_9 (by first | assumption | exact f5_in_b | ((repeat' split) <;> first | exact Or.inl rfl | exact Or.inr rfl)) h rfl
/-! X5 isTax -/
def f5_isTax (x0 : Int32) : Int32 := (f5_in x0.toInt64 (0 : Int64) (99999 : Int64))
theorem f5_isTax_b {x0 : Int32} : f5_isTax x0 = 0 ∨ f5_isTax x0 = 1 := by
  rw [f5_isTax]
  first | exact f5_in_b | ((repeat' split) <;> first | exact Or.inl rfl | exact Or.inr rfl)
theorem cc5_isTax {D : va_G} {cA : ClassId} {g : Nat → Nat} {A : Nat → Prop} {z : sl_K} {l : Launch} {x0 : Int32} {M : sl_M} {r : Int32} (h : f5_isTax x0 = r) : sl_N sl_cl LR D cA g A z l yX5_isTax cX5_isTax 1 (some .boolean) 1 25 [.int x0] M (some (.int r)) M := by
  refine sl_N.of (by decide) (Nat.le_of_ble_eq_true rfl) rfl ?_
  intro p e s m args below meth c C
  replace C : sl_C RX5 cX5_isTax 1 (some .boolean) sl_cl LR D cA g A z p s m meth c := C
  have hR : 1 ≤ (({ frames := 1, cells := 0, slots := 0, locals := 25 } : Room)).frames ∧ 25 ≤ (({ frames := 1, cells := 0, slots := 0, locals := 25 } : Room)).locals := ⟨Nat.le_refl _, Nat.le_refl _⟩
  rw [f5_isTax] at h
  refine sa_iload_n C dX5_isTax_0 rfl 0 rfl ?_
  refine sa_i2l C dX5_isTax_1 ?_
  refine sa_lconst C dX5_isTax_2 (v := 0) rfl ?_
  refine sa_ldc2 C dX5_isTax_3 q_1100 ?_
  refine sa_invSi C yy_X5_in q_907 q_906 dX5_isTax_6 (As := [.long x0.toInt64, .long (0 : Int64), .long (99999 : Int64)]) (rest := []) rfl ⟨Nat.le_trans (Nat.le_of_ble_eq_true rfl) hR.1, Nat.le_trans (Nat.le_of_ble_eq_true rfl) hR.2⟩ (Nat.le_of_ble_eq_true rfl) (cc5_in rfl) rfl ?_
  exact sa_zret C dX5_isTax_9 (by first | assumption | exact f5_in_b | ((repeat' split) <;> first | exact Or.inl rfl | exact Or.inr rfl)) h rfl
/-! X5 isHouse -/
def f5_isHouse (x1 : Int32) (M : sl_M) : Option Int32 := (sl_ld (M 1) 111 (1 : Int32)).bind fun v1 => (sl_bo (f5_in x1.toInt64 (0 : Int64) ((v1 - (1 : Int32)).toInt64))).bind fun v2 => some v2
theorem cc5_isHouse {D : va_G} {cA : ClassId} {g : Nat → Nat} {A : Nat → Prop} {z : sl_K} {l : Launch} {x1 : Int32} {M : sl_M} {r : Int32} (h : f5_isHouse x1 M = some r) : sl_N sl_cl LR D cA g A z l yX5_isHouse cX5_isHouse 2 (some .boolean) 1 25 [.ref (g 0), .int x1] M (some (.int r)) M := by
  refine sl_N.of (by decide) (Nat.le_of_ble_eq_true rfl) rfl ?_
  intro p e s m args below meth c C
  replace C : sl_C RX5 cX5_isHouse 2 (some .boolean) sl_cl LR D cA g A z p s m meth c := C
  have hR : 1 ≤ (({ frames := 1, cells := 0, slots := 0, locals := 25 } : Room)).frames ∧ 25 ≤ (({ frames := 1, cells := 0, slots := 0, locals := 25 } : Room)).locals := ⟨Nat.le_refl _, Nat.le_refl _⟩
  rw [f5_isHouse] at h
  refine sa_iload_n C dX5_isHouse_0 rfl 1 rfl ?_
  refine sa_i2l C dX5_isHouse_1 ?_
  refine sa_lconst C dX5_isHouse_2 (v := 0) rfl ?_
  refine sa_aload_n C dX5_isHouse_3 rfl 0 rfl ?_
  refine sa_getR C hh_X5 (k := 0) dX5_isHouse_4 q_837 (by decide) lr_0 rfl ?_
  refine sa_iconst C dX5_isHouse_7 ic_1 ?_
  obtain ⟨v1, ev1, h⟩ := sl_b h
  refine sa_iald C dX5_isHouse_8 lr_1 ev1 ?_
  refine sa_iconst C dX5_isHouse_9 ic_1 ?_
  refine sa_isub C dX5_isHouse_10 ?_
  refine sa_i2l C dX5_isHouse_11 ?_
  refine sa_invSi C yy_X5_in q_907 q_906 dX5_isHouse_12 (As := [.long x1.toInt64, .long (0 : Int64), .long (v1 - (1 : Int32)).toInt64]) (rest := []) rfl ⟨Nat.le_trans (Nat.le_of_ble_eq_true rfl) hR.1, Nat.le_trans (Nat.le_of_ble_eq_true rfl) hR.2⟩ (Nat.le_of_ble_eq_true rfl) (cc5_in rfl) rfl ?_
  obtain ⟨v2, ev2, h⟩ := sl_b h
  obtain ⟨ev2, bv2⟩ := sl_bo_s ev2
  rw [← ev2]
  exact sa_zret C dX5_isHouse_15 (sl_b01 ev2 bv2) (Option.some.inj h) rfl
/-! X5 isStretch -/
def f5_isStretch (x0 : Int32) (x1 : Int32) : Int32 := (if (f5_isCell x0) = 0 then (0 : Int32) else (if (f5_isCell x1) = 0 then (0 : Int32) else (if x1 < x0 then (0 : Int32) else (1 : Int32))))
theorem f5_isStretch_b {x0 : Int32} {x1 : Int32} : f5_isStretch x0 x1 = 0 ∨ f5_isStretch x0 x1 = 1 := by
  rw [f5_isStretch]
  first | exact if_b | ((repeat' split) <;> first | exact Or.inl rfl | exact Or.inr rfl)
theorem cc5_isStretch {D : va_G} {cA : ClassId} {g : Nat → Nat} {A : Nat → Prop} {z : sl_K} {l : Launch} {x0 : Int32} {x1 : Int32} {M : sl_M} {r : Int32} (h : f5_isStretch x0 x1 = r) : sl_N sl_cl LR D cA g A z l yX5_isStretch cX5_isStretch 2 (some .boolean) 2 45 [.int x0, .int x1] M (some (.int r)) M := by
  refine sl_N.of (by decide) (Nat.le_of_ble_eq_true rfl) rfl ?_
  intro p e s m args below meth c C
  replace C : sl_C RX5 cX5_isStretch 2 (some .boolean) sl_cl LR D cA g A z p s m meth c := C
  have hR : 2 ≤ (({ frames := 2, cells := 0, slots := 0, locals := 45 } : Room)).frames ∧ 45 ≤ (({ frames := 2, cells := 0, slots := 0, locals := 45 } : Room)).locals := ⟨Nat.le_refl _, Nat.le_refl _⟩
  rw [f5_isStretch] at h
  refine sa_iload_n C dX5_isStretch_0 rfl 0 rfl ?_
  refine sa_invSi C yy_X5_isCell q_903 q_902 dX5_isStretch_1 (As := [.int x0]) (rest := []) rfl ⟨Nat.le_trans (Nat.le_of_ble_eq_true rfl) hR.1, Nat.le_trans (Nat.le_of_ble_eq_true rfl) hR.2⟩ (Nat.le_of_ble_eq_true rfl) (cc5_isCell rfl) rfl ?_
  refine sa_if_eq C dX5_isStretch_4 (tgt := 23) (by decide) (fun c1 => ?_) (fun c1 => ?_)
  · replace h := sl_t c1 h
    refine sa_iconst C dX5_isStretch_23 ic_0 ?_
    exact sa_zret C dX5_isStretch_24 (Or.inl rfl) h rfl
  · replace h := sl_n c1 h
    refine sa_iload_n C dX5_isStretch_7 rfl 1 rfl ?_
    refine sa_invSi C yy_X5_isCell q_903 q_902 dX5_isStretch_8 (As := [.int x1]) (rest := []) rfl ⟨Nat.le_trans (Nat.le_of_ble_eq_true rfl) hR.1, Nat.le_trans (Nat.le_of_ble_eq_true rfl) hR.2⟩ (Nat.le_of_ble_eq_true rfl) (cc5_isCell rfl) rfl ?_
    refine sa_if_eq C dX5_isStretch_11 (tgt := 23) (by decide) (fun c2 => ?_) (fun c2 => ?_)
    · replace h := sl_t c2 h
      refine sa_iconst C dX5_isStretch_23 ic_0 ?_
      exact sa_zret C dX5_isStretch_24 (Or.inl rfl) h rfl
    · replace h := sl_n c2 h
      refine sa_iload_n C dX5_isStretch_14 rfl 0 rfl ?_
      refine sa_iload_n C dX5_isStretch_15 rfl 1 rfl ?_
      refine sa_icmp_gt C dX5_isStretch_16 (tgt := 23) (by decide) (fun c3 => ?_) (fun c3 => ?_)
      · replace h := sl_t c3 h
        refine sa_iconst C dX5_isStretch_23 ic_0 ?_
        exact sa_zret C dX5_isStretch_24 (Or.inl rfl) h rfl
      · replace h := sl_n c3 h
        refine sa_iconst C dX5_isStretch_19 ic_1 ?_
        refine sa_goto C dX5_isStretch_20 (tgt := 24) (by decide) ?_
        exact sa_zret C dX5_isStretch_24 (Or.inr rfl) h rfl
/-! X5 has -/
def f5_has (x0 : Int32) (x1 : Int32) : Int32 := (if ((x0 >>> (x1 &&& 31)) &&& (1 : Int32)) = (1 : Int32) then (1 : Int32) else (0 : Int32))
theorem f5_has_b {x0 : Int32} {x1 : Int32} : f5_has x0 x1 = 0 ∨ f5_has x0 x1 = 1 := by
  rw [f5_has]
  first | exact if_b | ((repeat' split) <;> first | exact Or.inl rfl | exact Or.inr rfl)
theorem cc5_has {D : va_G} {cA : ClassId} {g : Nat → Nat} {A : Nat → Prop} {z : sl_K} {l : Launch} {x0 : Int32} {x1 : Int32} {M : sl_M} {r : Int32} (h : f5_has x0 x1 = r) : sl_N sl_cl LR D cA g A z l yX5_has cX5_has 2 (some .boolean) 0 0 [.int x0, .int x1] M (some (.int r)) M := by
  refine sl_N.of (by decide) (Nat.le_of_ble_eq_true rfl) rfl ?_
  intro p e s m args below meth c C
  replace C : sl_C RX5 cX5_has 2 (some .boolean) sl_cl LR D cA g A z p s m meth c := C
  have hR : 0 ≤ (({ frames := 0, cells := 0, slots := 0, locals := 0 } : Room)).frames ∧ 0 ≤ (({ frames := 0, cells := 0, slots := 0, locals := 0 } : Room)).locals := ⟨Nat.le_refl _, Nat.le_refl _⟩
  rw [f5_has] at h
  refine sa_iload_n C dX5_has_0 rfl 0 rfl ?_
  refine sa_iload_n C dX5_has_1 rfl 1 rfl ?_
  refine sa_ishr C dX5_has_2 ?_
  refine sa_iconst C dX5_has_3 ic_1 ?_
  refine sa_iand C dX5_has_4 ?_
  refine sa_iconst C dX5_has_5 ic_1 ?_
  refine sa_icmp_ne C dX5_has_6 (tgt := 13) (by decide) (fun c1 => ?_) (fun c1 => ?_)
  · replace h := sl_n c1 h
    refine sa_iconst C dX5_has_13 ic_0 ?_
    exact sa_zret C dX5_has_14 (Or.inl rfl) h rfl
  · replace h := sl_t c1 h
    refine sa_iconst C dX5_has_9 ic_1 ?_
    refine sa_goto C dX5_has_10 (tgt := 14) (by decide) ?_
    exact sa_zret C dX5_has_14 (Or.inr rfl) h rfl
/-! X5 ones -/
def f5_ones_4 : Nat → Int32 → Int32 → Option Int32
  | 0, _, _ => none
  | n + 1, x1, x2 => (if x2 = 0 then some x1 else f5_ones_4 n (x1 + (1 : Int32)) (x2 &&& (x2 - (1 : Int32))))
def f5_ones (x0 : Int32) : Option Int32 := f5_ones_4 400 (0 : Int32) x0
theorem w5_ones_4 {D : va_G} {cA : ClassId} {g : Nat → Nat} {A : Nat → Prop} {z : sl_K} {l : Launch} {p : Program} {e : Env} {R : Room} {s : State} {m : MethodId} {args : Array Value} {below : List Frame} {meth : Method} {c : Code} (C : sl_C RX5 cX5_ones 3 (some .int) sl_cl LR D cA g A z p s m meth c) (hR : 0 ≤ R.frames ∧ 0 ≤ R.locals) {M : sl_M} {r : Int32} : ∀ (n : Nat) {x1 : Int32} {x2 : Int32}, f5_ones_4 n x1 x2 = some r → sl_A sl_cl LR D cA g A p l e R s m args below meth c (MQ below (sl_Q sl_cl LR D cA g A (some (.int r)) M) args s 0 0 A) 3 4 [(1, .int x1), (2, .int x2)] [] M := by
  intro n
  induction n with
  | zero =>
    intro x1 x2 h
    exact absurd h.symm (Option.some_ne_none _)
  | succ n ih =>
    intro x1 x2 h
    rw [f5_ones_4] at h
    refine sa_iload_n C dX5_ones_4 rfl 1 rfl ?_
    refine sa_if_eq C dX5_ones_5 (tgt := 20) (by decide) (fun c1 => ?_) (fun c1 => ?_)
    · replace h := sl_t c1 h
      refine sa_iload_n C dX5_ones_20 rfl 0 rfl ?_
      exact sa_iret C dX5_ones_21 (Option.some.inj h) rfl
    · replace h := sl_n c1 h
      refine sa_iinc C dX5_ones_8 0 rfl (v := (x1 + (1 : Int32))) (by rw [ic_1]) (by decide) (lv2 := [(1, .int (x1 + (1 : Int32))), (2, .int x2)]) rfl ?_
      refine sa_iload_n C dX5_ones_11 rfl 1 rfl ?_
      refine sa_iload_n C dX5_ones_12 rfl 1 rfl ?_
      refine sa_iconst C dX5_ones_13 ic_1 ?_
      refine sa_isub C dX5_ones_14 ?_
      refine sa_iand C dX5_ones_15 ?_
      refine sa_istore_n C dX5_ones_16 rfl (by decide) (lv2 := [(2, .int (x2 &&& (x2 - (1 : Int32)))), (1, .int (x1 + (1 : Int32)))]) rfl ?_
      refine sa_goto C dX5_ones_17 (tgt := 4) (by decide) ?_
      exact sa_sub [1, 0] rfl (ih h)
theorem cc5_ones {D : va_G} {cA : ClassId} {g : Nat → Nat} {A : Nat → Prop} {z : sl_K} {l : Launch} {x0 : Int32} {M : sl_M} {r : Int32} (h : f5_ones x0 = some r) : sl_N sl_cl LR D cA g A z l yX5_ones cX5_ones 3 (some .int) 0 0 [.int x0] M (some (.int r)) M := by
  refine sl_N.of (by decide) (Nat.le_of_ble_eq_true rfl) rfl ?_
  intro p e s m args below meth c C
  replace C : sl_C RX5 cX5_ones 3 (some .int) sl_cl LR D cA g A z p s m meth c := C
  have hR : 0 ≤ (({ frames := 0, cells := 0, slots := 0, locals := 0 } : Room)).frames ∧ 0 ≤ (({ frames := 0, cells := 0, slots := 0, locals := 0 } : Room)).locals := ⟨Nat.le_refl _, Nat.le_refl _⟩
  rw [f5_ones] at h
  refine sa_iconst C dX5_ones_0 ic_0 ?_
  refine sa_istore_n C dX5_ones_1 rfl (by decide) (lv2 := [(1, .int (0 : Int32)), (0, .int x0)]) rfl ?_
  refine sa_iload_n C dX5_ones_2 rfl 1 rfl ?_
  refine sa_istore_n C dX5_ones_3 rfl (by decide) (lv2 := [(2, .int x0), (1, .int (0 : Int32)), (0, .int x0)]) rfl ?_
  exact sa_sub [1, 0] rfl (w5_ones_4 C hR 400 h)
/-! X5 size -/
def f5_size (x0 : Int32) : Int32 := (if 0 ≤ x0 then x0 else ((0 : Int32) - x0))
theorem cc5_size {D : va_G} {cA : ClassId} {g : Nat → Nat} {A : Nat → Prop} {z : sl_K} {l : Launch} {x0 : Int32} {M : sl_M} {r : Int32} (h : f5_size x0 = r) : sl_N sl_cl LR D cA g A z l yX5_size cX5_size 1 (some .int) 0 0 [.int x0] M (some (.int r)) M := by
  refine sl_N.of (by decide) (Nat.le_of_ble_eq_true rfl) rfl ?_
  intro p e s m args below meth c C
  replace C : sl_C RX5 cX5_size 1 (some .int) sl_cl LR D cA g A z p s m meth c := C
  have hR : 0 ≤ (({ frames := 0, cells := 0, slots := 0, locals := 0 } : Room)).frames ∧ 0 ≤ (({ frames := 0, cells := 0, slots := 0, locals := 0 } : Room)).locals := ⟨Nat.le_refl _, Nat.le_refl _⟩
  rw [f5_size] at h
  refine sa_iload_n C dX5_size_0 rfl 0 rfl ?_
  refine sa_if_ge C dX5_size_1 (tgt := 10) (by decide) (fun c1 => ?_) (fun c1 => ?_)
  · replace h := sl_t c1 h
    refine sa_iload_n C dX5_size_10 rfl 0 rfl ?_
    exact sa_iret C dX5_size_11 h rfl
  · replace h := sl_n c1 h
    refine sa_iconst C dX5_size_4 ic_0 ?_
    refine sa_iload_n C dX5_size_5 rfl 0 rfl ?_
    refine sa_isub C dX5_size_6 ?_
    refine sa_goto C dX5_size_7 (tgt := 11) (by decide) ?_
    exact sa_iret C dX5_size_11 h rfl
/-! X5 next -/
def f5_next (M : sl_M) : Option (Int32 × sl_M) := (sl_ld (M 1) 111 (4 : Int32)).bind fun v1 => (sl_st M 1 111 (4 : Int32) ((v1 * (1103515245 : Int32)) + (12345 : Int32))).bind fun M2 => (sl_ld (M2 1) 111 (4 : Int32)).bind fun v3 => some ((v3.toUInt32 >>> ((8 : Int32).toUInt32 &&& Int32.toUInt32 31)).toInt32, M2)
theorem cc5_next {D : va_G} {cA : ClassId} {g : Nat → Nat} {A : Nat → Prop} {z : sl_K} {l : Launch} {M : sl_M} {r : Int32 × sl_M} (h : f5_next M = some r) : sl_N sl_cl LR D cA g A z l yX5_next cX5_next 1 (some .int) 0 0 [.ref (g 0)] M (some (.int r.1)) r.2 := by
  refine sl_N.of (by decide) (Nat.le_of_ble_eq_true rfl) rfl ?_
  intro p e s m args below meth c C
  replace C : sl_C RX5 cX5_next 1 (some .int) sl_cl LR D cA g A z p s m meth c := C
  have hR : 0 ≤ (({ frames := 0, cells := 0, slots := 0, locals := 0 } : Room)).frames ∧ 0 ≤ (({ frames := 0, cells := 0, slots := 0, locals := 0 } : Room)).locals := ⟨Nat.le_refl _, Nat.le_refl _⟩
  rw [f5_next] at h
  refine sa_aload_n C dX5_next_0 rfl 0 rfl ?_
  refine sa_getR C hh_X5 (k := 0) dX5_next_1 q_837 (by decide) lr_0 rfl ?_
  refine sa_iconst C dX5_next_4 ic_4 ?_
  refine sa_aload_n C dX5_next_5 rfl 0 rfl ?_
  refine sa_getR C hh_X5 (k := 0) dX5_next_6 q_837 (by decide) lr_0 rfl ?_
  refine sa_iconst C dX5_next_9 ic_4 ?_
  obtain ⟨v1, ev1, h⟩ := sl_b h
  refine sa_iald C dX5_next_10 lr_1 ev1 ?_
  refine sa_ldc C dX5_next_11 q_1199 ?_
  refine sa_imul C dX5_next_13 ?_
  refine sa_sipush C dX5_next_14 sp_12345 ?_
  refine sa_iadd C dX5_next_17 ?_
  obtain ⟨M2, eM2, h⟩ := sl_b h
  refine sa_iast C dX5_next_18 lr_1 eM2 ?_
  refine sa_aload_n C dX5_next_19 rfl 0 rfl ?_
  refine sa_getR C hh_X5 (k := 0) dX5_next_20 q_837 (by decide) lr_0 rfl ?_
  refine sa_iconst C dX5_next_23 ic_4 ?_
  obtain ⟨v3, ev3, h⟩ := sl_b h
  refine sa_iald C dX5_next_24 lr_1 ev3 ?_
  refine sa_bipush C dX5_next_25 bp_8 ?_
  refine sa_iushr C dX5_next_27 ?_
  exact sa_iret C dX5_next_28 (sl_p1 h) (sl_p2 h)
/-! X5 puts -/
def f5_puts_2 : Nat → Int32 → sl_M → Option sl_M
  | 0, _, _ => none
  | n + 1, x1, M => (if (111 : Int32) ≤ x1 then some M else (sl_ld (M 1) 111 x1).bind fun v2 => (sl_st M 3 111 x1 v2).bind fun M3 => f5_puts_2 n (x1 + (1 : Int32)) M3)
def f5_puts (M : sl_M) : Option sl_M := f5_puts_2 400 (0 : Int32) M
theorem w5_puts_2 {D : va_G} {cA : ClassId} {g : Nat → Nat} {A : Nat → Prop} {z : sl_K} {l : Launch} {p : Program} {e : Env} {R : Room} {s : State} {m : MethodId} {args : Array Value} {below : List Frame} {meth : Method} {c : Code} (C : sl_C RX5 cX5_puts 2 none sl_cl LR D cA g A z p s m meth c) (hR : 0 ≤ R.frames ∧ 0 ≤ R.locals) {r : sl_M} : ∀ (n : Nat) {x1 : Int32} {M : sl_M}, f5_puts_2 n x1 M = some r → sl_A sl_cl LR D cA g A p l e R s m args below meth c (MQ below (sl_Q sl_cl LR D cA g A none r) args s 0 0 A) 2 2 [(0, .ref (g 0)), (1, .int x1)] [] M := by
  intro n
  induction n with
  | zero =>
    intro x1 M h
    exact absurd h.symm (Option.some_ne_none _)
  | succ n ih =>
    intro x1 M h
    rw [f5_puts_2] at h
    refine sa_iload_n C dX5_puts_2 rfl 1 rfl ?_
    refine sa_bipush C dX5_puts_3 bp_111 ?_
    refine sa_icmp_ge C dX5_puts_5 (tgt := 26) (by decide) (fun c1 => ?_) (fun c1 => ?_)
    · replace h := sl_t c1 h
      exact sa_vret C dX5_puts_26 (Option.some.inj h)
    · replace h := sl_n c1 h
      refine sa_aload_n C dX5_puts_8 rfl 0 rfl ?_
      refine sa_getR C hh_X5 (k := 2) dX5_puts_9 q_839 (by decide) lr_0 rfl ?_
      refine sa_iload_n C dX5_puts_12 rfl 1 rfl ?_
      refine sa_aload_n C dX5_puts_13 rfl 0 rfl ?_
      refine sa_getR C hh_X5 (k := 0) dX5_puts_14 q_837 (by decide) lr_0 rfl ?_
      refine sa_iload_n C dX5_puts_17 rfl 1 rfl ?_
      obtain ⟨v2, ev2, h⟩ := sl_b h
      refine sa_iald C dX5_puts_18 lr_1 ev2 ?_
      obtain ⟨M3, eM3, h⟩ := sl_b h
      refine sa_iast C dX5_puts_19 lr_3 eM3 ?_
      refine sa_iinc C dX5_puts_20 1 rfl (v := (x1 + (1 : Int32))) (by rw [ic_1]) (by decide) (lv2 := [(1, .int (x1 + (1 : Int32))), (0, .ref (g 0))]) rfl ?_
      refine sa_goto C dX5_puts_23 (tgt := 2) (by decide) ?_
      exact sa_sub [1, 0] rfl (ih h)
theorem cc5_puts {D : va_G} {cA : ClassId} {g : Nat → Nat} {A : Nat → Prop} {z : sl_K} {l : Launch} {M : sl_M} {r : sl_M} (h : f5_puts M = some r) : sl_N sl_cl LR D cA g A z l yX5_puts cX5_puts 2 none 0 0 [.ref (g 0)] M none r := by
  refine sl_N.of (by decide) (Nat.le_of_ble_eq_true rfl) rfl ?_
  intro p e s m args below meth c C
  replace C : sl_C RX5 cX5_puts 2 none sl_cl LR D cA g A z p s m meth c := C
  have hR : 0 ≤ (({ frames := 0, cells := 0, slots := 0, locals := 0 } : Room)).frames ∧ 0 ≤ (({ frames := 0, cells := 0, slots := 0, locals := 0 } : Room)).locals := ⟨Nat.le_refl _, Nat.le_refl _⟩
  rw [f5_puts] at h
  refine sa_iconst C dX5_puts_0 ic_0 ?_
  refine sa_istore_n C dX5_puts_1 rfl (by decide) (lv2 := [(1, .int (0 : Int32)), (0, .ref (g 0))]) rfl ?_
  exact sa_sub [1, 0] rfl (w5_puts_2 C hR 400 h)
/-! X5 putsBack -/
def f5_putsBack_2 : Nat → Int32 → sl_M → Option sl_M
  | 0, _, _ => none
  | n + 1, x1, M => (if (111 : Int32) ≤ x1 then some M else (sl_ld (M 3) 111 x1).bind fun v2 => (sl_st M 1 111 x1 v2).bind fun M3 => f5_putsBack_2 n (x1 + (1 : Int32)) M3)
def f5_putsBack (M : sl_M) : Option sl_M := f5_putsBack_2 400 (0 : Int32) M
theorem w5_putsBack_2 {D : va_G} {cA : ClassId} {g : Nat → Nat} {A : Nat → Prop} {z : sl_K} {l : Launch} {p : Program} {e : Env} {R : Room} {s : State} {m : MethodId} {args : Array Value} {below : List Frame} {meth : Method} {c : Code} (C : sl_C RX5 cX5_putsBack 2 none sl_cl LR D cA g A z p s m meth c) (hR : 0 ≤ R.frames ∧ 0 ≤ R.locals) {r : sl_M} : ∀ (n : Nat) {x1 : Int32} {M : sl_M}, f5_putsBack_2 n x1 M = some r → sl_A sl_cl LR D cA g A p l e R s m args below meth c (MQ below (sl_Q sl_cl LR D cA g A none r) args s 0 0 A) 2 2 [(0, .ref (g 0)), (1, .int x1)] [] M := by
  intro n
  induction n with
  | zero =>
    intro x1 M h
    exact absurd h.symm (Option.some_ne_none _)
  | succ n ih =>
    intro x1 M h
    rw [f5_putsBack_2] at h
    refine sa_iload_n C dX5_putsBack_2 rfl 1 rfl ?_
    refine sa_bipush C dX5_putsBack_3 bp_111 ?_
    refine sa_icmp_ge C dX5_putsBack_5 (tgt := 26) (by decide) (fun c1 => ?_) (fun c1 => ?_)
    · replace h := sl_t c1 h
      exact sa_vret C dX5_putsBack_26 (Option.some.inj h)
    · replace h := sl_n c1 h
      refine sa_aload_n C dX5_putsBack_8 rfl 0 rfl ?_
      refine sa_getR C hh_X5 (k := 0) dX5_putsBack_9 q_837 (by decide) lr_0 rfl ?_
      refine sa_iload_n C dX5_putsBack_12 rfl 1 rfl ?_
      refine sa_aload_n C dX5_putsBack_13 rfl 0 rfl ?_
      refine sa_getR C hh_X5 (k := 2) dX5_putsBack_14 q_839 (by decide) lr_0 rfl ?_
      refine sa_iload_n C dX5_putsBack_17 rfl 1 rfl ?_
      obtain ⟨v2, ev2, h⟩ := sl_b h
      refine sa_iald C dX5_putsBack_18 lr_3 ev2 ?_
      obtain ⟨M3, eM3, h⟩ := sl_b h
      refine sa_iast C dX5_putsBack_19 lr_1 eM3 ?_
      refine sa_iinc C dX5_putsBack_20 1 rfl (v := (x1 + (1 : Int32))) (by rw [ic_1]) (by decide) (lv2 := [(1, .int (x1 + (1 : Int32))), (0, .ref (g 0))]) rfl ?_
      refine sa_goto C dX5_putsBack_23 (tgt := 2) (by decide) ?_
      exact sa_sub [1, 0] rfl (ih h)
theorem cc5_putsBack {D : va_G} {cA : ClassId} {g : Nat → Nat} {A : Nat → Prop} {z : sl_K} {l : Launch} {M : sl_M} {r : sl_M} (h : f5_putsBack M = some r) : sl_N sl_cl LR D cA g A z l yX5_putsBack cX5_putsBack 2 none 0 0 [.ref (g 0)] M none r := by
  refine sl_N.of (by decide) (Nat.le_of_ble_eq_true rfl) rfl ?_
  intro p e s m args below meth c C
  replace C : sl_C RX5 cX5_putsBack 2 none sl_cl LR D cA g A z p s m meth c := C
  have hR : 0 ≤ (({ frames := 0, cells := 0, slots := 0, locals := 0 } : Room)).frames ∧ 0 ≤ (({ frames := 0, cells := 0, slots := 0, locals := 0 } : Room)).locals := ⟨Nat.le_refl _, Nat.le_refl _⟩
  rw [f5_putsBack] at h
  refine sa_iconst C dX5_putsBack_0 ic_0 ?_
  refine sa_istore_n C dX5_putsBack_1 rfl (by decide) (lv2 := [(1, .int (0 : Int32)), (0, .ref (g 0))]) rfl ?_
  exact sa_sub [1, 0] rfl (w5_putsBack_2 C hR 400 h)
/-! X5 kindOf -/
def f5_kindOf (x1 : Int32) (M : sl_M) : Option Int32 := (sl_ld (M 1) 111 ((5 : Int32) + ((3 : Int32) * x1))).bind fun v1 => some v1
theorem cc5_kindOf {D : va_G} {cA : ClassId} {g : Nat → Nat} {A : Nat → Prop} {z : sl_K} {l : Launch} {x1 : Int32} {M : sl_M} {r : Int32} (h : f5_kindOf x1 M = some r) : sl_N sl_cl LR D cA g A z l yX5_kindOf cX5_kindOf 2 (some .int) 0 0 [.ref (g 0), .int x1] M (some (.int r)) M := by
  refine sl_N.of (by decide) (Nat.le_of_ble_eq_true rfl) rfl ?_
  intro p e s m args below meth c C
  replace C : sl_C RX5 cX5_kindOf 2 (some .int) sl_cl LR D cA g A z p s m meth c := C
  have hR : 0 ≤ (({ frames := 0, cells := 0, slots := 0, locals := 0 } : Room)).frames ∧ 0 ≤ (({ frames := 0, cells := 0, slots := 0, locals := 0 } : Room)).locals := ⟨Nat.le_refl _, Nat.le_refl _⟩
  rw [f5_kindOf] at h
  refine sa_aload_n C dX5_kindOf_0 rfl 0 rfl ?_
  refine sa_getR C hh_X5 (k := 0) dX5_kindOf_1 q_837 (by decide) lr_0 rfl ?_
  refine sa_iconst C dX5_kindOf_4 ic_5 ?_
  refine sa_iconst C dX5_kindOf_5 ic_3 ?_
  refine sa_iload_n C dX5_kindOf_6 rfl 1 rfl ?_
  refine sa_imul C dX5_kindOf_7 ?_
  refine sa_iadd C dX5_kindOf_8 ?_
  obtain ⟨v1, ev1, h⟩ := sl_b h
  refine sa_iald C dX5_kindOf_9 lr_1 ev1 ?_
  exact sa_iret C dX5_kindOf_10 (Option.some.inj h) rfl
/-! X5 heightOf -/
def f5_heightOf (x1 : Int32) (M : sl_M) : Option Int32 := (sl_ld (M 1) 111 (((5 : Int32) + ((3 : Int32) * x1)) + (1 : Int32))).bind fun v1 => some v1
theorem cc5_heightOf {D : va_G} {cA : ClassId} {g : Nat → Nat} {A : Nat → Prop} {z : sl_K} {l : Launch} {x1 : Int32} {M : sl_M} {r : Int32} (h : f5_heightOf x1 M = some r) : sl_N sl_cl LR D cA g A z l yX5_heightOf cX5_heightOf 2 (some .int) 0 0 [.ref (g 0), .int x1] M (some (.int r)) M := by
  refine sl_N.of (by decide) (Nat.le_of_ble_eq_true rfl) rfl ?_
  intro p e s m args below meth c C
  replace C : sl_C RX5 cX5_heightOf 2 (some .int) sl_cl LR D cA g A z p s m meth c := C
  have hR : 0 ≤ (({ frames := 0, cells := 0, slots := 0, locals := 0 } : Room)).frames ∧ 0 ≤ (({ frames := 0, cells := 0, slots := 0, locals := 0 } : Room)).locals := ⟨Nat.le_refl _, Nat.le_refl _⟩
  rw [f5_heightOf] at h
  refine sa_aload_n C dX5_heightOf_0 rfl 0 rfl ?_
  refine sa_getR C hh_X5 (k := 0) dX5_heightOf_1 q_837 (by decide) lr_0 rfl ?_
  refine sa_iconst C dX5_heightOf_4 ic_5 ?_
  refine sa_iconst C dX5_heightOf_5 ic_3 ?_
  refine sa_iload_n C dX5_heightOf_6 rfl 1 rfl ?_
  refine sa_imul C dX5_heightOf_7 ?_
  refine sa_iadd C dX5_heightOf_8 ?_
  refine sa_iconst C dX5_heightOf_9 ic_1 ?_
  refine sa_iadd C dX5_heightOf_10 ?_
  obtain ⟨v1, ev1, h⟩ := sl_b h
  refine sa_iald C dX5_heightOf_11 lr_1 ev1 ?_
  exact sa_iret C dX5_heightOf_12 (Option.some.inj h) rfl
/-! X5 ageOf -/
def f5_ageOf (x1 : Int32) (M : sl_M) : Option Int32 := (sl_ld (M 1) 111 (((5 : Int32) + ((3 : Int32) * x1)) + (2 : Int32))).bind fun v1 => some v1
theorem cc5_ageOf {D : va_G} {cA : ClassId} {g : Nat → Nat} {A : Nat → Prop} {z : sl_K} {l : Launch} {x1 : Int32} {M : sl_M} {r : Int32} (h : f5_ageOf x1 M = some r) : sl_N sl_cl LR D cA g A z l yX5_ageOf cX5_ageOf 2 (some .int) 0 0 [.ref (g 0), .int x1] M (some (.int r)) M := by
  refine sl_N.of (by decide) (Nat.le_of_ble_eq_true rfl) rfl ?_
  intro p e s m args below meth c C
  replace C : sl_C RX5 cX5_ageOf 2 (some .int) sl_cl LR D cA g A z p s m meth c := C
  have hR : 0 ≤ (({ frames := 0, cells := 0, slots := 0, locals := 0 } : Room)).frames ∧ 0 ≤ (({ frames := 0, cells := 0, slots := 0, locals := 0 } : Room)).locals := ⟨Nat.le_refl _, Nat.le_refl _⟩
  rw [f5_ageOf] at h
  refine sa_aload_n C dX5_ageOf_0 rfl 0 rfl ?_
  refine sa_getR C hh_X5 (k := 0) dX5_ageOf_1 q_837 (by decide) lr_0 rfl ?_
  refine sa_iconst C dX5_ageOf_4 ic_5 ?_
  refine sa_iconst C dX5_ageOf_5 ic_3 ?_
  refine sa_iload_n C dX5_ageOf_6 rfl 1 rfl ?_
  refine sa_imul C dX5_ageOf_7 ?_
  refine sa_iadd C dX5_ageOf_8 ?_
  refine sa_iconst C dX5_ageOf_9 ic_2 ?_
  refine sa_iadd C dX5_ageOf_10 ?_
  obtain ⟨v1, ev1, h⟩ := sl_b h
  refine sa_iald C dX5_ageOf_11 lr_1 ev1 ?_
  exact sa_iret C dX5_ageOf_12 (Option.some.inj h) rfl
/-! X5 top -/
def f5_top_20 (x1 : Int32) (t0 : Int32) (M : sl_M) : Option Int32 := (f5_kindOf x1 M).bind fun r1 => (if r1 = (3 : Int32) then some (0 : Int32) else (if r1 = (4 : Int32) then (f5_heightOf x1 M).bind fun r4 => some (r4 + (5 : Int32)) else (if r1 = (5 : Int32) then (f5_heightOf x1 M).bind fun r6 => some (r6 + t0) else (if r1 = (6 : Int32) then (f5_heightOf x1 M).bind fun r8 => (f5_ageOf x1 M).bind fun r9 => some ((r8 + t0) + (r9 / (2 : Int32))) else (f5_heightOf x1 M).bind fun r10 => some r10))))
def f5_top (x1 : Int32) (M : sl_M) : Option Int32 := (f5_ageOf x1 M).bind fun r1 => (if (30 : Int32) ≤ r1 then f5_top_20 x1 (30 : Int32) M else (f5_ageOf x1 M).bind fun r3 => f5_top_20 x1 r3 M)
theorem w5_top_20 {D : va_G} {cA : ClassId} {g : Nat → Nat} {A : Nat → Prop} {z : sl_K} {l : Launch} {p : Program} {e : Env} {R : Room} {s : State} {m : MethodId} {args : Array Value} {below : List Frame} {meth : Method} {c : Code} (C : sl_C RX5 cX5_top 3 (some .int) sl_cl LR D cA g A z p s m meth c) (hR : 1 ≤ R.frames ∧ 21 ≤ R.locals) {M : sl_M} {r : Int32} {x1 : Int32} {t0 : Int32} (h : f5_top_20 x1 t0 M = some r) : sl_A sl_cl LR D cA g A p l e R s m args below meth c (MQ below (sl_Q sl_cl LR D cA g A (some (.int r)) M) args s 0 0 A) 3 20 [(0, .ref (g 0)), (1, .int x1)] [.int t0] M := by
  rw [f5_top_20] at h
  refine sa_istore_n C dX5_top_20 rfl (by decide) (lv2 := [(2, .int t0), (0, .ref (g 0)), (1, .int x1)]) rfl ?_
  refine sa_aload_n C dX5_top_21 rfl 1 rfl ?_
  refine sa_iload_n C dX5_top_22 rfl 2 rfl ?_
  obtain ⟨r1, er1, h⟩ := sl_b h
  refine sa_invVi C yy_X5_kindOf ⟨q_925, q_55⟩ q_923 dX5_top_23 (As := [.int x1]) (rest := []) rfl ⟨Nat.le_trans (Nat.le_of_ble_eq_true rfl) hR.1, Nat.le_trans (Nat.le_of_ble_eq_true rfl) hR.2⟩ (Nat.le_of_ble_eq_true rfl) hh_X5 lr_0 (cc5_kindOf er1) rfl ?_
  by_cases c2 : r1 = (3 : Int32)
  · replace h := sl_t c2 h
    refine sa_swIn C dX5_top_26 c2 (k := (3 : Int32)) ⟨by decide, by decide, rfl⟩ (tgt := 56) (by decide) ?_
    refine sa_iconst C dX5_top_56 ic_0 ?_
    exact sa_iret C dX5_top_57 (Option.some.inj h) rfl
  · replace h := sl_n c2 h
    by_cases c3 : r1 = (4 : Int32)
    · replace h := sl_t c3 h
      refine sa_swIn C dX5_top_26 c3 (k := (4 : Int32)) ⟨by decide, by decide, rfl⟩ (tgt := 58) (by decide) ?_
      refine sa_aload_n C dX5_top_58 rfl 1 rfl ?_
      refine sa_iload_n C dX5_top_59 rfl 2 rfl ?_
      obtain ⟨r4, er4, h⟩ := sl_b h
      refine sa_invVi C yy_X5_heightOf ⟨q_946, q_59⟩ q_944 dX5_top_60 (As := [.int x1]) (rest := []) rfl ⟨Nat.le_trans (Nat.le_of_ble_eq_true rfl) hR.1, Nat.le_trans (Nat.le_of_ble_eq_true rfl) hR.2⟩ (Nat.le_of_ble_eq_true rfl) hh_X5 lr_0 (cc5_heightOf er4) rfl ?_
      refine sa_iconst C dX5_top_63 ic_5 ?_
      refine sa_iadd C dX5_top_64 ?_
      exact sa_iret C dX5_top_65 (Option.some.inj h) rfl
    · replace h := sl_n c3 h
      by_cases c5 : r1 = (5 : Int32)
      · replace h := sl_t c5 h
        refine sa_swIn C dX5_top_26 c5 (k := (5 : Int32)) ⟨by decide, by decide, rfl⟩ (tgt := 66) (by decide) ?_
        refine sa_aload_n C dX5_top_66 rfl 1 rfl ?_
        refine sa_iload_n C dX5_top_67 rfl 2 rfl ?_
        obtain ⟨r6, er6, h⟩ := sl_b h
        refine sa_invVi C yy_X5_heightOf ⟨q_946, q_59⟩ q_944 dX5_top_68 (As := [.int x1]) (rest := []) rfl ⟨Nat.le_trans (Nat.le_of_ble_eq_true rfl) hR.1, Nat.le_trans (Nat.le_of_ble_eq_true rfl) hR.2⟩ (Nat.le_of_ble_eq_true rfl) hh_X5 lr_0 (cc5_heightOf er6) rfl ?_
        refine sa_iload_n C dX5_top_71 rfl 0 rfl ?_
        refine sa_iadd C dX5_top_72 ?_
        exact sa_iret C dX5_top_73 (Option.some.inj h) rfl
      · replace h := sl_n c5 h
        by_cases c7 : r1 = (6 : Int32)
        · replace h := sl_t c7 h
          refine sa_swIn C dX5_top_26 c7 (k := (6 : Int32)) ⟨by decide, by decide, rfl⟩ (tgt := 74) (by decide) ?_
          refine sa_aload_n C dX5_top_74 rfl 1 rfl ?_
          refine sa_iload_n C dX5_top_75 rfl 2 rfl ?_
          obtain ⟨r8, er8, h⟩ := sl_b h
          refine sa_invVi C yy_X5_heightOf ⟨q_946, q_59⟩ q_944 dX5_top_76 (As := [.int x1]) (rest := []) rfl ⟨Nat.le_trans (Nat.le_of_ble_eq_true rfl) hR.1, Nat.le_trans (Nat.le_of_ble_eq_true rfl) hR.2⟩ (Nat.le_of_ble_eq_true rfl) hh_X5 lr_0 (cc5_heightOf er8) rfl ?_
          refine sa_iload_n C dX5_top_79 rfl 0 rfl ?_
          refine sa_iadd C dX5_top_80 ?_
          refine sa_aload_n C dX5_top_81 rfl 1 rfl ?_
          refine sa_iload_n C dX5_top_82 rfl 2 rfl ?_
          obtain ⟨r9, er9, h⟩ := sl_b h
          refine sa_invVi C yy_X5_ageOf ⟨q_942, q_58⟩ q_940 dX5_top_83 (As := [.int x1]) (rest := [.int (r8 + t0)]) rfl ⟨Nat.le_trans (Nat.le_of_ble_eq_true rfl) hR.1, Nat.le_trans (Nat.le_of_ble_eq_true rfl) hR.2⟩ (Nat.le_of_ble_eq_true rfl) hh_X5 lr_0 (cc5_ageOf er9) rfl ?_
          refine sa_iconst C dX5_top_86 ic_2 ?_
          refine sa_idivc C dX5_top_87 (by decide) ?_
          refine sa_iadd C dX5_top_88 ?_
          exact sa_iret C dX5_top_89 (Option.some.inj h) rfl
        · replace h := sl_n c7 h
          refine sa_swOut C dX5_top_26 (by have := lv_neT (a := 3) c2 (by decide); have := lv_neT (a := 4) c3 (by decide); have := lv_neT (a := 5) c5 (by decide); have := lv_neT (a := 6) c7 (by decide); omega) (tgt := 90) (by decide) ?_
          refine sa_aload_n C dX5_top_90 rfl 1 rfl ?_
          refine sa_iload_n C dX5_top_91 rfl 2 rfl ?_
          obtain ⟨r10, er10, h⟩ := sl_b h
          refine sa_invVi C yy_X5_heightOf ⟨q_946, q_59⟩ q_944 dX5_top_92 (As := [.int x1]) (rest := []) rfl ⟨Nat.le_trans (Nat.le_of_ble_eq_true rfl) hR.1, Nat.le_trans (Nat.le_of_ble_eq_true rfl) hR.2⟩ (Nat.le_of_ble_eq_true rfl) hh_X5 lr_0 (cc5_heightOf er10) rfl ?_
          exact sa_iret C dX5_top_95 (Option.some.inj h) rfl
theorem cc5_top {D : va_G} {cA : ClassId} {g : Nat → Nat} {A : Nat → Prop} {z : sl_K} {l : Launch} {x1 : Int32} {M : sl_M} {r : Int32} (h : f5_top x1 M = some r) : sl_N sl_cl LR D cA g A z l yX5_top cX5_top 3 (some .int) 1 21 [.ref (g 0), .int x1] M (some (.int r)) M := by
  refine sl_N.of (by decide) (Nat.le_of_ble_eq_true rfl) rfl ?_
  intro p e s m args below meth c C
  replace C : sl_C RX5 cX5_top 3 (some .int) sl_cl LR D cA g A z p s m meth c := C
  have hR : 1 ≤ (({ frames := 1, cells := 0, slots := 0, locals := 21 } : Room)).frames ∧ 21 ≤ (({ frames := 1, cells := 0, slots := 0, locals := 21 } : Room)).locals := ⟨Nat.le_refl _, Nat.le_refl _⟩
  rw [f5_top] at h
  refine sa_aload_n C dX5_top_0 rfl 0 rfl ?_
  refine sa_iload_n C dX5_top_1 rfl 1 rfl ?_
  obtain ⟨r1, er1, h⟩ := sl_b h
  refine sa_invVi C yy_X5_ageOf ⟨q_942, q_58⟩ q_940 dX5_top_2 (As := [.int x1]) (rest := []) rfl ⟨Nat.le_trans (Nat.le_of_ble_eq_true rfl) hR.1, Nat.le_trans (Nat.le_of_ble_eq_true rfl) hR.2⟩ (Nat.le_of_ble_eq_true rfl) hh_X5 lr_0 (cc5_ageOf er1) rfl ?_
  refine sa_bipush C dX5_top_5 bp_30 ?_
  refine sa_icmp_ge C dX5_top_7 (tgt := 18) (by decide) (fun c2 => ?_) (fun c2 => ?_)
  · replace h := sl_t c2 h
    refine sa_bipush C dX5_top_18 bp_30 ?_
    exact sa_sub [0, 1] rfl (w5_top_20 C hR h)
  · replace h := sl_n c2 h
    refine sa_aload_n C dX5_top_10 rfl 0 rfl ?_
    refine sa_iload_n C dX5_top_11 rfl 1 rfl ?_
    obtain ⟨r3, er3, h⟩ := sl_b h
    refine sa_invVi C yy_X5_ageOf ⟨q_942, q_58⟩ q_940 dX5_top_12 (As := [.int x1]) (rest := []) rfl ⟨Nat.le_trans (Nat.le_of_ble_eq_true rfl) hR.1, Nat.le_trans (Nat.le_of_ble_eq_true rfl) hR.2⟩ (Nat.le_of_ble_eq_true rfl) hh_X5 lr_0 (cc5_ageOf er3) rfl ?_
    refine sa_goto C dX5_top_15 (tgt := 20) (by decide) ?_
    exact sa_sub [0, 1] rfl (w5_top_20 C hR h)
/-! X5 worth -/
def f5_worth (x1 : Int32) (M : sl_M) : Option Int32 := (f5_kindOf x1 M).bind fun r1 => (if r1 = (1 : Int32) then some (5 : Int32) else (if r1 = (2 : Int32) then some (3 : Int32) else (if r1 = (3 : Int32) then some (20 : Int32) else (if r1 = (4 : Int32) then some (0 : Int32) else (if r1 = (6 : Int32) then some (3 : Int32) else some (1 : Int32))))))
theorem cc5_worth {D : va_G} {cA : ClassId} {g : Nat → Nat} {A : Nat → Prop} {z : sl_K} {l : Launch} {x1 : Int32} {M : sl_M} {r : Int32} (h : f5_worth x1 M = some r) : sl_N sl_cl LR D cA g A z l yX5_worth cX5_worth 2 (some .int) 1 21 [.ref (g 0), .int x1] M (some (.int r)) M := by
  refine sl_N.of (by decide) (Nat.le_of_ble_eq_true rfl) rfl ?_
  intro p e s m args below meth c C
  replace C : sl_C RX5 cX5_worth 2 (some .int) sl_cl LR D cA g A z p s m meth c := C
  have hR : 1 ≤ (({ frames := 1, cells := 0, slots := 0, locals := 21 } : Room)).frames ∧ 21 ≤ (({ frames := 1, cells := 0, slots := 0, locals := 21 } : Room)).locals := ⟨Nat.le_refl _, Nat.le_refl _⟩
  rw [f5_worth] at h
  refine sa_aload_n C dX5_worth_0 rfl 0 rfl ?_
  refine sa_iload_n C dX5_worth_1 rfl 1 rfl ?_
  obtain ⟨r1, er1, h⟩ := sl_b h
  refine sa_invVi C yy_X5_kindOf ⟨q_925, q_55⟩ q_923 dX5_worth_2 (As := [.int x1]) (rest := []) rfl ⟨Nat.le_trans (Nat.le_of_ble_eq_true rfl) hR.1, Nat.le_trans (Nat.le_of_ble_eq_true rfl) hR.2⟩ (Nat.le_of_ble_eq_true rfl) hh_X5 lr_0 (cc5_kindOf er1) rfl ?_
  by_cases c2 : r1 = (1 : Int32)
  · replace h := sl_t c2 h
    refine sa_swIn C dX5_worth_5 c2 (k := (1 : Int32)) ⟨by decide, by decide, rfl⟩ (tgt := 44) (by decide) ?_
    refine sa_iconst C dX5_worth_44 ic_5 ?_
    exact sa_iret C dX5_worth_45 (Option.some.inj h) rfl
  · replace h := sl_n c2 h
    by_cases c3 : r1 = (2 : Int32)
    · replace h := sl_t c3 h
      refine sa_swIn C dX5_worth_5 c3 (k := (2 : Int32)) ⟨by decide, by decide, rfl⟩ (tgt := 46) (by decide) ?_
      refine sa_iconst C dX5_worth_46 ic_3 ?_
      exact sa_iret C dX5_worth_47 (Option.some.inj h) rfl
    · replace h := sl_n c3 h
      by_cases c4 : r1 = (3 : Int32)
      · replace h := sl_t c4 h
        refine sa_swIn C dX5_worth_5 c4 (k := (3 : Int32)) ⟨by decide, by decide, rfl⟩ (tgt := 48) (by decide) ?_
        refine sa_bipush C dX5_worth_48 bp_20 ?_
        exact sa_iret C dX5_worth_50 (Option.some.inj h) rfl
      · replace h := sl_n c4 h
        by_cases c5 : r1 = (4 : Int32)
        · replace h := sl_t c5 h
          refine sa_swIn C dX5_worth_5 c5 (k := (4 : Int32)) ⟨by decide, by decide, rfl⟩ (tgt := 51) (by decide) ?_
          refine sa_iconst C dX5_worth_51 ic_0 ?_
          exact sa_iret C dX5_worth_52 (Option.some.inj h) rfl
        · replace h := sl_n c5 h
          by_cases c6 : r1 = (6 : Int32)
          · replace h := sl_t c6 h
            refine sa_swIn C dX5_worth_5 c6 (k := (6 : Int32)) ⟨by decide, by decide, rfl⟩ (tgt := 46) (by decide) ?_
            refine sa_iconst C dX5_worth_46 ic_3 ?_
            exact sa_iret C dX5_worth_47 (Option.some.inj h) rfl
          · replace h := sl_n c6 h
            by_cases c7 : r1 = (5 : Int32)
            · refine sa_swIn C dX5_worth_5 c7 (k := (5 : Int32)) ⟨by decide, by decide, rfl⟩ (tgt := 53) (by decide) ?_
              refine sa_iconst C dX5_worth_53 ic_1 ?_
              exact sa_iret C dX5_worth_54 (Option.some.inj h) rfl
            · skip
              refine sa_swOut C dX5_worth_5 (by have := lv_neT (a := 1) c2 (by decide); have := lv_neT (a := 2) c3 (by decide); have := lv_neT (a := 3) c4 (by decide); have := lv_neT (a := 4) c5 (by decide); have := lv_neT (a := 6) c6 (by decide); have := lv_neT (a := 5) c7 (by decide); omega) (tgt := 53) (by decide) ?_
              refine sa_iconst C dX5_worth_53 ic_1 ?_
              exact sa_iret C dX5_worth_54 (Option.some.inj h) rfl
/-! X5 cell -/
def f5_cell (x1 : Int32) (x2 : Int32) (x3 : Int32) (M : sl_M) : Option (Int32 × sl_M) := (if (f5_isCell x1) = 0 then (f5_finds (-1000001 : Int32) M).bind fun r2 => some (r2.1, r2.2) else (if (f5_in x2.toInt64 (0 : Int64) (1 : Int64)) = 0 then (f5_finds (-1000001 : Int32) M).bind fun r4 => some (r4.1, r4.2) else (if (f5_in x3.toInt64 (0 : Int64) (99 : Int64)) = 0 then (f5_finds (-1000001 : Int32) M).bind fun r8 => some (r8.1, r8.2) else (sl_ld (M 1) 111 ((((5 : Int32) + ((3 : Int32) * x1)) + (1 : Int32)) + x2)).bind fun v6 => (sl_st M 1 111 ((((5 : Int32) + ((3 : Int32) * x1)) + (1 : Int32)) + x2) x3).bind fun M7 => some (v6, M7))))
theorem cc5_cell {D : va_G} {cA : ClassId} {g : Nat → Nat} {A : Nat → Prop} {z : sl_K} {l : Launch} {x1 : Int32} {x2 : Int32} {x3 : Int32} {M : sl_M} {r : Int32 × sl_M} (h : f5_cell x1 x2 x3 M = some r) : sl_N sl_cl LR D cA g A z l yX5_cell cX5_cell 5 (some .int) 2 45 [.ref (g 0), .int x1, .int x2, .int x3] M (some (.int r.1)) r.2 := by
  refine sl_N.of (by decide) (Nat.le_of_ble_eq_true rfl) rfl ?_
  intro p e s m args below meth c C
  replace C : sl_C RX5 cX5_cell 5 (some .int) sl_cl LR D cA g A z p s m meth c := C
  have hR : 2 ≤ (({ frames := 2, cells := 0, slots := 0, locals := 45 } : Room)).frames ∧ 45 ≤ (({ frames := 2, cells := 0, slots := 0, locals := 45 } : Room)).locals := ⟨Nat.le_refl _, Nat.le_refl _⟩
  rw [f5_cell] at h
  refine sa_iload_n C dX5_cell_0 rfl 1 rfl ?_
  refine sa_invSi C yy_X5_isCell q_903 q_902 dX5_cell_1 (As := [.int x1]) (rest := []) rfl ⟨Nat.le_trans (Nat.le_of_ble_eq_true rfl) hR.1, Nat.le_trans (Nat.le_of_ble_eq_true rfl) hR.2⟩ (Nat.le_of_ble_eq_true rfl) (cc5_isCell rfl) rfl ?_
  refine sa_if_eq C dX5_cell_4 (tgt := 29) (by decide) (fun c1 => ?_) (fun c1 => ?_)
  · replace h := sl_t c1 h
    refine sa_aload_n C dX5_cell_29 rfl 0 rfl ?_
    refine sa_ldc C dX5_cell_30 q_910 ?_
    obtain ⟨r2, er2, h⟩ := sl_b h
    refine sa_invVi C yy_X5_finds ⟨q_913, q_54⟩ q_911 dX5_cell_32 (As := [.int (-1000001 : Int32)]) (rest := []) rfl ⟨Nat.le_trans (Nat.le_of_ble_eq_true rfl) hR.1, Nat.le_trans (Nat.le_of_ble_eq_true rfl) hR.2⟩ (Nat.le_of_ble_eq_true rfl) hh_X5 lr_0 (cc5_finds er2) rfl ?_
    exact sa_iret C dX5_cell_35 (sl_p1 h) (sl_p2 h)
  · replace h := sl_n c1 h
    refine sa_iload_n C dX5_cell_7 rfl 2 rfl ?_
    refine sa_i2l C dX5_cell_8 ?_
    refine sa_lconst C dX5_cell_9 (v := 0) rfl ?_
    refine sa_lconst C dX5_cell_10 (v := 1) rfl ?_
    refine sa_invSi C yy_X5_in q_907 q_906 dX5_cell_11 (As := [.long x2.toInt64, .long (0 : Int64), .long (1 : Int64)]) (rest := []) rfl ⟨Nat.le_trans (Nat.le_of_ble_eq_true rfl) hR.1, Nat.le_trans (Nat.le_of_ble_eq_true rfl) hR.2⟩ (Nat.le_of_ble_eq_true rfl) (cc5_in rfl) rfl ?_
    refine sa_if_eq C dX5_cell_14 (tgt := 29) (by decide) (fun c3 => ?_) (fun c3 => ?_)
    · replace h := sl_t c3 h
      refine sa_aload_n C dX5_cell_29 rfl 0 rfl ?_
      refine sa_ldc C dX5_cell_30 q_910 ?_
      obtain ⟨r4, er4, h⟩ := sl_b h
      refine sa_invVi C yy_X5_finds ⟨q_913, q_54⟩ q_911 dX5_cell_32 (As := [.int (-1000001 : Int32)]) (rest := []) rfl ⟨Nat.le_trans (Nat.le_of_ble_eq_true rfl) hR.1, Nat.le_trans (Nat.le_of_ble_eq_true rfl) hR.2⟩ (Nat.le_of_ble_eq_true rfl) hh_X5 lr_0 (cc5_finds er4) rfl ?_
      exact sa_iret C dX5_cell_35 (sl_p1 h) (sl_p2 h)
    · replace h := sl_n c3 h
      refine sa_iload_n C dX5_cell_17 rfl 3 rfl ?_
      refine sa_i2l C dX5_cell_18 ?_
      refine sa_lconst C dX5_cell_19 (v := 0) rfl ?_
      refine sa_ldc2 C dX5_cell_20 q_909 ?_
      refine sa_invSi C yy_X5_in q_907 q_906 dX5_cell_23 (As := [.long x3.toInt64, .long (0 : Int64), .long (99 : Int64)]) (rest := []) rfl ⟨Nat.le_trans (Nat.le_of_ble_eq_true rfl) hR.1, Nat.le_trans (Nat.le_of_ble_eq_true rfl) hR.2⟩ (Nat.le_of_ble_eq_true rfl) (cc5_in rfl) rfl ?_
      refine sa_if_ne C dX5_cell_26 (tgt := 36) (by decide) (fun c5 => ?_) (fun c5 => ?_)
      · replace h := sl_n c5 h
        refine sa_aload_n C dX5_cell_36 rfl 0 rfl ?_
        refine sa_getR C hh_X5 (k := 0) dX5_cell_37 q_837 (by decide) lr_0 rfl ?_
        refine sa_iconst C dX5_cell_40 ic_5 ?_
        refine sa_iconst C dX5_cell_41 ic_3 ?_
        refine sa_iload_n C dX5_cell_42 rfl 1 rfl ?_
        refine sa_imul C dX5_cell_43 ?_
        refine sa_iadd C dX5_cell_44 ?_
        refine sa_iconst C dX5_cell_45 ic_1 ?_
        refine sa_iadd C dX5_cell_46 ?_
        refine sa_iload_n C dX5_cell_47 rfl 2 rfl ?_
        refine sa_iadd C dX5_cell_48 ?_
        obtain ⟨v6, ev6, h⟩ := sl_b h
        refine sa_iald C dX5_cell_49 lr_1 ev6 ?_
        refine sa_istore C dX5_cell_50 (by decide) (lv2 := [(4, .int v6), (0, .ref (g 0)), (1, .int x1), (2, .int x2), (3, .int x3)]) rfl ?_
        refine sa_aload_n C dX5_cell_52 rfl 1 rfl ?_
        refine sa_getR C hh_X5 (k := 0) dX5_cell_53 q_837 (by decide) lr_0 rfl ?_
        refine sa_iconst C dX5_cell_56 ic_5 ?_
        refine sa_iconst C dX5_cell_57 ic_3 ?_
        refine sa_iload_n C dX5_cell_58 rfl 2 rfl ?_
        refine sa_imul C dX5_cell_59 ?_
        refine sa_iadd C dX5_cell_60 ?_
        refine sa_iconst C dX5_cell_61 ic_1 ?_
        refine sa_iadd C dX5_cell_62 ?_
        refine sa_iload_n C dX5_cell_63 rfl 3 rfl ?_
        refine sa_iadd C dX5_cell_64 ?_
        refine sa_iload_n C dX5_cell_65 rfl 4 rfl ?_
        obtain ⟨M7, eM7, h⟩ := sl_b h
        refine sa_iast C dX5_cell_66 lr_1 eM7 ?_
        refine sa_iload C dX5_cell_67 0 rfl ?_
        exact sa_iret C dX5_cell_69 (sl_p1 h) (sl_p2 h)
      · replace h := sl_t c5 h
        refine sa_aload_n C dX5_cell_29 rfl 0 rfl ?_
        refine sa_ldc C dX5_cell_30 q_910 ?_
        obtain ⟨r8, er8, h⟩ := sl_b h
        refine sa_invVi C yy_X5_finds ⟨q_913, q_54⟩ q_911 dX5_cell_32 (As := [.int (-1000001 : Int32)]) (rest := []) rfl ⟨Nat.le_trans (Nat.le_of_ble_eq_true rfl) hR.1, Nat.le_trans (Nat.le_of_ble_eq_true rfl) hR.2⟩ (Nat.le_of_ble_eq_true rfl) hh_X5 lr_0 (cc5_finds er8) rfl ?_
        exact sa_iret C dX5_cell_35 (sl_p1 h) (sl_p2 h)
/-! X5 sets -/
def f5_sets (x1 : Int32) (x2 : Int32) (M : sl_M) : Option sl_M := (sl_st M 1 111 ((5 : Int32) + ((3 : Int32) * x1)) x2).bind fun M1 => (sl_st M1 1 111 (((5 : Int32) + ((3 : Int32) * x1)) + (2 : Int32)) (0 : Int32)).bind fun M2 => some M2
theorem cc5_sets {D : va_G} {cA : ClassId} {g : Nat → Nat} {A : Nat → Prop} {z : sl_K} {l : Launch} {x1 : Int32} {x2 : Int32} {M : sl_M} {r : sl_M} (h : f5_sets x1 x2 M = some r) : sl_N sl_cl LR D cA g A z l yX5_sets cX5_sets 3 none 0 0 [.ref (g 0), .int x1, .int x2] M none r := by
  refine sl_N.of (by decide) (Nat.le_of_ble_eq_true rfl) rfl ?_
  intro p e s m args below meth c C
  replace C : sl_C RX5 cX5_sets 3 none sl_cl LR D cA g A z p s m meth c := C
  have hR : 0 ≤ (({ frames := 0, cells := 0, slots := 0, locals := 0 } : Room)).frames ∧ 0 ≤ (({ frames := 0, cells := 0, slots := 0, locals := 0 } : Room)).locals := ⟨Nat.le_refl _, Nat.le_refl _⟩
  rw [f5_sets] at h
  refine sa_aload_n C dX5_sets_0 rfl 0 rfl ?_
  refine sa_getR C hh_X5 (k := 0) dX5_sets_1 q_837 (by decide) lr_0 rfl ?_
  refine sa_iconst C dX5_sets_4 ic_5 ?_
  refine sa_iconst C dX5_sets_5 ic_3 ?_
  refine sa_iload_n C dX5_sets_6 rfl 1 rfl ?_
  refine sa_imul C dX5_sets_7 ?_
  refine sa_iadd C dX5_sets_8 ?_
  refine sa_iload_n C dX5_sets_9 rfl 2 rfl ?_
  obtain ⟨M1, eM1, h⟩ := sl_b h
  refine sa_iast C dX5_sets_10 lr_1 eM1 ?_
  refine sa_aload_n C dX5_sets_11 rfl 0 rfl ?_
  refine sa_getR C hh_X5 (k := 0) dX5_sets_12 q_837 (by decide) lr_0 rfl ?_
  refine sa_iconst C dX5_sets_15 ic_5 ?_
  refine sa_iconst C dX5_sets_16 ic_3 ?_
  refine sa_iload_n C dX5_sets_17 rfl 1 rfl ?_
  refine sa_imul C dX5_sets_18 ?_
  refine sa_iadd C dX5_sets_19 ?_
  refine sa_iconst C dX5_sets_20 ic_2 ?_
  refine sa_iadd C dX5_sets_21 ?_
  refine sa_iconst C dX5_sets_22 ic_0 ?_
  obtain ⟨M2, eM2, h⟩ := sl_b h
  refine sa_iast C dX5_sets_23 lr_1 eM2 ?_
  exact sa_vret C dX5_sets_24 (Option.some.inj h)
/-! X5 set -/
def f5_set (x1 : Int32) (x2 : Int32) (M : sl_M) : Option (Int32 × sl_M) := (if (f5_isCell x1) = 0 then (f5_finds (-1000001 : Int32) M).bind fun r2 => some (r2.1, r2.2) else (if (f5_isKind x2) = 0 then (f5_finds (-1000001 : Int32) M).bind fun r6 => some (r6.1, r6.2) else (f5_kindOf x1 M).bind fun r4 => (f5_sets x1 x2 M).bind fun r5 => some (r4, r5)))
theorem cc5_set {D : va_G} {cA : ClassId} {g : Nat → Nat} {A : Nat → Prop} {z : sl_K} {l : Launch} {x1 : Int32} {x2 : Int32} {M : sl_M} {r : Int32 × sl_M} (h : f5_set x1 x2 M = some r) : sl_N sl_cl LR D cA g A z l yX5_set cX5_set 4 (some .int) 2 45 [.ref (g 0), .int x1, .int x2] M (some (.int r.1)) r.2 := by
  refine sl_N.of (by decide) (Nat.le_of_ble_eq_true rfl) rfl ?_
  intro p e s m args below meth c C
  replace C : sl_C RX5 cX5_set 4 (some .int) sl_cl LR D cA g A z p s m meth c := C
  have hR : 2 ≤ (({ frames := 2, cells := 0, slots := 0, locals := 45 } : Room)).frames ∧ 45 ≤ (({ frames := 2, cells := 0, slots := 0, locals := 45 } : Room)).locals := ⟨Nat.le_refl _, Nat.le_refl _⟩
  rw [f5_set] at h
  refine sa_iload_n C dX5_set_0 rfl 1 rfl ?_
  refine sa_invSi C yy_X5_isCell q_903 q_902 dX5_set_1 (As := [.int x1]) (rest := []) rfl ⟨Nat.le_trans (Nat.le_of_ble_eq_true rfl) hR.1, Nat.le_trans (Nat.le_of_ble_eq_true rfl) hR.2⟩ (Nat.le_of_ble_eq_true rfl) (cc5_isCell rfl) rfl ?_
  refine sa_if_eq C dX5_set_4 (tgt := 14) (by decide) (fun c1 => ?_) (fun c1 => ?_)
  · replace h := sl_t c1 h
    refine sa_aload_n C dX5_set_14 rfl 0 rfl ?_
    refine sa_ldc C dX5_set_15 q_910 ?_
    obtain ⟨r2, er2, h⟩ := sl_b h
    refine sa_invVi C yy_X5_finds ⟨q_913, q_54⟩ q_911 dX5_set_17 (As := [.int (-1000001 : Int32)]) (rest := []) rfl ⟨Nat.le_trans (Nat.le_of_ble_eq_true rfl) hR.1, Nat.le_trans (Nat.le_of_ble_eq_true rfl) hR.2⟩ (Nat.le_of_ble_eq_true rfl) hh_X5 lr_0 (cc5_finds er2) rfl ?_
    exact sa_iret C dX5_set_20 (sl_p1 h) (sl_p2 h)
  · replace h := sl_n c1 h
    refine sa_iload_n C dX5_set_7 rfl 2 rfl ?_
    refine sa_invSi C yy_X5_isKind q_920 q_919 dX5_set_8 (As := [.int x2]) (rest := []) rfl ⟨Nat.le_trans (Nat.le_of_ble_eq_true rfl) hR.1, Nat.le_trans (Nat.le_of_ble_eq_true rfl) hR.2⟩ (Nat.le_of_ble_eq_true rfl) (cc5_isKind rfl) rfl ?_
    refine sa_if_ne C dX5_set_11 (tgt := 21) (by decide) (fun c3 => ?_) (fun c3 => ?_)
    · replace h := sl_n c3 h
      refine sa_aload_n C dX5_set_21 rfl 0 rfl ?_
      refine sa_iload_n C dX5_set_22 rfl 1 rfl ?_
      obtain ⟨r4, er4, h⟩ := sl_b h
      refine sa_invVi C yy_X5_kindOf ⟨q_925, q_55⟩ q_923 dX5_set_23 (As := [.int x1]) (rest := []) rfl ⟨Nat.le_trans (Nat.le_of_ble_eq_true rfl) hR.1, Nat.le_trans (Nat.le_of_ble_eq_true rfl) hR.2⟩ (Nat.le_of_ble_eq_true rfl) hh_X5 lr_0 (cc5_kindOf er4) rfl ?_
      refine sa_istore_n C dX5_set_26 rfl (by decide) (lv2 := [(3, .int r4), (0, .ref (g 0)), (1, .int x1), (2, .int x2)]) rfl ?_
      refine sa_aload_n C dX5_set_27 rfl 1 rfl ?_
      refine sa_iload_n C dX5_set_28 rfl 2 rfl ?_
      refine sa_iload_n C dX5_set_29 rfl 3 rfl ?_
      obtain ⟨r5, er5, h⟩ := sl_b h
      refine sa_invVv C yy_X5_sets ⟨q_929, q_56⟩ q_927 dX5_set_30 (As := [.int x1, .int x2]) (rest := []) rfl ⟨Nat.le_trans (Nat.le_of_ble_eq_true rfl) hR.1, Nat.le_trans (Nat.le_of_ble_eq_true rfl) hR.2⟩ (Nat.le_of_ble_eq_true rfl) hh_X5 lr_0 (cc5_sets er5) rfl ?_
      refine sa_iload_n C dX5_set_33 rfl 0 rfl ?_
      exact sa_iret C dX5_set_34 (sl_p1 h) (sl_p2 h)
    · replace h := sl_t c3 h
      refine sa_aload_n C dX5_set_14 rfl 0 rfl ?_
      refine sa_ldc C dX5_set_15 q_910 ?_
      obtain ⟨r6, er6, h⟩ := sl_b h
      refine sa_invVi C yy_X5_finds ⟨q_913, q_54⟩ q_911 dX5_set_17 (As := [.int (-1000001 : Int32)]) (rest := []) rfl ⟨Nat.le_trans (Nat.le_of_ble_eq_true rfl) hR.1, Nat.le_trans (Nat.le_of_ble_eq_true rfl) hR.2⟩ (Nat.le_of_ble_eq_true rfl) hh_X5 lr_0 (cc5_finds er6) rfl ?_
      exact sa_iret C dX5_set_20 (sl_p1 h) (sl_p2 h)
/-! X5 cellOf -/
def f5_cellOf (x1 : Int32) (x2 : Int32) (M : sl_M) : Option (Int32 × sl_M) := (if (f5_isCell x1) = 0 then (f5_finds (-1000001 : Int32) M).bind fun r2 => some (r2.1, r2.2) else (if (f5_in x2.toInt64 (0 : Int64) (4 : Int64)) = 0 then (f5_finds (-1000001 : Int32) M).bind fun r9 => some (r9.1, r9.2) else (if (3 : Int32) ≤ x2 then (if x2 = (3 : Int32) then (f5_top x1 M).bind fun r7 => some (r7, M) else (f5_worth x1 M).bind fun r6 => some (r6, M)) else (sl_ld (M 1) 111 (((5 : Int32) + ((3 : Int32) * x1)) + x2)).bind fun v8 => some (v8, M))))
theorem cc5_cellOf {D : va_G} {cA : ClassId} {g : Nat → Nat} {A : Nat → Prop} {z : sl_K} {l : Launch} {x1 : Int32} {x2 : Int32} {M : sl_M} {r : Int32 × sl_M} (h : f5_cellOf x1 x2 M = some r) : sl_N sl_cl LR D cA g A z l yX5_cellOf cX5_cellOf 3 (some .int) 2 45 [.ref (g 0), .int x1, .int x2] M (some (.int r.1)) r.2 := by
  refine sl_N.of (by decide) (Nat.le_of_ble_eq_true rfl) rfl ?_
  intro p e s m args below meth c C
  replace C : sl_C RX5 cX5_cellOf 3 (some .int) sl_cl LR D cA g A z p s m meth c := C
  have hR : 2 ≤ (({ frames := 2, cells := 0, slots := 0, locals := 45 } : Room)).frames ∧ 45 ≤ (({ frames := 2, cells := 0, slots := 0, locals := 45 } : Room)).locals := ⟨Nat.le_refl _, Nat.le_refl _⟩
  rw [f5_cellOf] at h
  refine sa_iload_n C dX5_cellOf_0 rfl 1 rfl ?_
  refine sa_invSi C yy_X5_isCell q_903 q_902 dX5_cellOf_1 (As := [.int x1]) (rest := []) rfl ⟨Nat.le_trans (Nat.le_of_ble_eq_true rfl) hR.1, Nat.le_trans (Nat.le_of_ble_eq_true rfl) hR.2⟩ (Nat.le_of_ble_eq_true rfl) (cc5_isCell rfl) rfl ?_
  refine sa_if_eq C dX5_cellOf_4 (tgt := 19) (by decide) (fun c1 => ?_) (fun c1 => ?_)
  · replace h := sl_t c1 h
    refine sa_aload_n C dX5_cellOf_19 rfl 0 rfl ?_
    refine sa_ldc C dX5_cellOf_20 q_910 ?_
    obtain ⟨r2, er2, h⟩ := sl_b h
    refine sa_invVi C yy_X5_finds ⟨q_913, q_54⟩ q_911 dX5_cellOf_22 (As := [.int (-1000001 : Int32)]) (rest := []) rfl ⟨Nat.le_trans (Nat.le_of_ble_eq_true rfl) hR.1, Nat.le_trans (Nat.le_of_ble_eq_true rfl) hR.2⟩ (Nat.le_of_ble_eq_true rfl) hh_X5 lr_0 (cc5_finds er2) rfl ?_
    exact sa_iret C dX5_cellOf_25 (sl_p1 h) (sl_p2 h)
  · replace h := sl_n c1 h
    refine sa_iload_n C dX5_cellOf_7 rfl 2 rfl ?_
    refine sa_i2l C dX5_cellOf_8 ?_
    refine sa_lconst C dX5_cellOf_9 (v := 0) rfl ?_
    refine sa_ldc2 C dX5_cellOf_10 q_935 ?_
    refine sa_invSi C yy_X5_in q_907 q_906 dX5_cellOf_13 (As := [.long x2.toInt64, .long (0 : Int64), .long (4 : Int64)]) (rest := []) rfl ⟨Nat.le_trans (Nat.le_of_ble_eq_true rfl) hR.1, Nat.le_trans (Nat.le_of_ble_eq_true rfl) hR.2⟩ (Nat.le_of_ble_eq_true rfl) (cc5_in rfl) rfl ?_
    refine sa_if_ne C dX5_cellOf_16 (tgt := 26) (by decide) (fun c3 => ?_) (fun c3 => ?_)
    · replace h := sl_n c3 h
      refine sa_iload_n C dX5_cellOf_26 rfl 2 rfl ?_
      refine sa_iconst C dX5_cellOf_27 ic_3 ?_
      refine sa_icmp_ge C dX5_cellOf_28 (tgt := 46) (by decide) (fun c4 => ?_) (fun c4 => ?_)
      · replace h := sl_t c4 h
        refine sa_iload_n C dX5_cellOf_46 rfl 2 rfl ?_
        refine sa_iconst C dX5_cellOf_47 ic_3 ?_
        refine sa_icmp_ne C dX5_cellOf_48 (tgt := 59) (by decide) (fun c5 => ?_) (fun c5 => ?_)
        · replace h := sl_n c5 h
          refine sa_aload_n C dX5_cellOf_59 rfl 0 rfl ?_
          refine sa_iload_n C dX5_cellOf_60 rfl 1 rfl ?_
          obtain ⟨r6, er6, h⟩ := sl_b h
          refine sa_invVi C yy_X5_worth ⟨q_950, q_60⟩ q_948 dX5_cellOf_61 (As := [.int x1]) (rest := []) rfl ⟨Nat.le_trans (Nat.le_of_ble_eq_true rfl) hR.1, Nat.le_trans (Nat.le_of_ble_eq_true rfl) hR.2⟩ (Nat.le_of_ble_eq_true rfl) hh_X5 lr_0 (cc5_worth er6) rfl ?_
          exact sa_iret C dX5_cellOf_64 (sl_p1 h) (sl_p2 h)
        · replace h := sl_t c5 h
          refine sa_aload_n C dX5_cellOf_51 rfl 0 rfl ?_
          refine sa_iload_n C dX5_cellOf_52 rfl 1 rfl ?_
          obtain ⟨r7, er7, h⟩ := sl_b h
          refine sa_invVi C yy_X5_top ⟨q_938, q_57⟩ q_936 dX5_cellOf_53 (As := [.int x1]) (rest := []) rfl ⟨Nat.le_trans (Nat.le_of_ble_eq_true rfl) hR.1, Nat.le_trans (Nat.le_of_ble_eq_true rfl) hR.2⟩ (Nat.le_of_ble_eq_true rfl) hh_X5 lr_0 (cc5_top er7) rfl ?_
          refine sa_goto C dX5_cellOf_56 (tgt := 64) (by decide) ?_
          exact sa_iret C dX5_cellOf_64 (sl_p1 h) (sl_p2 h)
      · replace h := sl_n c4 h
        refine sa_aload_n C dX5_cellOf_31 rfl 0 rfl ?_
        refine sa_getR C hh_X5 (k := 0) dX5_cellOf_32 q_837 (by decide) lr_0 rfl ?_
        refine sa_iconst C dX5_cellOf_35 ic_5 ?_
        refine sa_iconst C dX5_cellOf_36 ic_3 ?_
        refine sa_iload_n C dX5_cellOf_37 rfl 1 rfl ?_
        refine sa_imul C dX5_cellOf_38 ?_
        refine sa_iadd C dX5_cellOf_39 ?_
        refine sa_iload_n C dX5_cellOf_40 rfl 2 rfl ?_
        refine sa_iadd C dX5_cellOf_41 ?_
        obtain ⟨v8, ev8, h⟩ := sl_b h
        refine sa_iald C dX5_cellOf_42 lr_1 ev8 ?_
        refine sa_goto C dX5_cellOf_43 (tgt := 64) (by decide) ?_
        exact sa_iret C dX5_cellOf_64 (sl_p1 h) (sl_p2 h)
    · replace h := sl_t c3 h
      refine sa_aload_n C dX5_cellOf_19 rfl 0 rfl ?_
      refine sa_ldc C dX5_cellOf_20 q_910 ?_
      obtain ⟨r9, er9, h⟩ := sl_b h
      refine sa_invVi C yy_X5_finds ⟨q_913, q_54⟩ q_911 dX5_cellOf_22 (As := [.int (-1000001 : Int32)]) (rest := []) rfl ⟨Nat.le_trans (Nat.le_of_ble_eq_true rfl) hR.1, Nat.le_trans (Nat.le_of_ble_eq_true rfl) hR.2⟩ (Nat.le_of_ble_eq_true rfl) hh_X5 lr_0 (cc5_finds er9) rfl ?_
      exact sa_iret C dX5_cellOf_25 (sl_p1 h) (sl_p2 h)
/-! X5 cellAt -/
def f5_cellAt (x1 : Int32) (M : sl_M) : Option Int32 := (sl_ld (M 1) 111 ((77 : Int32) + ((3 : Int32) * x1))).bind fun v1 => some v1
theorem cc5_cellAt {D : va_G} {cA : ClassId} {g : Nat → Nat} {A : Nat → Prop} {z : sl_K} {l : Launch} {x1 : Int32} {M : sl_M} {r : Int32} (h : f5_cellAt x1 M = some r) : sl_N sl_cl LR D cA g A z l yX5_cellAt cX5_cellAt 2 (some .int) 0 0 [.ref (g 0), .int x1] M (some (.int r)) M := by
  refine sl_N.of (by decide) (Nat.le_of_ble_eq_true rfl) rfl ?_
  intro p e s m args below meth c C
  replace C : sl_C RX5 cX5_cellAt 2 (some .int) sl_cl LR D cA g A z p s m meth c := C
  have hR : 0 ≤ (({ frames := 0, cells := 0, slots := 0, locals := 0 } : Room)).frames ∧ 0 ≤ (({ frames := 0, cells := 0, slots := 0, locals := 0 } : Room)).locals := ⟨Nat.le_refl _, Nat.le_refl _⟩
  rw [f5_cellAt] at h
  refine sa_aload_n C dX5_cellAt_0 rfl 0 rfl ?_
  refine sa_getR C hh_X5 (k := 0) dX5_cellAt_1 q_837 (by decide) lr_0 rfl ?_
  refine sa_bipush C dX5_cellAt_4 bp_77 ?_
  refine sa_iconst C dX5_cellAt_6 ic_3 ?_
  refine sa_iload_n C dX5_cellAt_7 rfl 1 rfl ?_
  refine sa_imul C dX5_cellAt_8 ?_
  refine sa_iadd C dX5_cellAt_9 ?_
  obtain ⟨v1, ev1, h⟩ := sl_b h
  refine sa_iald C dX5_cellAt_10 lr_1 ev1 ?_
  exact sa_iret C dX5_cellAt_11 (Option.some.inj h) rfl
/-! X5 openOf -/
def f5_openOf (x1 : Int32) (M : sl_M) : Option Int32 := (sl_ld (M 1) 111 (((77 : Int32) + ((3 : Int32) * x1)) + (2 : Int32))).bind fun v1 => some v1
theorem cc5_openOf {D : va_G} {cA : ClassId} {g : Nat → Nat} {A : Nat → Prop} {z : sl_K} {l : Launch} {x1 : Int32} {M : sl_M} {r : Int32} (h : f5_openOf x1 M = some r) : sl_N sl_cl LR D cA g A z l yX5_openOf cX5_openOf 2 (some .int) 0 0 [.ref (g 0), .int x1] M (some (.int r)) M := by
  refine sl_N.of (by decide) (Nat.le_of_ble_eq_true rfl) rfl ?_
  intro p e s m args below meth c C
  replace C : sl_C RX5 cX5_openOf 2 (some .int) sl_cl LR D cA g A z p s m meth c := C
  have hR : 0 ≤ (({ frames := 0, cells := 0, slots := 0, locals := 0 } : Room)).frames ∧ 0 ≤ (({ frames := 0, cells := 0, slots := 0, locals := 0 } : Room)).locals := ⟨Nat.le_refl _, Nat.le_refl _⟩
  rw [f5_openOf] at h
  refine sa_aload_n C dX5_openOf_0 rfl 0 rfl ?_
  refine sa_getR C hh_X5 (k := 0) dX5_openOf_1 q_837 (by decide) lr_0 rfl ?_
  refine sa_bipush C dX5_openOf_4 bp_77 ?_
  refine sa_iconst C dX5_openOf_6 ic_3 ?_
  refine sa_iload_n C dX5_openOf_7 rfl 1 rfl ?_
  refine sa_imul C dX5_openOf_8 ?_
  refine sa_iadd C dX5_openOf_9 ?_
  refine sa_iconst C dX5_openOf_10 ic_2 ?_
  refine sa_iadd C dX5_openOf_11 ?_
  obtain ⟨v1, ev1, h⟩ := sl_b h
  refine sa_iald C dX5_openOf_12 lr_1 ev1 ?_
  exact sa_iret C dX5_openOf_13 (Option.some.inj h) rfl
/-! X5 eye -/
def f5_eye (x1 : Int32) (M : sl_M) : Option Int32 := (f5_cellAt x1 M).bind fun r1 => (f5_top r1 M).bind fun r2 => (sl_ld (M 1) 111 (((77 : Int32) + ((3 : Int32) * x1)) + (1 : Int32))).bind fun v3 => some (r2 + v3)
theorem cc5_eye {D : va_G} {cA : ClassId} {g : Nat → Nat} {A : Nat → Prop} {z : sl_K} {l : Launch} {x1 : Int32} {M : sl_M} {r : Int32} (h : f5_eye x1 M = some r) : sl_N sl_cl LR D cA g A z l yX5_eye cX5_eye 2 (some .int) 2 43 [.ref (g 0), .int x1] M (some (.int r)) M := by
  refine sl_N.of (by decide) (Nat.le_of_ble_eq_true rfl) rfl ?_
  intro p e s m args below meth c C
  replace C : sl_C RX5 cX5_eye 2 (some .int) sl_cl LR D cA g A z p s m meth c := C
  have hR : 2 ≤ (({ frames := 2, cells := 0, slots := 0, locals := 43 } : Room)).frames ∧ 43 ≤ (({ frames := 2, cells := 0, slots := 0, locals := 43 } : Room)).locals := ⟨Nat.le_refl _, Nat.le_refl _⟩
  rw [f5_eye] at h
  refine sa_aload_n C dX5_eye_0 rfl 0 rfl ?_
  refine sa_aload_n C dX5_eye_1 rfl 0 rfl ?_
  refine sa_iload_n C dX5_eye_2 rfl 1 rfl ?_
  obtain ⟨r1, er1, h⟩ := sl_b h
  refine sa_invVi C yy_X5_cellAt ⟨q_980, q_64⟩ q_978 dX5_eye_3 (As := [.int x1]) (rest := [.ref (g 0)]) rfl ⟨Nat.le_trans (Nat.le_of_ble_eq_true rfl) hR.1, Nat.le_trans (Nat.le_of_ble_eq_true rfl) hR.2⟩ (Nat.le_of_ble_eq_true rfl) hh_X5 lr_0 (cc5_cellAt er1) rfl ?_
  obtain ⟨r2, er2, h⟩ := sl_b h
  refine sa_invVi C yy_X5_top ⟨q_938, q_57⟩ q_936 dX5_eye_6 (As := [.int r1]) (rest := []) rfl ⟨Nat.le_trans (Nat.le_of_ble_eq_true rfl) hR.1, Nat.le_trans (Nat.le_of_ble_eq_true rfl) hR.2⟩ (Nat.le_of_ble_eq_true rfl) hh_X5 lr_0 (cc5_top er2) rfl ?_
  refine sa_aload_n C dX5_eye_9 rfl 0 rfl ?_
  refine sa_getR C hh_X5 (k := 0) dX5_eye_10 q_837 (by decide) lr_0 rfl ?_
  refine sa_bipush C dX5_eye_13 bp_77 ?_
  refine sa_iconst C dX5_eye_15 ic_3 ?_
  refine sa_iload_n C dX5_eye_16 rfl 1 rfl ?_
  refine sa_imul C dX5_eye_17 ?_
  refine sa_iadd C dX5_eye_18 ?_
  refine sa_iconst C dX5_eye_19 ic_1 ?_
  refine sa_iadd C dX5_eye_20 ?_
  obtain ⟨v3, ev3, h⟩ := sl_b h
  refine sa_iald C dX5_eye_21 lr_1 ev3 ?_
  refine sa_iadd C dX5_eye_22 ?_
  exact sa_iret C dX5_eye_23 (Option.some.inj h) rfl
/-! X5 newHouse -/
def f5_newHouse (x1 : Int32) (x2 : Int32) (x3 : Int32) (M : sl_M) : Option (Int32 × sl_M) := (sl_ld (M 1) 111 (1 : Int32)).bind fun v1 => (sl_st M 1 111 ((77 : Int32) + ((3 : Int32) * v1)) x1).bind fun M2 => (sl_st M2 1 111 (((77 : Int32) + ((3 : Int32) * v1)) + (1 : Int32)) x2).bind fun M3 => (sl_st M3 1 111 (((77 : Int32) + ((3 : Int32) * v1)) + (2 : Int32)) x3).bind fun M4 => (sl_ld (M4 1) 111 (1 : Int32)).bind fun v5 => (sl_st M4 1 111 (1 : Int32) (v5 + (1 : Int32))).bind fun M6 => (sl_ld (M6 1) 111 (1 : Int32)).bind fun v7 => some ((v7 - (1 : Int32)), M6)
theorem cc5_newHouse {D : va_G} {cA : ClassId} {g : Nat → Nat} {A : Nat → Prop} {z : sl_K} {l : Launch} {x1 : Int32} {x2 : Int32} {x3 : Int32} {M : sl_M} {r : Int32 × sl_M} (h : f5_newHouse x1 x2 x3 M = some r) : sl_N sl_cl LR D cA g A z l yX5_newHouse cX5_newHouse 5 (some .int) 0 0 [.ref (g 0), .int x1, .int x2, .int x3] M (some (.int r.1)) r.2 := by
  refine sl_N.of (by decide) (Nat.le_of_ble_eq_true rfl) rfl ?_
  intro p e s m args below meth c C
  replace C : sl_C RX5 cX5_newHouse 5 (some .int) sl_cl LR D cA g A z p s m meth c := C
  have hR : 0 ≤ (({ frames := 0, cells := 0, slots := 0, locals := 0 } : Room)).frames ∧ 0 ≤ (({ frames := 0, cells := 0, slots := 0, locals := 0 } : Room)).locals := ⟨Nat.le_refl _, Nat.le_refl _⟩
  rw [f5_newHouse] at h
  refine sa_bipush C dX5_newHouse_0 bp_77 ?_
  refine sa_iconst C dX5_newHouse_2 ic_3 ?_
  refine sa_aload_n C dX5_newHouse_3 rfl 0 rfl ?_
  refine sa_getR C hh_X5 (k := 0) dX5_newHouse_4 q_837 (by decide) lr_0 rfl ?_
  refine sa_iconst C dX5_newHouse_7 ic_1 ?_
  obtain ⟨v1, ev1, h⟩ := sl_b h
  refine sa_iald C dX5_newHouse_8 lr_1 ev1 ?_
  refine sa_imul C dX5_newHouse_9 ?_
  refine sa_iadd C dX5_newHouse_10 ?_
  refine sa_istore C dX5_newHouse_11 (by decide) (lv2 := [(4, .int ((77 : Int32) + ((3 : Int32) * v1))), (0, .ref (g 0)), (1, .int x1), (2, .int x2), (3, .int x3)]) rfl ?_
  refine sa_aload_n C dX5_newHouse_13 rfl 1 rfl ?_
  refine sa_getR C hh_X5 (k := 0) dX5_newHouse_14 q_837 (by decide) lr_0 rfl ?_
  refine sa_iload C dX5_newHouse_17 0 rfl ?_
  refine sa_iload_n C dX5_newHouse_19 rfl 2 rfl ?_
  obtain ⟨M2, eM2, h⟩ := sl_b h
  refine sa_iast C dX5_newHouse_20 lr_1 eM2 ?_
  refine sa_aload_n C dX5_newHouse_21 rfl 1 rfl ?_
  refine sa_getR C hh_X5 (k := 0) dX5_newHouse_22 q_837 (by decide) lr_0 rfl ?_
  refine sa_iload C dX5_newHouse_25 0 rfl ?_
  refine sa_iconst C dX5_newHouse_27 ic_1 ?_
  refine sa_iadd C dX5_newHouse_28 ?_
  refine sa_iload_n C dX5_newHouse_29 rfl 3 rfl ?_
  obtain ⟨M3, eM3, h⟩ := sl_b h
  refine sa_iast C dX5_newHouse_30 lr_1 eM3 ?_
  refine sa_aload_n C dX5_newHouse_31 rfl 1 rfl ?_
  refine sa_getR C hh_X5 (k := 0) dX5_newHouse_32 q_837 (by decide) lr_0 rfl ?_
  refine sa_iload C dX5_newHouse_35 0 rfl ?_
  refine sa_iconst C dX5_newHouse_37 ic_2 ?_
  refine sa_iadd C dX5_newHouse_38 ?_
  refine sa_iload_n C dX5_newHouse_39 rfl 4 rfl ?_
  obtain ⟨M4, eM4, h⟩ := sl_b h
  refine sa_iast C dX5_newHouse_40 lr_1 eM4 ?_
  refine sa_aload_n C dX5_newHouse_41 rfl 1 rfl ?_
  refine sa_getR C hh_X5 (k := 0) dX5_newHouse_42 q_837 (by decide) lr_0 rfl ?_
  refine sa_iconst C dX5_newHouse_45 ic_1 ?_
  refine sa_dup2 C dX5_newHouse_46 rfl rfl ?_
  obtain ⟨v5, ev5, h⟩ := sl_b h
  refine sa_iald C dX5_newHouse_47 lr_1 ev5 ?_
  refine sa_iconst C dX5_newHouse_48 ic_1 ?_
  refine sa_iadd C dX5_newHouse_49 ?_
  obtain ⟨M6, eM6, h⟩ := sl_b h
  refine sa_iast C dX5_newHouse_50 lr_1 eM6 ?_
  refine sa_aload_n C dX5_newHouse_51 rfl 1 rfl ?_
  refine sa_getR C hh_X5 (k := 0) dX5_newHouse_52 q_837 (by decide) lr_0 rfl ?_
  refine sa_iconst C dX5_newHouse_55 ic_1 ?_
  obtain ⟨v7, ev7, h⟩ := sl_b h
  refine sa_iald C dX5_newHouse_56 lr_1 ev7 ?_
  refine sa_iconst C dX5_newHouse_57 ic_1 ?_
  refine sa_isub C dX5_newHouse_58 ?_
  exact sa_iret C dX5_newHouse_59 (sl_p1 h) (sl_p2 h)
/-! X5 house -/
def f5_house (x1 : Int32) (x2 : Int32) (M : sl_M) : Option (Int32 × sl_M) := (if (f5_isCell x1) = 0 then (f5_finds (-1000001 : Int32) M).bind fun r2 => some (r2.1, r2.2) else (if (f5_isFloor x2) = 0 then (f5_finds (-1000001 : Int32) M).bind fun r8 => some (r8.1, r8.2) else (sl_ld (M 1) 111 (1 : Int32)).bind fun v4 => (if v4 = (8 : Int32) then (f5_finds (-1000002 : Int32) M).bind fun r7 => some (r7.1, r7.2) else (f5_newHouse x1 x2 (3 : Int32) M).bind fun r6 => some (r6.1, r6.2))))
theorem cc5_house {D : va_G} {cA : ClassId} {g : Nat → Nat} {A : Nat → Prop} {z : sl_K} {l : Launch} {x1 : Int32} {x2 : Int32} {M : sl_M} {r : Int32 × sl_M} (h : f5_house x1 x2 M = some r) : sl_N sl_cl LR D cA g A z l yX5_house cX5_house 3 (some .int) 2 45 [.ref (g 0), .int x1, .int x2] M (some (.int r.1)) r.2 := by
  refine sl_N.of (by decide) (Nat.le_of_ble_eq_true rfl) rfl ?_
  intro p e s m args below meth c C
  replace C : sl_C RX5 cX5_house 3 (some .int) sl_cl LR D cA g A z p s m meth c := C
  have hR : 2 ≤ (({ frames := 2, cells := 0, slots := 0, locals := 45 } : Room)).frames ∧ 45 ≤ (({ frames := 2, cells := 0, slots := 0, locals := 45 } : Room)).locals := ⟨Nat.le_refl _, Nat.le_refl _⟩
  rw [f5_house] at h
  refine sa_iload_n C dX5_house_0 rfl 1 rfl ?_
  refine sa_invSi C yy_X5_isCell q_903 q_902 dX5_house_1 (As := [.int x1]) (rest := []) rfl ⟨Nat.le_trans (Nat.le_of_ble_eq_true rfl) hR.1, Nat.le_trans (Nat.le_of_ble_eq_true rfl) hR.2⟩ (Nat.le_of_ble_eq_true rfl) (cc5_isCell rfl) rfl ?_
  refine sa_if_eq C dX5_house_4 (tgt := 14) (by decide) (fun c1 => ?_) (fun c1 => ?_)
  · replace h := sl_t c1 h
    refine sa_aload_n C dX5_house_14 rfl 0 rfl ?_
    refine sa_ldc C dX5_house_15 q_910 ?_
    obtain ⟨r2, er2, h⟩ := sl_b h
    refine sa_invVi C yy_X5_finds ⟨q_913, q_54⟩ q_911 dX5_house_17 (As := [.int (-1000001 : Int32)]) (rest := []) rfl ⟨Nat.le_trans (Nat.le_of_ble_eq_true rfl) hR.1, Nat.le_trans (Nat.le_of_ble_eq_true rfl) hR.2⟩ (Nat.le_of_ble_eq_true rfl) hh_X5 lr_0 (cc5_finds er2) rfl ?_
    exact sa_iret C dX5_house_20 (sl_p1 h) (sl_p2 h)
  · replace h := sl_n c1 h
    refine sa_iload_n C dX5_house_7 rfl 2 rfl ?_
    refine sa_invSi C yy_X5_isFloor q_957 q_956 dX5_house_8 (As := [.int x2]) (rest := []) rfl ⟨Nat.le_trans (Nat.le_of_ble_eq_true rfl) hR.1, Nat.le_trans (Nat.le_of_ble_eq_true rfl) hR.2⟩ (Nat.le_of_ble_eq_true rfl) (cc5_isFloor rfl) rfl ?_
    refine sa_if_ne C dX5_house_11 (tgt := 21) (by decide) (fun c3 => ?_) (fun c3 => ?_)
    · replace h := sl_n c3 h
      refine sa_aload_n C dX5_house_21 rfl 0 rfl ?_
      refine sa_getR C hh_X5 (k := 0) dX5_house_22 q_837 (by decide) lr_0 rfl ?_
      refine sa_iconst C dX5_house_25 ic_1 ?_
      obtain ⟨v4, ev4, h⟩ := sl_b h
      refine sa_iald C dX5_house_26 lr_1 ev4 ?_
      refine sa_bipush C dX5_house_27 bp_8 ?_
      refine sa_icmp_ne C dX5_house_29 (tgt := 41) (by decide) (fun c5 => ?_) (fun c5 => ?_)
      · replace h := sl_n c5 h
        refine sa_aload_n C dX5_house_41 rfl 0 rfl ?_
        refine sa_iload_n C dX5_house_42 rfl 1 rfl ?_
        refine sa_iload_n C dX5_house_43 rfl 2 rfl ?_
        refine sa_iconst C dX5_house_44 ic_3 ?_
        obtain ⟨r6, er6, h⟩ := sl_b h
        refine sa_invVi C yy_X5_newHouse ⟨q_963, q_61⟩ q_961 dX5_house_45 (As := [.int x1, .int x2, .int (3 : Int32)]) (rest := []) rfl ⟨Nat.le_trans (Nat.le_of_ble_eq_true rfl) hR.1, Nat.le_trans (Nat.le_of_ble_eq_true rfl) hR.2⟩ (Nat.le_of_ble_eq_true rfl) hh_X5 lr_0 (cc5_newHouse er6) rfl ?_
        exact sa_iret C dX5_house_48 (sl_p1 h) (sl_p2 h)
      · replace h := sl_t c5 h
        refine sa_aload_n C dX5_house_32 rfl 0 rfl ?_
        refine sa_ldc C dX5_house_33 q_960 ?_
        obtain ⟨r7, er7, h⟩ := sl_b h
        refine sa_invVi C yy_X5_finds ⟨q_913, q_54⟩ q_911 dX5_house_35 (As := [.int (-1000002 : Int32)]) (rest := []) rfl ⟨Nat.le_trans (Nat.le_of_ble_eq_true rfl) hR.1, Nat.le_trans (Nat.le_of_ble_eq_true rfl) hR.2⟩ (Nat.le_of_ble_eq_true rfl) hh_X5 lr_0 (cc5_finds er7) rfl ?_
        refine sa_goto C dX5_house_38 (tgt := 48) (by decide) ?_
        exact sa_iret C dX5_house_48 (sl_p1 h) (sl_p2 h)
    · replace h := sl_t c3 h
      refine sa_aload_n C dX5_house_14 rfl 0 rfl ?_
      refine sa_ldc C dX5_house_15 q_910 ?_
      obtain ⟨r8, er8, h⟩ := sl_b h
      refine sa_invVi C yy_X5_finds ⟨q_913, q_54⟩ q_911 dX5_house_17 (As := [.int (-1000001 : Int32)]) (rest := []) rfl ⟨Nat.le_trans (Nat.le_of_ble_eq_true rfl) hR.1, Nat.le_trans (Nat.le_of_ble_eq_true rfl) hR.2⟩ (Nat.le_of_ble_eq_true rfl) hh_X5 lr_0 (cc5_finds er8) rfl ?_
      exact sa_iret C dX5_house_20 (sl_p1 h) (sl_p2 h)
/-! X5 houseOf -/
def f5_houseOf (x1 : Int32) (x2 : Int32) (M : sl_M) : Option (Int32 × sl_M) := (f5_isHouse x1 M).bind fun r1 => (if r1 = 0 then (f5_finds (-1000001 : Int32) M).bind fun r3 => some (r3.1, r3.2) else (if (f5_in x2.toInt64 (0 : Int64) (3 : Int64)) = 0 then (f5_finds (-1000001 : Int32) M).bind fun r10 => some (r10.1, r10.2) else (if (2 : Int32) ≤ x2 then (if x2 = (2 : Int32) then (f5_eye x1 M).bind fun r8 => some (r8, M) else (f5_openOf x1 M).bind fun r7 => some (r7, M)) else (sl_ld (M 1) 111 (((77 : Int32) + ((3 : Int32) * x1)) + x2)).bind fun v9 => some (v9, M))))
theorem cc5_houseOf {D : va_G} {cA : ClassId} {g : Nat → Nat} {A : Nat → Prop} {z : sl_K} {l : Launch} {x1 : Int32} {x2 : Int32} {M : sl_M} {r : Int32 × sl_M} (h : f5_houseOf x1 x2 M = some r) : sl_N sl_cl LR D cA g A z l yX5_houseOf cX5_houseOf 3 (some .int) 3 64 [.ref (g 0), .int x1, .int x2] M (some (.int r.1)) r.2 := by
  refine sl_N.of (by decide) (Nat.le_of_ble_eq_true rfl) rfl ?_
  intro p e s m args below meth c C
  replace C : sl_C RX5 cX5_houseOf 3 (some .int) sl_cl LR D cA g A z p s m meth c := C
  have hR : 3 ≤ (({ frames := 3, cells := 0, slots := 0, locals := 64 } : Room)).frames ∧ 64 ≤ (({ frames := 3, cells := 0, slots := 0, locals := 64 } : Room)).locals := ⟨Nat.le_refl _, Nat.le_refl _⟩
  rw [f5_houseOf] at h
  refine sa_aload_n C dX5_houseOf_0 rfl 0 rfl ?_
  refine sa_iload_n C dX5_houseOf_1 rfl 1 rfl ?_
  obtain ⟨r1, er1, h⟩ := sl_b h
  refine sa_invVi C yy_X5_isHouse ⟨q_971, q_62⟩ q_969 dX5_houseOf_2 (As := [.int x1]) (rest := []) rfl ⟨Nat.le_trans (Nat.le_of_ble_eq_true rfl) hR.1, Nat.le_trans (Nat.le_of_ble_eq_true rfl) hR.2⟩ (Nat.le_of_ble_eq_true rfl) hh_X5 lr_0 (cc5_isHouse er1) rfl ?_
  refine sa_if_eq C dX5_houseOf_5 (tgt := 20) (by decide) (fun c2 => ?_) (fun c2 => ?_)
  · replace h := sl_t c2 h
    refine sa_aload_n C dX5_houseOf_20 rfl 0 rfl ?_
    refine sa_ldc C dX5_houseOf_21 q_910 ?_
    obtain ⟨r3, er3, h⟩ := sl_b h
    refine sa_invVi C yy_X5_finds ⟨q_913, q_54⟩ q_911 dX5_houseOf_23 (As := [.int (-1000001 : Int32)]) (rest := []) rfl ⟨Nat.le_trans (Nat.le_of_ble_eq_true rfl) hR.1, Nat.le_trans (Nat.le_of_ble_eq_true rfl) hR.2⟩ (Nat.le_of_ble_eq_true rfl) hh_X5 lr_0 (cc5_finds er3) rfl ?_
    exact sa_iret C dX5_houseOf_26 (sl_p1 h) (sl_p2 h)
  · replace h := sl_n c2 h
    refine sa_iload_n C dX5_houseOf_8 rfl 2 rfl ?_
    refine sa_i2l C dX5_houseOf_9 ?_
    refine sa_lconst C dX5_houseOf_10 (v := 0) rfl ?_
    refine sa_ldc2 C dX5_houseOf_11 q_973 ?_
    refine sa_invSi C yy_X5_in q_907 q_906 dX5_houseOf_14 (As := [.long x2.toInt64, .long (0 : Int64), .long (3 : Int64)]) (rest := []) rfl ⟨Nat.le_trans (Nat.le_of_ble_eq_true rfl) hR.1, Nat.le_trans (Nat.le_of_ble_eq_true rfl) hR.2⟩ (Nat.le_of_ble_eq_true rfl) (cc5_in rfl) rfl ?_
    refine sa_if_ne C dX5_houseOf_17 (tgt := 27) (by decide) (fun c4 => ?_) (fun c4 => ?_)
    · replace h := sl_n c4 h
      refine sa_iload_n C dX5_houseOf_27 rfl 2 rfl ?_
      refine sa_iconst C dX5_houseOf_28 ic_2 ?_
      refine sa_icmp_ge C dX5_houseOf_29 (tgt := 48) (by decide) (fun c5 => ?_) (fun c5 => ?_)
      · replace h := sl_t c5 h
        refine sa_iload_n C dX5_houseOf_48 rfl 2 rfl ?_
        refine sa_iconst C dX5_houseOf_49 ic_2 ?_
        refine sa_icmp_ne C dX5_houseOf_50 (tgt := 61) (by decide) (fun c6 => ?_) (fun c6 => ?_)
        · replace h := sl_n c6 h
          refine sa_aload_n C dX5_houseOf_61 rfl 0 rfl ?_
          refine sa_iload_n C dX5_houseOf_62 rfl 1 rfl ?_
          obtain ⟨r7, er7, h⟩ := sl_b h
          refine sa_invVi C yy_X5_openOf ⟨q_984, q_65⟩ q_982 dX5_houseOf_63 (As := [.int x1]) (rest := []) rfl ⟨Nat.le_trans (Nat.le_of_ble_eq_true rfl) hR.1, Nat.le_trans (Nat.le_of_ble_eq_true rfl) hR.2⟩ (Nat.le_of_ble_eq_true rfl) hh_X5 lr_0 (cc5_openOf er7) rfl ?_
          exact sa_iret C dX5_houseOf_66 (sl_p1 h) (sl_p2 h)
        · replace h := sl_t c6 h
          refine sa_aload_n C dX5_houseOf_53 rfl 0 rfl ?_
          refine sa_iload_n C dX5_houseOf_54 rfl 1 rfl ?_
          obtain ⟨r8, er8, h⟩ := sl_b h
          refine sa_invVi C yy_X5_eye ⟨q_976, q_63⟩ q_974 dX5_houseOf_55 (As := [.int x1]) (rest := []) rfl ⟨Nat.le_trans (Nat.le_of_ble_eq_true rfl) hR.1, Nat.le_trans (Nat.le_of_ble_eq_true rfl) hR.2⟩ (Nat.le_of_ble_eq_true rfl) hh_X5 lr_0 (cc5_eye er8) rfl ?_
          refine sa_goto C dX5_houseOf_58 (tgt := 66) (by decide) ?_
          exact sa_iret C dX5_houseOf_66 (sl_p1 h) (sl_p2 h)
      · replace h := sl_n c5 h
        refine sa_aload_n C dX5_houseOf_32 rfl 0 rfl ?_
        refine sa_getR C hh_X5 (k := 0) dX5_houseOf_33 q_837 (by decide) lr_0 rfl ?_
        refine sa_bipush C dX5_houseOf_36 bp_77 ?_
        refine sa_iconst C dX5_houseOf_38 ic_3 ?_
        refine sa_iload_n C dX5_houseOf_39 rfl 1 rfl ?_
        refine sa_imul C dX5_houseOf_40 ?_
        refine sa_iadd C dX5_houseOf_41 ?_
        refine sa_iload_n C dX5_houseOf_42 rfl 2 rfl ?_
        refine sa_iadd C dX5_houseOf_43 ?_
        obtain ⟨v9, ev9, h⟩ := sl_b h
        refine sa_iald C dX5_houseOf_44 lr_1 ev9 ?_
        refine sa_goto C dX5_houseOf_45 (tgt := 66) (by decide) ?_
        exact sa_iret C dX5_houseOf_66 (sl_p1 h) (sl_p2 h)
    · replace h := sl_t c4 h
      refine sa_aload_n C dX5_houseOf_20 rfl 0 rfl ?_
      refine sa_ldc C dX5_houseOf_21 q_910 ?_
      obtain ⟨r10, er10, h⟩ := sl_b h
      refine sa_invVi C yy_X5_finds ⟨q_913, q_54⟩ q_911 dX5_houseOf_23 (As := [.int (-1000001 : Int32)]) (rest := []) rfl ⟨Nat.le_trans (Nat.le_of_ble_eq_true rfl) hR.1, Nat.le_trans (Nat.le_of_ble_eq_true rfl) hR.2⟩ (Nat.le_of_ble_eq_true rfl) hh_X5 lr_0 (cc5_finds er10) rfl ?_
      exact sa_iret C dX5_houseOf_26 (sl_p1 h) (sl_p2 h)
/-! X5 floor -/
def f5_floor (x1 : Int32) (x2 : Int32) (M : sl_M) : Option (Int32 × sl_M) := (f5_isHouse x1 M).bind fun r1 => (if r1 = 0 then (f5_finds (-1000001 : Int32) M).bind fun r3 => some (r3.1, r3.2) else (if (f5_isFloor x2) = 0 then (f5_finds (-1000001 : Int32) M).bind fun r7 => some (r7.1, r7.2) else (sl_ld (M 1) 111 (((77 : Int32) + ((3 : Int32) * x1)) + (1 : Int32))).bind fun v5 => (sl_st M 1 111 (((77 : Int32) + ((3 : Int32) * x1)) + (1 : Int32)) x2).bind fun M6 => some (v5, M6)))
theorem cc5_floor {D : va_G} {cA : ClassId} {g : Nat → Nat} {A : Nat → Prop} {z : sl_K} {l : Launch} {x1 : Int32} {x2 : Int32} {M : sl_M} {r : Int32 × sl_M} (h : f5_floor x1 x2 M = some r) : sl_N sl_cl LR D cA g A z l yX5_floor cX5_floor 4 (some .int) 2 46 [.ref (g 0), .int x1, .int x2] M (some (.int r.1)) r.2 := by
  refine sl_N.of (by decide) (Nat.le_of_ble_eq_true rfl) rfl ?_
  intro p e s m args below meth c C
  replace C : sl_C RX5 cX5_floor 4 (some .int) sl_cl LR D cA g A z p s m meth c := C
  have hR : 2 ≤ (({ frames := 2, cells := 0, slots := 0, locals := 46 } : Room)).frames ∧ 46 ≤ (({ frames := 2, cells := 0, slots := 0, locals := 46 } : Room)).locals := ⟨Nat.le_refl _, Nat.le_refl _⟩
  rw [f5_floor] at h
  refine sa_aload_n C dX5_floor_0 rfl 0 rfl ?_
  refine sa_iload_n C dX5_floor_1 rfl 1 rfl ?_
  obtain ⟨r1, er1, h⟩ := sl_b h
  refine sa_invVi C yy_X5_isHouse ⟨q_971, q_62⟩ q_969 dX5_floor_2 (As := [.int x1]) (rest := []) rfl ⟨Nat.le_trans (Nat.le_of_ble_eq_true rfl) hR.1, Nat.le_trans (Nat.le_of_ble_eq_true rfl) hR.2⟩ (Nat.le_of_ble_eq_true rfl) hh_X5 lr_0 (cc5_isHouse er1) rfl ?_
  refine sa_if_eq C dX5_floor_5 (tgt := 15) (by decide) (fun c2 => ?_) (fun c2 => ?_)
  · replace h := sl_t c2 h
    refine sa_aload_n C dX5_floor_15 rfl 0 rfl ?_
    refine sa_ldc C dX5_floor_16 q_910 ?_
    obtain ⟨r3, er3, h⟩ := sl_b h
    refine sa_invVi C yy_X5_finds ⟨q_913, q_54⟩ q_911 dX5_floor_18 (As := [.int (-1000001 : Int32)]) (rest := []) rfl ⟨Nat.le_trans (Nat.le_of_ble_eq_true rfl) hR.1, Nat.le_trans (Nat.le_of_ble_eq_true rfl) hR.2⟩ (Nat.le_of_ble_eq_true rfl) hh_X5 lr_0 (cc5_finds er3) rfl ?_
    exact sa_iret C dX5_floor_21 (sl_p1 h) (sl_p2 h)
  · replace h := sl_n c2 h
    refine sa_iload_n C dX5_floor_8 rfl 2 rfl ?_
    refine sa_invSi C yy_X5_isFloor q_957 q_956 dX5_floor_9 (As := [.int x2]) (rest := []) rfl ⟨Nat.le_trans (Nat.le_of_ble_eq_true rfl) hR.1, Nat.le_trans (Nat.le_of_ble_eq_true rfl) hR.2⟩ (Nat.le_of_ble_eq_true rfl) (cc5_isFloor rfl) rfl ?_
    refine sa_if_ne C dX5_floor_12 (tgt := 22) (by decide) (fun c4 => ?_) (fun c4 => ?_)
    · replace h := sl_n c4 h
      refine sa_aload_n C dX5_floor_22 rfl 0 rfl ?_
      refine sa_getR C hh_X5 (k := 0) dX5_floor_23 q_837 (by decide) lr_0 rfl ?_
      refine sa_bipush C dX5_floor_26 bp_77 ?_
      refine sa_iconst C dX5_floor_28 ic_3 ?_
      refine sa_iload_n C dX5_floor_29 rfl 1 rfl ?_
      refine sa_imul C dX5_floor_30 ?_
      refine sa_iadd C dX5_floor_31 ?_
      refine sa_iconst C dX5_floor_32 ic_1 ?_
      refine sa_iadd C dX5_floor_33 ?_
      obtain ⟨v5, ev5, h⟩ := sl_b h
      refine sa_iald C dX5_floor_34 lr_1 ev5 ?_
      refine sa_istore_n C dX5_floor_35 rfl (by decide) (lv2 := [(3, .int v5), (0, .ref (g 0)), (1, .int x1), (2, .int x2)]) rfl ?_
      refine sa_aload_n C dX5_floor_36 rfl 1 rfl ?_
      refine sa_getR C hh_X5 (k := 0) dX5_floor_37 q_837 (by decide) lr_0 rfl ?_
      refine sa_bipush C dX5_floor_40 bp_77 ?_
      refine sa_iconst C dX5_floor_42 ic_3 ?_
      refine sa_iload_n C dX5_floor_43 rfl 2 rfl ?_
      refine sa_imul C dX5_floor_44 ?_
      refine sa_iadd C dX5_floor_45 ?_
      refine sa_iconst C dX5_floor_46 ic_1 ?_
      refine sa_iadd C dX5_floor_47 ?_
      refine sa_iload_n C dX5_floor_48 rfl 3 rfl ?_
      obtain ⟨M6, eM6, h⟩ := sl_b h
      refine sa_iast C dX5_floor_49 lr_1 eM6 ?_
      refine sa_iload_n C dX5_floor_50 rfl 0 rfl ?_
      exact sa_iret C dX5_floor_51 (sl_p1 h) (sl_p2 h)
    · replace h := sl_t c4 h
      refine sa_aload_n C dX5_floor_15 rfl 0 rfl ?_
      refine sa_ldc C dX5_floor_16 q_910 ?_
      obtain ⟨r7, er7, h⟩ := sl_b h
      refine sa_invVi C yy_X5_finds ⟨q_913, q_54⟩ q_911 dX5_floor_18 (As := [.int (-1000001 : Int32)]) (rest := []) rfl ⟨Nat.le_trans (Nat.le_of_ble_eq_true rfl) hR.1, Nat.le_trans (Nat.le_of_ble_eq_true rfl) hR.2⟩ (Nat.le_of_ble_eq_true rfl) hh_X5 lr_0 (cc5_finds er7) rfl ?_
      exact sa_iret C dX5_floor_21 (sl_p1 h) (sl_p2 h)
/-! X5 windows -/
def f5_windows (x1 : Int32) (x2 : Int32) (M : sl_M) : Option (Int32 × sl_M) := (f5_isHouse x1 M).bind fun r1 => (if r1 = 0 then (f5_finds (-1000001 : Int32) M).bind fun r3 => some (r3.1, r3.2) else (if (f5_in x2.toInt64 (0 : Int64) (3 : Int64)) = 0 then (f5_finds (-1000001 : Int32) M).bind fun r7 => some (r7.1, r7.2) else (f5_openOf x1 M).bind fun r5 => (sl_st M 1 111 (((77 : Int32) + ((3 : Int32) * x1)) + (2 : Int32)) x2).bind fun M6 => some (r5, M6)))
theorem cc5_windows {D : va_G} {cA : ClassId} {g : Nat → Nat} {A : Nat → Prop} {z : sl_K} {l : Launch} {x1 : Int32} {x2 : Int32} {M : sl_M} {r : Int32 × sl_M} (h : f5_windows x1 x2 M = some r) : sl_N sl_cl LR D cA g A z l yX5_windows cX5_windows 4 (some .int) 2 46 [.ref (g 0), .int x1, .int x2] M (some (.int r.1)) r.2 := by
  refine sl_N.of (by decide) (Nat.le_of_ble_eq_true rfl) rfl ?_
  intro p e s m args below meth c C
  replace C : sl_C RX5 cX5_windows 4 (some .int) sl_cl LR D cA g A z p s m meth c := C
  have hR : 2 ≤ (({ frames := 2, cells := 0, slots := 0, locals := 46 } : Room)).frames ∧ 46 ≤ (({ frames := 2, cells := 0, slots := 0, locals := 46 } : Room)).locals := ⟨Nat.le_refl _, Nat.le_refl _⟩
  rw [f5_windows] at h
  refine sa_aload_n C dX5_windows_0 rfl 0 rfl ?_
  refine sa_iload_n C dX5_windows_1 rfl 1 rfl ?_
  obtain ⟨r1, er1, h⟩ := sl_b h
  refine sa_invVi C yy_X5_isHouse ⟨q_971, q_62⟩ q_969 dX5_windows_2 (As := [.int x1]) (rest := []) rfl ⟨Nat.le_trans (Nat.le_of_ble_eq_true rfl) hR.1, Nat.le_trans (Nat.le_of_ble_eq_true rfl) hR.2⟩ (Nat.le_of_ble_eq_true rfl) hh_X5 lr_0 (cc5_isHouse er1) rfl ?_
  refine sa_if_eq C dX5_windows_5 (tgt := 20) (by decide) (fun c2 => ?_) (fun c2 => ?_)
  · replace h := sl_t c2 h
    refine sa_aload_n C dX5_windows_20 rfl 0 rfl ?_
    refine sa_ldc C dX5_windows_21 q_910 ?_
    obtain ⟨r3, er3, h⟩ := sl_b h
    refine sa_invVi C yy_X5_finds ⟨q_913, q_54⟩ q_911 dX5_windows_23 (As := [.int (-1000001 : Int32)]) (rest := []) rfl ⟨Nat.le_trans (Nat.le_of_ble_eq_true rfl) hR.1, Nat.le_trans (Nat.le_of_ble_eq_true rfl) hR.2⟩ (Nat.le_of_ble_eq_true rfl) hh_X5 lr_0 (cc5_finds er3) rfl ?_
    exact sa_iret C dX5_windows_26 (sl_p1 h) (sl_p2 h)
  · replace h := sl_n c2 h
    refine sa_iload_n C dX5_windows_8 rfl 2 rfl ?_
    refine sa_i2l C dX5_windows_9 ?_
    refine sa_lconst C dX5_windows_10 (v := 0) rfl ?_
    refine sa_ldc2 C dX5_windows_11 q_973 ?_
    refine sa_invSi C yy_X5_in q_907 q_906 dX5_windows_14 (As := [.long x2.toInt64, .long (0 : Int64), .long (3 : Int64)]) (rest := []) rfl ⟨Nat.le_trans (Nat.le_of_ble_eq_true rfl) hR.1, Nat.le_trans (Nat.le_of_ble_eq_true rfl) hR.2⟩ (Nat.le_of_ble_eq_true rfl) (cc5_in rfl) rfl ?_
    refine sa_if_ne C dX5_windows_17 (tgt := 27) (by decide) (fun c4 => ?_) (fun c4 => ?_)
    · replace h := sl_n c4 h
      refine sa_aload_n C dX5_windows_27 rfl 0 rfl ?_
      refine sa_iload_n C dX5_windows_28 rfl 1 rfl ?_
      obtain ⟨r5, er5, h⟩ := sl_b h
      refine sa_invVi C yy_X5_openOf ⟨q_984, q_65⟩ q_982 dX5_windows_29 (As := [.int x1]) (rest := []) rfl ⟨Nat.le_trans (Nat.le_of_ble_eq_true rfl) hR.1, Nat.le_trans (Nat.le_of_ble_eq_true rfl) hR.2⟩ (Nat.le_of_ble_eq_true rfl) hh_X5 lr_0 (cc5_openOf er5) rfl ?_
      refine sa_istore_n C dX5_windows_32 rfl (by decide) (lv2 := [(3, .int r5), (0, .ref (g 0)), (1, .int x1), (2, .int x2)]) rfl ?_
      refine sa_aload_n C dX5_windows_33 rfl 1 rfl ?_
      refine sa_getR C hh_X5 (k := 0) dX5_windows_34 q_837 (by decide) lr_0 rfl ?_
      refine sa_bipush C dX5_windows_37 bp_77 ?_
      refine sa_iconst C dX5_windows_39 ic_3 ?_
      refine sa_iload_n C dX5_windows_40 rfl 2 rfl ?_
      refine sa_imul C dX5_windows_41 ?_
      refine sa_iadd C dX5_windows_42 ?_
      refine sa_iconst C dX5_windows_43 ic_2 ?_
      refine sa_iadd C dX5_windows_44 ?_
      refine sa_iload_n C dX5_windows_45 rfl 3 rfl ?_
      obtain ⟨M6, eM6, h⟩ := sl_b h
      refine sa_iast C dX5_windows_46 lr_1 eM6 ?_
      refine sa_iload_n C dX5_windows_47 rfl 0 rfl ?_
      exact sa_iret C dX5_windows_48 (sl_p1 h) (sl_p2 h)
    · replace h := sl_t c4 h
      refine sa_aload_n C dX5_windows_20 rfl 0 rfl ?_
      refine sa_ldc C dX5_windows_21 q_910 ?_
      obtain ⟨r7, er7, h⟩ := sl_b h
      refine sa_invVi C yy_X5_finds ⟨q_913, q_54⟩ q_911 dX5_windows_23 (As := [.int (-1000001 : Int32)]) (rest := []) rfl ⟨Nat.le_trans (Nat.le_of_ble_eq_true rfl) hR.1, Nat.le_trans (Nat.le_of_ble_eq_true rfl) hR.2⟩ (Nat.le_of_ble_eq_true rfl) hh_X5 lr_0 (cc5_finds er7) rfl ?_
      exact sa_iret C dX5_windows_26 (sl_p1 h) (sl_p2 h)
/-! X5 law -/
def f5_law_29 (x1 : Int32) (x2 : Int32) (t0 : Int64) (t1 : Int64) (t2 : Int64) (M : sl_M) : Option (Int32 × sl_M) := (if (f5_in t2 t1 t0) = 0 then (f5_finds (-1000001 : Int32) M).bind fun r4 => some (r4.1, r4.2) else (sl_ld (M 1) 111 ((2 : Int32) + x1)).bind fun v2 => (sl_st M 1 111 ((2 : Int32) + x1) x2).bind fun M3 => some (v2, M3))
def f5_law (x1 : Int32) (x2 : Int32) (M : sl_M) : Option (Int32 × sl_M) := (if (f5_in x1.toInt64 (0 : Int64) (1 : Int64)) = 0 then (f5_finds (-1000001 : Int32) M).bind fun r2 => some (r2.1, r2.2) else (if x1 = 0 then f5_law_29 x1 x2 (23 : Int64) (((1 : Int32) - x1).toInt64) x2.toInt64 M else f5_law_29 x1 x2 (99 : Int64) (((1 : Int32) - x1).toInt64) x2.toInt64 M))
theorem w5_law_29 {D : va_G} {cA : ClassId} {g : Nat → Nat} {A : Nat → Prop} {z : sl_K} {l : Launch} {p : Program} {e : Env} {R : Room} {s : State} {m : MethodId} {args : Array Value} {below : List Frame} {meth : Method} {c : Code} (C : sl_C RX5 cX5_law 4 (some .int) sl_cl LR D cA g A z p s m meth c) (hR : 1 ≤ R.frames ∧ 25 ≤ R.locals) {M : sl_M} {r : Int32 × sl_M} {x1 : Int32} {x2 : Int32} {t0 : Int64} {t1 : Int64} {t2 : Int64} (h : f5_law_29 x1 x2 t0 t1 t2 M = some r) : sl_A sl_cl LR D cA g A p l e R s m args below meth c (MQ below (sl_Q sl_cl LR D cA g A (some (.int r.1)) r.2) args s 0 0 A) 4 29 [(0, .ref (g 0)), (1, .int x1), (2, .int x2)] [.long t0, .long t1, .long t2] M := by
  rw [f5_law_29] at h
  refine sa_invSi C yy_X5_in q_907 q_906 dX5_law_29 (As := [.long t2, .long t1, .long t0]) (rest := []) rfl ⟨Nat.le_trans (Nat.le_of_ble_eq_true rfl) hR.1, Nat.le_trans (Nat.le_of_ble_eq_true rfl) hR.2⟩ (Nat.le_of_ble_eq_true rfl) (cc5_in rfl) rfl ?_
  refine sa_if_ne C dX5_law_32 (tgt := 42) (by decide) (fun c1 => ?_) (fun c1 => ?_)
  · replace h := sl_n c1 h
    refine sa_aload_n C dX5_law_42 rfl 0 rfl ?_
    refine sa_getR C hh_X5 (k := 0) dX5_law_43 q_837 (by decide) lr_0 rfl ?_
    refine sa_iconst C dX5_law_46 ic_2 ?_
    refine sa_iload_n C dX5_law_47 rfl 1 rfl ?_
    refine sa_iadd C dX5_law_48 ?_
    obtain ⟨v2, ev2, h⟩ := sl_b h
    refine sa_iald C dX5_law_49 lr_1 ev2 ?_
    refine sa_istore_n C dX5_law_50 rfl (by decide) (lv2 := [(3, .int v2), (0, .ref (g 0)), (1, .int x1), (2, .int x2)]) rfl ?_
    refine sa_aload_n C dX5_law_51 rfl 1 rfl ?_
    refine sa_getR C hh_X5 (k := 0) dX5_law_52 q_837 (by decide) lr_0 rfl ?_
    refine sa_iconst C dX5_law_55 ic_2 ?_
    refine sa_iload_n C dX5_law_56 rfl 2 rfl ?_
    refine sa_iadd C dX5_law_57 ?_
    refine sa_iload_n C dX5_law_58 rfl 3 rfl ?_
    obtain ⟨M3, eM3, h⟩ := sl_b h
    refine sa_iast C dX5_law_59 lr_1 eM3 ?_
    refine sa_iload_n C dX5_law_60 rfl 0 rfl ?_
    exact sa_iret C dX5_law_61 (sl_p1 h) (sl_p2 h)
  · replace h := sl_t c1 h
    refine sa_aload_n C dX5_law_35 rfl 0 rfl ?_
    refine sa_ldc C dX5_law_36 q_910 ?_
    obtain ⟨r4, er4, h⟩ := sl_b h
    refine sa_invVi C yy_X5_finds ⟨q_913, q_54⟩ q_911 dX5_law_38 (As := [.int (-1000001 : Int32)]) (rest := []) rfl ⟨Nat.le_trans (Nat.le_of_ble_eq_true rfl) hR.1, Nat.le_trans (Nat.le_of_ble_eq_true rfl) hR.2⟩ (Nat.le_of_ble_eq_true rfl) hh_X5 lr_0 (cc5_finds er4) rfl ?_
    exact sa_iret C dX5_law_41 (sl_p1 h) (sl_p2 h)
theorem cc5_law {D : va_G} {cA : ClassId} {g : Nat → Nat} {A : Nat → Prop} {z : sl_K} {l : Launch} {x1 : Int32} {x2 : Int32} {M : sl_M} {r : Int32 × sl_M} (h : f5_law x1 x2 M = some r) : sl_N sl_cl LR D cA g A z l yX5_law cX5_law 4 (some .int) 1 25 [.ref (g 0), .int x1, .int x2] M (some (.int r.1)) r.2 := by
  refine sl_N.of (by decide) (Nat.le_of_ble_eq_true rfl) rfl ?_
  intro p e s m args below meth c C
  replace C : sl_C RX5 cX5_law 4 (some .int) sl_cl LR D cA g A z p s m meth c := C
  have hR : 1 ≤ (({ frames := 1, cells := 0, slots := 0, locals := 25 } : Room)).frames ∧ 25 ≤ (({ frames := 1, cells := 0, slots := 0, locals := 25 } : Room)).locals := ⟨Nat.le_refl _, Nat.le_refl _⟩
  rw [f5_law] at h
  refine sa_iload_n C dX5_law_0 rfl 1 rfl ?_
  refine sa_i2l C dX5_law_1 ?_
  refine sa_lconst C dX5_law_2 (v := 0) rfl ?_
  refine sa_lconst C dX5_law_3 (v := 1) rfl ?_
  refine sa_invSi C yy_X5_in q_907 q_906 dX5_law_4 (As := [.long x1.toInt64, .long (0 : Int64), .long (1 : Int64)]) (rest := []) rfl ⟨Nat.le_trans (Nat.le_of_ble_eq_true rfl) hR.1, Nat.le_trans (Nat.le_of_ble_eq_true rfl) hR.2⟩ (Nat.le_of_ble_eq_true rfl) (cc5_in rfl) rfl ?_
  refine sa_if_eq C dX5_law_7 (tgt := 35) (by decide) (fun c1 => ?_) (fun c1 => ?_)
  · replace h := sl_t c1 h
    refine sa_aload_n C dX5_law_35 rfl 0 rfl ?_
    refine sa_ldc C dX5_law_36 q_910 ?_
    obtain ⟨r2, er2, h⟩ := sl_b h
    refine sa_invVi C yy_X5_finds ⟨q_913, q_54⟩ q_911 dX5_law_38 (As := [.int (-1000001 : Int32)]) (rest := []) rfl ⟨Nat.le_trans (Nat.le_of_ble_eq_true rfl) hR.1, Nat.le_trans (Nat.le_of_ble_eq_true rfl) hR.2⟩ (Nat.le_of_ble_eq_true rfl) hh_X5 lr_0 (cc5_finds er2) rfl ?_
    exact sa_iret C dX5_law_41 (sl_p1 h) (sl_p2 h)
  · replace h := sl_n c1 h
    refine sa_iload_n C dX5_law_10 rfl 2 rfl ?_
    refine sa_i2l C dX5_law_11 ?_
    refine sa_iconst C dX5_law_12 ic_1 ?_
    refine sa_iload_n C dX5_law_13 rfl 1 rfl ?_
    refine sa_isub C dX5_law_14 ?_
    refine sa_i2l C dX5_law_15 ?_
    refine sa_iload_n C dX5_law_16 rfl 1 rfl ?_
    refine sa_if_ne C dX5_law_17 (tgt := 26) (by decide) (fun c3 => ?_) (fun c3 => ?_)
    · replace h := sl_n c3 h
      refine sa_ldc2 C dX5_law_26 q_909 ?_
      exact sa_sub [0, 1, 2] rfl (w5_law_29 C hR h)
    · replace h := sl_t c3 h
      refine sa_ldc2 C dX5_law_20 q_905 ?_
      refine sa_goto C dX5_law_23 (tgt := 29) (by decide) ?_
      exact sa_sub [0, 1, 2] rfl (w5_law_29 C hR h)
/-! X5 lowers -/
def f5_lowers (x1 : Int32) (x2 : Int32) (M : sl_M) : Option sl_M := (f5_heightOf x1 M).bind fun r1 => (if x2 ≤ r1 then (f5_heightOf x1 M).bind fun r3 => (sl_st M 1 111 (((5 : Int32) + ((3 : Int32) * x1)) + (1 : Int32)) (r3 - x2)).bind fun M4 => some M4 else (sl_st M 1 111 (((5 : Int32) + ((3 : Int32) * x1)) + (1 : Int32)) (0 : Int32)).bind fun M5 => some M5)
theorem cc5_lowers {D : va_G} {cA : ClassId} {g : Nat → Nat} {A : Nat → Prop} {z : sl_K} {l : Launch} {x1 : Int32} {x2 : Int32} {M : sl_M} {r : sl_M} (h : f5_lowers x1 x2 M = some r) : sl_N sl_cl LR D cA g A z l yX5_lowers cX5_lowers 3 none 1 21 [.ref (g 0), .int x1, .int x2] M none r := by
  refine sl_N.of (by decide) (Nat.le_of_ble_eq_true rfl) rfl ?_
  intro p e s m args below meth c C
  replace C : sl_C RX5 cX5_lowers 3 none sl_cl LR D cA g A z p s m meth c := C
  have hR : 1 ≤ (({ frames := 1, cells := 0, slots := 0, locals := 21 } : Room)).frames ∧ 21 ≤ (({ frames := 1, cells := 0, slots := 0, locals := 21 } : Room)).locals := ⟨Nat.le_refl _, Nat.le_refl _⟩
  rw [f5_lowers] at h
  refine sa_aload_n C dX5_lowers_0 rfl 0 rfl ?_
  refine sa_getR C hh_X5 (k := 0) dX5_lowers_1 q_837 (by decide) lr_0 rfl ?_
  refine sa_iconst C dX5_lowers_4 ic_5 ?_
  refine sa_iconst C dX5_lowers_5 ic_3 ?_
  refine sa_iload_n C dX5_lowers_6 rfl 1 rfl ?_
  refine sa_imul C dX5_lowers_7 ?_
  refine sa_iadd C dX5_lowers_8 ?_
  refine sa_iconst C dX5_lowers_9 ic_1 ?_
  refine sa_iadd C dX5_lowers_10 ?_
  refine sa_aload_n C dX5_lowers_11 rfl 0 rfl ?_
  refine sa_iload_n C dX5_lowers_12 rfl 1 rfl ?_
  obtain ⟨r1, er1, h⟩ := sl_b h
  refine sa_invVi C yy_X5_heightOf ⟨q_946, q_59⟩ q_944 dX5_lowers_13 (As := [.int x1]) (rest := [.int (((5 : Int32) + ((3 : Int32) * x1)) + (1 : Int32)), .ref (g 1)]) rfl ⟨Nat.le_trans (Nat.le_of_ble_eq_true rfl) hR.1, Nat.le_trans (Nat.le_of_ble_eq_true rfl) hR.2⟩ (Nat.le_of_ble_eq_true rfl) hh_X5 lr_0 (cc5_heightOf er1) rfl ?_
  refine sa_iload_n C dX5_lowers_16 rfl 2 rfl ?_
  refine sa_icmp_ge C dX5_lowers_17 (tgt := 24) (by decide) (fun c2 => ?_) (fun c2 => ?_)
  · replace h := sl_t c2 h
    refine sa_aload_n C dX5_lowers_24 rfl 0 rfl ?_
    refine sa_iload_n C dX5_lowers_25 rfl 1 rfl ?_
    obtain ⟨r3, er3, h⟩ := sl_b h
    refine sa_invVi C yy_X5_heightOf ⟨q_946, q_59⟩ q_944 dX5_lowers_26 (As := [.int x1]) (rest := [.int (((5 : Int32) + ((3 : Int32) * x1)) + (1 : Int32)), .ref (g 1)]) rfl ⟨Nat.le_trans (Nat.le_of_ble_eq_true rfl) hR.1, Nat.le_trans (Nat.le_of_ble_eq_true rfl) hR.2⟩ (Nat.le_of_ble_eq_true rfl) hh_X5 lr_0 (cc5_heightOf er3) rfl ?_
    refine sa_iload_n C dX5_lowers_29 rfl 2 rfl ?_
    refine sa_isub C dX5_lowers_30 ?_
    obtain ⟨M4, eM4, h⟩ := sl_b h
    refine sa_iast C dX5_lowers_31 lr_1 eM4 ?_
    exact sa_vret C dX5_lowers_32 (Option.some.inj h)
  · replace h := sl_n c2 h
    refine sa_iconst C dX5_lowers_20 ic_0 ?_
    refine sa_goto C dX5_lowers_21 (tgt := 31) (by decide) ?_
    obtain ⟨M5, eM5, h⟩ := sl_b h
    refine sa_iast C dX5_lowers_31 lr_1 eM5 ?_
    exact sa_vret C dX5_lowers_32 (Option.some.inj h)
/-! X5 dig -/
def f5_dig_33 (x2 : Int32) (x3 : Int32) : Nat → Int32 → Int32 → sl_M → Option (Int32 × sl_M)
  | 0, _, _, _ => none
  | n + 1, x4, x5, M => (if x2 < x5 then some (x4, M) else (f5_lowers x5 x3 M).bind fun r2 => (f5_heightOf x5 r2).bind fun r3 => (if r3 = 0 then f5_dig_33 x2 x3 n (x4 + (1 : Int32)) (x5 + (1 : Int32)) r2 else f5_dig_33 x2 x3 n (x4 + (0 : Int32)) (x5 + (1 : Int32)) r2))
def f5_dig (x1 : Int32) (x2 : Int32) (x3 : Int32) (M : sl_M) : Option (Int32 × sl_M) := (if (f5_isStretch x1 x2) = 0 then (f5_finds (-1000001 : Int32) M).bind fun r2 => some (r2.1, r2.2) else (if (f5_in x3.toInt64 (1 : Int64) (99 : Int64)) = 0 then (f5_finds (-1000001 : Int32) M).bind fun r4 => some (r4.1, r4.2) else f5_dig_33 x2 x3 400 (0 : Int32) x1 M))
theorem w5_dig_33 {D : va_G} {cA : ClassId} {g : Nat → Nat} {A : Nat → Prop} {z : sl_K} {l : Launch} {p : Program} {e : Env} {R : Room} {s : State} {m : MethodId} {args : Array Value} {below : List Frame} {meth : Method} {c : Code} (C : sl_C RX5 cX5_dig 6 (some .int) sl_cl LR D cA g A z p s m meth c) (hR : 3 ≤ R.frames ∧ 66 ≤ R.locals) {r : Int32 × sl_M} {x2 : Int32} {x3 : Int32} : ∀ (n : Nat) {x4 : Int32} {x5 : Int32} {M : sl_M}, f5_dig_33 x2 x3 n x4 x5 M = some r → sl_A sl_cl LR D cA g A p l e R s m args below meth c (MQ below (sl_Q sl_cl LR D cA g A (some (.int r.1)) r.2) args s 0 0 A) 6 33 [(0, .ref (g 0)), (2, .int x2), (3, .int x3), (4, .int x4), (5, .int x5)] [] M := by
  intro n
  induction n with
  | zero =>
    intro x4 x5 M h
    exact absurd h.symm (Option.some_ne_none _)
  | succ n ih =>
    intro x4 x5 M h
    rw [f5_dig_33] at h
    refine sa_iload C dX5_dig_33 4 rfl ?_
    refine sa_iload_n C dX5_dig_35 rfl 1 rfl ?_
    refine sa_icmp_gt C dX5_dig_36 (tgt := 71) (by decide) (fun c1 => ?_) (fun c1 => ?_)
    · replace h := sl_t c1 h
      refine sa_iload C dX5_dig_71 3 rfl ?_
      exact sa_iret C dX5_dig_73 (sl_p1 h) (sl_p2 h)
    · replace h := sl_n c1 h
      refine sa_aload_n C dX5_dig_39 rfl 0 rfl ?_
      refine sa_iload C dX5_dig_40 4 rfl ?_
      refine sa_iload_n C dX5_dig_42 rfl 2 rfl ?_
      obtain ⟨r2, er2, h⟩ := sl_b h
      refine sa_invVv C yy_X5_lowers ⟨q_1007, q_66⟩ q_1005 dX5_dig_43 (As := [.int x5, .int x3]) (rest := []) rfl ⟨Nat.le_trans (Nat.le_of_ble_eq_true rfl) hR.1, Nat.le_trans (Nat.le_of_ble_eq_true rfl) hR.2⟩ (Nat.le_of_ble_eq_true rfl) hh_X5 lr_0 (cc5_lowers er2) rfl ?_
      refine sa_iload C dX5_dig_46 3 rfl ?_
      refine sa_aload_n C dX5_dig_48 rfl 0 rfl ?_
      refine sa_iload C dX5_dig_49 4 rfl ?_
      obtain ⟨r3, er3, h⟩ := sl_b h
      refine sa_invVi C yy_X5_heightOf ⟨q_946, q_59⟩ q_944 dX5_dig_51 (As := [.int x5]) (rest := [.int x4]) rfl ⟨Nat.le_trans (Nat.le_of_ble_eq_true rfl) hR.1, Nat.le_trans (Nat.le_of_ble_eq_true rfl) hR.2⟩ (Nat.le_of_ble_eq_true rfl) hh_X5 lr_0 (cc5_heightOf er3) rfl ?_
      refine sa_if_ne C dX5_dig_54 (tgt := 61) (by decide) (fun c4 => ?_) (fun c4 => ?_)
      · replace h := sl_n c4 h
        refine sa_iconst C dX5_dig_61 ic_0 ?_
        refine sa_iadd C dX5_dig_62 ?_
        refine sa_istore C dX5_dig_63 (by decide) (lv2 := [(4, .int (x4 + (0 : Int32))), (0, .ref (g 0)), (2, .int x2), (3, .int x3), (5, .int x5)]) rfl ?_
        refine sa_iinc C dX5_dig_65 4 rfl (v := (x5 + (1 : Int32))) (by rw [ic_1]) (by decide) (lv2 := [(5, .int (x5 + (1 : Int32))), (4, .int (x4 + (0 : Int32))), (0, .ref (g 0)), (2, .int x2), (3, .int x3)]) rfl ?_
        refine sa_goto C dX5_dig_68 (tgt := 33) (by decide) ?_
        exact sa_sub [2, 3, 4, 1, 0] rfl (ih h)
      · replace h := sl_t c4 h
        refine sa_iconst C dX5_dig_57 ic_1 ?_
        refine sa_goto C dX5_dig_58 (tgt := 62) (by decide) ?_
        refine sa_iadd C dX5_dig_62 ?_
        refine sa_istore C dX5_dig_63 (by decide) (lv2 := [(4, .int (x4 + (1 : Int32))), (0, .ref (g 0)), (2, .int x2), (3, .int x3), (5, .int x5)]) rfl ?_
        refine sa_iinc C dX5_dig_65 4 rfl (v := (x5 + (1 : Int32))) (by rw [ic_1]) (by decide) (lv2 := [(5, .int (x5 + (1 : Int32))), (4, .int (x4 + (1 : Int32))), (0, .ref (g 0)), (2, .int x2), (3, .int x3)]) rfl ?_
        refine sa_goto C dX5_dig_68 (tgt := 33) (by decide) ?_
        exact sa_sub [2, 3, 4, 1, 0] rfl (ih h)
theorem cc5_dig {D : va_G} {cA : ClassId} {g : Nat → Nat} {A : Nat → Prop} {z : sl_K} {l : Launch} {x1 : Int32} {x2 : Int32} {x3 : Int32} {M : sl_M} {r : Int32 × sl_M} (h : f5_dig x1 x2 x3 M = some r) : sl_N sl_cl LR D cA g A z l yX5_dig cX5_dig 6 (some .int) 3 66 [.ref (g 0), .int x1, .int x2, .int x3] M (some (.int r.1)) r.2 := by
  refine sl_N.of (by decide) (Nat.le_of_ble_eq_true rfl) rfl ?_
  intro p e s m args below meth c C
  replace C : sl_C RX5 cX5_dig 6 (some .int) sl_cl LR D cA g A z p s m meth c := C
  have hR : 3 ≤ (({ frames := 3, cells := 0, slots := 0, locals := 66 } : Room)).frames ∧ 66 ≤ (({ frames := 3, cells := 0, slots := 0, locals := 66 } : Room)).locals := ⟨Nat.le_refl _, Nat.le_refl _⟩
  rw [f5_dig] at h
  refine sa_iload_n C dX5_dig_0 rfl 1 rfl ?_
  refine sa_iload_n C dX5_dig_1 rfl 2 rfl ?_
  refine sa_invSi C yy_X5_isStretch q_1003 q_1002 dX5_dig_2 (As := [.int x1, .int x2]) (rest := []) rfl ⟨Nat.le_trans (Nat.le_of_ble_eq_true rfl) hR.1, Nat.le_trans (Nat.le_of_ble_eq_true rfl) hR.2⟩ (Nat.le_of_ble_eq_true rfl) (cc5_isStretch rfl) rfl ?_
  refine sa_if_eq C dX5_dig_5 (tgt := 20) (by decide) (fun c1 => ?_) (fun c1 => ?_)
  · replace h := sl_t c1 h
    refine sa_aload_n C dX5_dig_20 rfl 0 rfl ?_
    refine sa_ldc C dX5_dig_21 q_910 ?_
    obtain ⟨r2, er2, h⟩ := sl_b h
    refine sa_invVi C yy_X5_finds ⟨q_913, q_54⟩ q_911 dX5_dig_23 (As := [.int (-1000001 : Int32)]) (rest := []) rfl ⟨Nat.le_trans (Nat.le_of_ble_eq_true rfl) hR.1, Nat.le_trans (Nat.le_of_ble_eq_true rfl) hR.2⟩ (Nat.le_of_ble_eq_true rfl) hh_X5 lr_0 (cc5_finds er2) rfl ?_
    exact sa_iret C dX5_dig_26 (sl_p1 h) (sl_p2 h)
  · replace h := sl_n c1 h
    refine sa_iload_n C dX5_dig_8 rfl 3 rfl ?_
    refine sa_i2l C dX5_dig_9 ?_
    refine sa_lconst C dX5_dig_10 (v := 1) rfl ?_
    refine sa_ldc2 C dX5_dig_11 q_909 ?_
    refine sa_invSi C yy_X5_in q_907 q_906 dX5_dig_14 (As := [.long x3.toInt64, .long (1 : Int64), .long (99 : Int64)]) (rest := []) rfl ⟨Nat.le_trans (Nat.le_of_ble_eq_true rfl) hR.1, Nat.le_trans (Nat.le_of_ble_eq_true rfl) hR.2⟩ (Nat.le_of_ble_eq_true rfl) (cc5_in rfl) rfl ?_
    refine sa_if_ne C dX5_dig_17 (tgt := 27) (by decide) (fun c3 => ?_) (fun c3 => ?_)
    · replace h := sl_n c3 h
      refine sa_iconst C dX5_dig_27 ic_0 ?_
      refine sa_istore C dX5_dig_28 (by decide) (lv2 := [(4, .int (0 : Int32)), (0, .ref (g 0)), (1, .int x1), (2, .int x2), (3, .int x3)]) rfl ?_
      refine sa_iload_n C dX5_dig_30 rfl 2 rfl ?_
      refine sa_istore C dX5_dig_31 (by decide) (lv2 := [(5, .int x1), (4, .int (0 : Int32)), (0, .ref (g 0)), (1, .int x1), (2, .int x2), (3, .int x3)]) rfl ?_
      exact sa_sub [2, 4, 5, 1, 0] rfl (w5_dig_33 C hR 400 h)
    · replace h := sl_t c3 h
      refine sa_aload_n C dX5_dig_20 rfl 0 rfl ?_
      refine sa_ldc C dX5_dig_21 q_910 ?_
      obtain ⟨r4, er4, h⟩ := sl_b h
      refine sa_invVi C yy_X5_finds ⟨q_913, q_54⟩ q_911 dX5_dig_23 (As := [.int (-1000001 : Int32)]) (rest := []) rfl ⟨Nat.le_trans (Nat.le_of_ble_eq_true rfl) hR.1, Nat.le_trans (Nat.le_of_ble_eq_true rfl) hR.2⟩ (Nat.le_of_ble_eq_true rfl) hh_X5 lr_0 (cc5_finds er4) rfl ?_
      exact sa_iret C dX5_dig_26 (sl_p1 h) (sl_p2 h)
/-! X5 drain -/
def f5_drain_23 (x1 : Int32) : Nat → Int32 → Int32 → sl_M → Option (Int32 × sl_M)
  | 0, _, _, _ => none
  | n + 1, x2, x3, M => (if (24 : Int32) ≤ x3 then some (x2, M) else (f5_kindOf x3 M).bind fun r2 => (if r2 = (1 : Int32) then (sl_st M 1 111 ((5 : Int32) + ((3 : Int32) * x3)) (2 : Int32)).bind fun M4 => (f5_lowers x3 x1 M4).bind fun r5 => f5_drain_23 x1 n (x2 + (1 : Int32)) (x3 + (1 : Int32)) r5 else f5_drain_23 x1 n x2 (x3 + (1 : Int32)) M))
def f5_drain (x1 : Int32) (M : sl_M) : Option (Int32 × sl_M) := (if (f5_in x1.toInt64 (0 : Int64) (20 : Int64)) = 0 then (f5_finds (-1000001 : Int32) M).bind fun r2 => some (r2.1, r2.2) else f5_drain_23 x1 400 (0 : Int32) (0 : Int32) M)
theorem w5_drain_23 {D : va_G} {cA : ClassId} {g : Nat → Nat} {A : Nat → Prop} {z : sl_K} {l : Launch} {p : Program} {e : Env} {R : Room} {s : State} {m : MethodId} {args : Array Value} {below : List Frame} {meth : Method} {c : Code} (C : sl_C RX5 cX5_drain 4 (some .int) sl_cl LR D cA g A z p s m meth c) (hR : 2 ≤ R.frames ∧ 43 ≤ R.locals) {r : Int32 × sl_M} {x1 : Int32} : ∀ (n : Nat) {x2 : Int32} {x3 : Int32} {M : sl_M}, f5_drain_23 x1 n x2 x3 M = some r → sl_A sl_cl LR D cA g A p l e R s m args below meth c (MQ below (sl_Q sl_cl LR D cA g A (some (.int r.1)) r.2) args s 0 0 A) 4 23 [(0, .ref (g 0)), (1, .int x1), (2, .int x2), (3, .int x3)] [] M := by
  intro n
  induction n with
  | zero =>
    intro x2 x3 M h
    exact absurd h.symm (Option.some_ne_none _)
  | succ n ih =>
    intro x2 x3 M h
    rw [f5_drain_23] at h
    refine sa_iload_n C dX5_drain_23 rfl 3 rfl ?_
    refine sa_bipush C dX5_drain_24 bp_24 ?_
    refine sa_icmp_ge C dX5_drain_26 (tgt := 64) (by decide) (fun c1 => ?_) (fun c1 => ?_)
    · replace h := sl_t c1 h
      refine sa_iload_n C dX5_drain_64 rfl 2 rfl ?_
      exact sa_iret C dX5_drain_65 (sl_p1 h) (sl_p2 h)
    · replace h := sl_n c1 h
      refine sa_aload_n C dX5_drain_29 rfl 0 rfl ?_
      refine sa_iload_n C dX5_drain_30 rfl 3 rfl ?_
      obtain ⟨r2, er2, h⟩ := sl_b h
      refine sa_invVi C yy_X5_kindOf ⟨q_925, q_55⟩ q_923 dX5_drain_31 (As := [.int x3]) (rest := []) rfl ⟨Nat.le_trans (Nat.le_of_ble_eq_true rfl) hR.1, Nat.le_trans (Nat.le_of_ble_eq_true rfl) hR.2⟩ (Nat.le_of_ble_eq_true rfl) hh_X5 lr_0 (cc5_kindOf er2) rfl ?_
      refine sa_iconst C dX5_drain_34 ic_1 ?_
      refine sa_icmp_ne C dX5_drain_35 (tgt := 58) (by decide) (fun c3 => ?_) (fun c3 => ?_)
      · replace h := sl_n c3 h
        refine sa_iinc C dX5_drain_58 3 rfl (v := (x3 + (1 : Int32))) (by rw [ic_1]) (by decide) (lv2 := [(3, .int (x3 + (1 : Int32))), (0, .ref (g 0)), (1, .int x1), (2, .int x2)]) rfl ?_
        refine sa_goto C dX5_drain_61 (tgt := 23) (by decide) ?_
        exact sa_sub [1, 2, 3, 0] rfl (ih h)
      · replace h := sl_t c3 h
        refine sa_aload_n C dX5_drain_38 rfl 0 rfl ?_
        refine sa_getR C hh_X5 (k := 0) dX5_drain_39 q_837 (by decide) lr_0 rfl ?_
        refine sa_iconst C dX5_drain_42 ic_5 ?_
        refine sa_iconst C dX5_drain_43 ic_3 ?_
        refine sa_iload_n C dX5_drain_44 rfl 3 rfl ?_
        refine sa_imul C dX5_drain_45 ?_
        refine sa_iadd C dX5_drain_46 ?_
        refine sa_iconst C dX5_drain_47 ic_2 ?_
        obtain ⟨M4, eM4, h⟩ := sl_b h
        refine sa_iast C dX5_drain_48 lr_1 eM4 ?_
        refine sa_aload_n C dX5_drain_49 rfl 0 rfl ?_
        refine sa_iload_n C dX5_drain_50 rfl 3 rfl ?_
        refine sa_iload_n C dX5_drain_51 rfl 1 rfl ?_
        obtain ⟨r5, er5, h⟩ := sl_b h
        refine sa_invVv C yy_X5_lowers ⟨q_1007, q_66⟩ q_1005 dX5_drain_52 (As := [.int x3, .int x1]) (rest := []) rfl ⟨Nat.le_trans (Nat.le_of_ble_eq_true rfl) hR.1, Nat.le_trans (Nat.le_of_ble_eq_true rfl) hR.2⟩ (Nat.le_of_ble_eq_true rfl) hh_X5 lr_0 (cc5_lowers er5) rfl ?_
        refine sa_iinc C dX5_drain_55 2 rfl (v := (x2 + (1 : Int32))) (by rw [ic_1]) (by decide) (lv2 := [(2, .int (x2 + (1 : Int32))), (0, .ref (g 0)), (1, .int x1), (3, .int x3)]) rfl ?_
        refine sa_iinc C dX5_drain_58 3 rfl (v := (x3 + (1 : Int32))) (by rw [ic_1]) (by decide) (lv2 := [(3, .int (x3 + (1 : Int32))), (2, .int (x2 + (1 : Int32))), (0, .ref (g 0)), (1, .int x1)]) rfl ?_
        refine sa_goto C dX5_drain_61 (tgt := 23) (by decide) ?_
        exact sa_sub [2, 3, 1, 0] rfl (ih h)
theorem cc5_drain {D : va_G} {cA : ClassId} {g : Nat → Nat} {A : Nat → Prop} {z : sl_K} {l : Launch} {x1 : Int32} {M : sl_M} {r : Int32 × sl_M} (h : f5_drain x1 M = some r) : sl_N sl_cl LR D cA g A z l yX5_drain cX5_drain 4 (some .int) 2 43 [.ref (g 0), .int x1] M (some (.int r.1)) r.2 := by
  refine sl_N.of (by decide) (Nat.le_of_ble_eq_true rfl) rfl ?_
  intro p e s m args below meth c C
  replace C : sl_C RX5 cX5_drain 4 (some .int) sl_cl LR D cA g A z p s m meth c := C
  have hR : 2 ≤ (({ frames := 2, cells := 0, slots := 0, locals := 43 } : Room)).frames ∧ 43 ≤ (({ frames := 2, cells := 0, slots := 0, locals := 43 } : Room)).locals := ⟨Nat.le_refl _, Nat.le_refl _⟩
  rw [f5_drain] at h
  refine sa_iload_n C dX5_drain_0 rfl 1 rfl ?_
  refine sa_i2l C dX5_drain_1 ?_
  refine sa_lconst C dX5_drain_2 (v := 0) rfl ?_
  refine sa_ldc2 C dX5_drain_3 q_1013 ?_
  refine sa_invSi C yy_X5_in q_907 q_906 dX5_drain_6 (As := [.long x1.toInt64, .long (0 : Int64), .long (20 : Int64)]) (rest := []) rfl ⟨Nat.le_trans (Nat.le_of_ble_eq_true rfl) hR.1, Nat.le_trans (Nat.le_of_ble_eq_true rfl) hR.2⟩ (Nat.le_of_ble_eq_true rfl) (cc5_in rfl) rfl ?_
  refine sa_if_ne C dX5_drain_9 (tgt := 19) (by decide) (fun c1 => ?_) (fun c1 => ?_)
  · replace h := sl_n c1 h
    refine sa_iconst C dX5_drain_19 ic_0 ?_
    refine sa_istore_n C dX5_drain_20 rfl (by decide) (lv2 := [(2, .int (0 : Int32)), (0, .ref (g 0)), (1, .int x1)]) rfl ?_
    refine sa_iconst C dX5_drain_21 ic_0 ?_
    refine sa_istore_n C dX5_drain_22 rfl (by decide) (lv2 := [(3, .int (0 : Int32)), (2, .int (0 : Int32)), (0, .ref (g 0)), (1, .int x1)]) rfl ?_
    exact sa_sub [2, 3, 1, 0] rfl (w5_drain_23 C hR 400 h)
  · replace h := sl_t c1 h
    refine sa_aload_n C dX5_drain_12 rfl 0 rfl ?_
    refine sa_ldc C dX5_drain_13 q_910 ?_
    obtain ⟨r2, er2, h⟩ := sl_b h
    refine sa_invVi C yy_X5_finds ⟨q_913, q_54⟩ q_911 dX5_drain_15 (As := [.int (-1000001 : Int32)]) (rest := []) rfl ⟨Nat.le_trans (Nat.le_of_ble_eq_true rfl) hR.1, Nat.le_trans (Nat.le_of_ble_eq_true rfl) hR.2⟩ (Nat.le_of_ble_eq_true rfl) hh_X5 lr_0 (cc5_finds er2) rfl ?_
    exact sa_iret C dX5_drain_18 (sl_p1 h) (sl_p2 h)
/-! X5 isHiding -/
def f5_isHiding (x1 : Int32) (x2 : Int32) (x3 : Int32) (M : sl_M) : Option Int32 := (f5_eye x1 M).bind fun r1 => (f5_cellAt x1 M).bind fun r2 => (f5_cellAt x1 M).bind fun r3 => (f5_top x2 M).bind fun r4 => (f5_top x3 M).bind fun r5 => (if ((r4 - r1) * (f5_size (x3 - r2))) < ((r5 - r1) * (f5_size (x2 - r3))) then some (0 : Int32) else some (1 : Int32))
theorem cc5_isHiding {D : va_G} {cA : ClassId} {g : Nat → Nat} {A : Nat → Prop} {z : sl_K} {l : Launch} {x1 : Int32} {x2 : Int32} {x3 : Int32} {M : sl_M} {r : Int32} (h : f5_isHiding x1 x2 x3 M = some r) : sl_N sl_cl LR D cA g A z l yX5_isHiding cX5_isHiding 7 (some .boolean) 3 64 [.ref (g 0), .int x1, .int x2, .int x3] M (some (.int r)) M := by
  refine sl_N.of (by decide) (Nat.le_of_ble_eq_true rfl) rfl ?_
  intro p e s m args below meth c C
  replace C : sl_C RX5 cX5_isHiding 7 (some .boolean) sl_cl LR D cA g A z p s m meth c := C
  have hR : 3 ≤ (({ frames := 3, cells := 0, slots := 0, locals := 64 } : Room)).frames ∧ 64 ≤ (({ frames := 3, cells := 0, slots := 0, locals := 64 } : Room)).locals := ⟨Nat.le_refl _, Nat.le_refl _⟩
  rw [f5_isHiding] at h
  refine sa_aload_n C dX5_isHiding_0 rfl 0 rfl ?_
  refine sa_iload_n C dX5_isHiding_1 rfl 1 rfl ?_
  obtain ⟨r1, er1, h⟩ := sl_b h
  refine sa_invVi C yy_X5_eye ⟨q_976, q_63⟩ q_974 dX5_isHiding_2 (As := [.int x1]) (rest := []) rfl ⟨Nat.le_trans (Nat.le_of_ble_eq_true rfl) hR.1, Nat.le_trans (Nat.le_of_ble_eq_true rfl) hR.2⟩ (Nat.le_of_ble_eq_true rfl) hh_X5 lr_0 (cc5_eye er1) rfl ?_
  refine sa_istore C dX5_isHiding_5 (by decide) (lv2 := [(4, .int r1), (0, .ref (g 0)), (1, .int x1), (2, .int x2), (3, .int x3)]) rfl ?_
  refine sa_iload_n C dX5_isHiding_7 rfl 4 rfl ?_
  refine sa_aload_n C dX5_isHiding_8 rfl 1 rfl ?_
  refine sa_iload_n C dX5_isHiding_9 rfl 2 rfl ?_
  obtain ⟨r2, er2, h⟩ := sl_b h
  refine sa_invVi C yy_X5_cellAt ⟨q_980, q_64⟩ q_978 dX5_isHiding_10 (As := [.int x1]) (rest := [.int x3]) rfl ⟨Nat.le_trans (Nat.le_of_ble_eq_true rfl) hR.1, Nat.le_trans (Nat.le_of_ble_eq_true rfl) hR.2⟩ (Nat.le_of_ble_eq_true rfl) hh_X5 lr_0 (cc5_cellAt er2) rfl ?_
  refine sa_isub C dX5_isHiding_13 ?_
  refine sa_invSi C yy_X5_size q_1027 q_1026 dX5_isHiding_14 (As := [.int (x3 - r2)]) (rest := []) rfl ⟨Nat.le_trans (Nat.le_of_ble_eq_true rfl) hR.1, Nat.le_trans (Nat.le_of_ble_eq_true rfl) hR.2⟩ (Nat.le_of_ble_eq_true rfl) (cc5_size rfl) rfl ?_
  refine sa_istore C dX5_isHiding_17 (by decide) (lv2 := [(5, .int (f5_size (x3 - r2))), (4, .int r1), (0, .ref (g 0)), (1, .int x1), (2, .int x2), (3, .int x3)]) rfl ?_
  refine sa_iload_n C dX5_isHiding_19 rfl 4 rfl ?_
  refine sa_aload_n C dX5_isHiding_20 rfl 2 rfl ?_
  refine sa_iload_n C dX5_isHiding_21 rfl 3 rfl ?_
  obtain ⟨r3, er3, h⟩ := sl_b h
  refine sa_invVi C yy_X5_cellAt ⟨q_980, q_64⟩ q_978 dX5_isHiding_22 (As := [.int x1]) (rest := [.int x2]) rfl ⟨Nat.le_trans (Nat.le_of_ble_eq_true rfl) hR.1, Nat.le_trans (Nat.le_of_ble_eq_true rfl) hR.2⟩ (Nat.le_of_ble_eq_true rfl) hh_X5 lr_0 (cc5_cellAt er3) rfl ?_
  refine sa_isub C dX5_isHiding_25 ?_
  refine sa_invSi C yy_X5_size q_1027 q_1026 dX5_isHiding_26 (As := [.int (x2 - r3)]) (rest := []) rfl ⟨Nat.le_trans (Nat.le_of_ble_eq_true rfl) hR.1, Nat.le_trans (Nat.le_of_ble_eq_true rfl) hR.2⟩ (Nat.le_of_ble_eq_true rfl) (cc5_size rfl) rfl ?_
  refine sa_istore C dX5_isHiding_29 (by decide) (lv2 := [(6, .int (f5_size (x2 - r3))), (5, .int (f5_size (x3 - r2))), (4, .int r1), (0, .ref (g 0)), (1, .int x1), (2, .int x2), (3, .int x3)]) rfl ?_
  refine sa_aload_n C dX5_isHiding_31 rfl 3 rfl ?_
  refine sa_iload_n C dX5_isHiding_32 rfl 5 rfl ?_
  obtain ⟨r4, er4, h⟩ := sl_b h
  refine sa_invVi C yy_X5_top ⟨q_938, q_57⟩ q_936 dX5_isHiding_33 (As := [.int x2]) (rest := []) rfl ⟨Nat.le_trans (Nat.le_of_ble_eq_true rfl) hR.1, Nat.le_trans (Nat.le_of_ble_eq_true rfl) hR.2⟩ (Nat.le_of_ble_eq_true rfl) hh_X5 lr_0 (cc5_top er4) rfl ?_
  refine sa_iload C dX5_isHiding_36 2 rfl ?_
  refine sa_isub C dX5_isHiding_38 ?_
  refine sa_iload C dX5_isHiding_39 1 rfl ?_
  refine sa_imul C dX5_isHiding_41 ?_
  refine sa_aload_n C dX5_isHiding_42 rfl 3 rfl ?_
  refine sa_iload_n C dX5_isHiding_43 rfl 6 rfl ?_
  obtain ⟨r5, er5, h⟩ := sl_b h
  refine sa_invVi C yy_X5_top ⟨q_938, q_57⟩ q_936 dX5_isHiding_44 (As := [.int x3]) (rest := [.int ((r4 - r1) * (f5_size (x3 - r2)))]) rfl ⟨Nat.le_trans (Nat.le_of_ble_eq_true rfl) hR.1, Nat.le_trans (Nat.le_of_ble_eq_true rfl) hR.2⟩ (Nat.le_of_ble_eq_true rfl) hh_X5 lr_0 (cc5_top er5) rfl ?_
  refine sa_iload C dX5_isHiding_47 2 rfl ?_
  refine sa_isub C dX5_isHiding_49 ?_
  refine sa_iload C dX5_isHiding_50 0 rfl ?_
  refine sa_imul C dX5_isHiding_52 ?_
  refine sa_icmp_lt C dX5_isHiding_53 (tgt := 60) (by decide) (fun c6 => ?_) (fun c6 => ?_)
  · replace h := sl_t c6 h
    refine sa_iconst C dX5_isHiding_60 ic_0 ?_
    exact sa_zret C dX5_isHiding_61 (Or.inl rfl) (Option.some.inj h) rfl
  · replace h := sl_n c6 h
    refine sa_iconst C dX5_isHiding_56 ic_1 ?_
    refine sa_goto C dX5_isHiding_57 (tgt := 61) (by decide) ?_
    exact sa_zret C dX5_isHiding_61 (Or.inr rfl) (Option.some.inj h) rfl
/-! X5 isTowards -/
def f5_isTowards_39 (t0 : Int32) (t1 : Int32) (M : sl_M) : Option Int32 := (if (f5_has t1 t0) = 0 then some (0 : Int32) else some (1 : Int32))
def f5_isTowards (x1 : Int32) (x2 : Int32) (M : sl_M) : Option Int32 := (f5_cellAt x1 M).bind fun r1 => (if (x2 - r1) = 0 then some (0 : Int32) else (sl_ld (M 1) 111 (2 : Int32)).bind fun v3 => (if v3 < (f5_size (x2 - r1)) then some (0 : Int32) else (f5_openOf x1 M).bind fun r5 => (if 0 ≤ (x2 - r1) then f5_isTowards_39 (1 : Int32) r5 M else f5_isTowards_39 (0 : Int32) r5 M)))
theorem w5_isTowards_39 {D : va_G} {cA : ClassId} {g : Nat → Nat} {A : Nat → Prop} {z : sl_K} {l : Launch} {p : Program} {e : Env} {R : Room} {s : State} {m : MethodId} {args : Array Value} {below : List Frame} {meth : Method} {c : Code} (C : sl_C RX5 cX5_isTowards 4 (some .boolean) sl_cl LR D cA g A z p s m meth c) (hR : 1 ≤ R.frames ∧ 21 ≤ R.locals) {M : sl_M} {r : Int32} {t0 : Int32} {t1 : Int32} (h : f5_isTowards_39 t0 t1 M = some r) : sl_A sl_cl LR D cA g A p l e R s m args below meth c (MQ below (sl_Q sl_cl LR D cA g A (some (.int r)) M) args s 0 0 A) 4 39 [] [.int t0, .int t1] M := by
  rw [f5_isTowards_39] at h
  refine sa_invSi C yy_X5_has q_1030 q_1029 dX5_isTowards_39 (As := [.int t1, .int t0]) (rest := []) rfl ⟨Nat.le_trans (Nat.le_of_ble_eq_true rfl) hR.1, Nat.le_trans (Nat.le_of_ble_eq_true rfl) hR.2⟩ (Nat.le_of_ble_eq_true rfl) (cc5_has rfl) rfl ?_
  refine sa_if_eq C dX5_isTowards_42 (tgt := 49) (by decide) (fun c1 => ?_) (fun c1 => ?_)
  · replace h := sl_t c1 h
    refine sa_iconst C dX5_isTowards_49 ic_0 ?_
    exact sa_zret C dX5_isTowards_50 (Or.inl rfl) (Option.some.inj h) rfl
  · replace h := sl_n c1 h
    refine sa_iconst C dX5_isTowards_45 ic_1 ?_
    refine sa_goto C dX5_isTowards_46 (tgt := 50) (by decide) ?_
    exact sa_zret C dX5_isTowards_50 (Or.inr rfl) (Option.some.inj h) rfl
theorem cc5_isTowards {D : va_G} {cA : ClassId} {g : Nat → Nat} {A : Nat → Prop} {z : sl_K} {l : Launch} {x1 : Int32} {x2 : Int32} {M : sl_M} {r : Int32} (h : f5_isTowards x1 x2 M = some r) : sl_N sl_cl LR D cA g A z l yX5_isTowards cX5_isTowards 4 (some .boolean) 1 21 [.ref (g 0), .int x1, .int x2] M (some (.int r)) M := by
  refine sl_N.of (by decide) (Nat.le_of_ble_eq_true rfl) rfl ?_
  intro p e s m args below meth c C
  replace C : sl_C RX5 cX5_isTowards 4 (some .boolean) sl_cl LR D cA g A z p s m meth c := C
  have hR : 1 ≤ (({ frames := 1, cells := 0, slots := 0, locals := 21 } : Room)).frames ∧ 21 ≤ (({ frames := 1, cells := 0, slots := 0, locals := 21 } : Room)).locals := ⟨Nat.le_refl _, Nat.le_refl _⟩
  rw [f5_isTowards] at h
  refine sa_iload_n C dX5_isTowards_0 rfl 2 rfl ?_
  refine sa_aload_n C dX5_isTowards_1 rfl 0 rfl ?_
  refine sa_iload_n C dX5_isTowards_2 rfl 1 rfl ?_
  obtain ⟨r1, er1, h⟩ := sl_b h
  refine sa_invVi C yy_X5_cellAt ⟨q_980, q_64⟩ q_978 dX5_isTowards_3 (As := [.int x1]) (rest := [.int x2]) rfl ⟨Nat.le_trans (Nat.le_of_ble_eq_true rfl) hR.1, Nat.le_trans (Nat.le_of_ble_eq_true rfl) hR.2⟩ (Nat.le_of_ble_eq_true rfl) hh_X5 lr_0 (cc5_cellAt er1) rfl ?_
  refine sa_isub C dX5_isTowards_6 ?_
  refine sa_istore_n C dX5_isTowards_7 rfl (by decide) (lv2 := [(3, .int (x2 - r1)), (0, .ref (g 0)), (1, .int x1), (2, .int x2)]) rfl ?_
  refine sa_iload_n C dX5_isTowards_8 rfl 0 rfl ?_
  refine sa_if_eq C dX5_isTowards_9 (tgt := 49) (by decide) (fun c2 => ?_) (fun c2 => ?_)
  · replace h := sl_t c2 h
    refine sa_iconst C dX5_isTowards_49 ic_0 ?_
    exact sa_zret C dX5_isTowards_50 (Or.inl rfl) (Option.some.inj h) rfl
  · replace h := sl_n c2 h
    refine sa_iload_n C dX5_isTowards_12 rfl 0 rfl ?_
    refine sa_invSi C yy_X5_size q_1027 q_1026 dX5_isTowards_13 (As := [.int (x2 - r1)]) (rest := []) rfl ⟨Nat.le_trans (Nat.le_of_ble_eq_true rfl) hR.1, Nat.le_trans (Nat.le_of_ble_eq_true rfl) hR.2⟩ (Nat.le_of_ble_eq_true rfl) (cc5_size rfl) rfl ?_
    refine sa_aload_n C dX5_isTowards_16 rfl 1 rfl ?_
    refine sa_getR C hh_X5 (k := 0) dX5_isTowards_17 q_837 (by decide) lr_0 rfl ?_
    refine sa_iconst C dX5_isTowards_20 ic_2 ?_
    obtain ⟨v3, ev3, h⟩ := sl_b h
    refine sa_iald C dX5_isTowards_21 lr_1 ev3 ?_
    refine sa_icmp_gt C dX5_isTowards_22 (tgt := 49) (by decide) (fun c4 => ?_) (fun c4 => ?_)
    · replace h := sl_t c4 h
      refine sa_iconst C dX5_isTowards_49 ic_0 ?_
      exact sa_zret C dX5_isTowards_50 (Or.inl rfl) (Option.some.inj h) rfl
    · replace h := sl_n c4 h
      refine sa_aload_n C dX5_isTowards_25 rfl 1 rfl ?_
      refine sa_iload_n C dX5_isTowards_26 rfl 2 rfl ?_
      obtain ⟨r5, er5, h⟩ := sl_b h
      refine sa_invVi C yy_X5_openOf ⟨q_984, q_65⟩ q_982 dX5_isTowards_27 (As := [.int x1]) (rest := []) rfl ⟨Nat.le_trans (Nat.le_of_ble_eq_true rfl) hR.1, Nat.le_trans (Nat.le_of_ble_eq_true rfl) hR.2⟩ (Nat.le_of_ble_eq_true rfl) hh_X5 lr_0 (cc5_openOf er5) rfl ?_
      refine sa_iload_n C dX5_isTowards_30 rfl 0 rfl ?_
      refine sa_if_ge C dX5_isTowards_31 (tgt := 38) (by decide) (fun c6 => ?_) (fun c6 => ?_)
      · replace h := sl_t c6 h
        refine sa_iconst C dX5_isTowards_38 ic_1 ?_
        exact sa_sub [] rfl (w5_isTowards_39 C hR h)
      · replace h := sl_n c6 h
        refine sa_iconst C dX5_isTowards_34 ic_0 ?_
        refine sa_goto C dX5_isTowards_35 (tgt := 39) (by decide) ?_
        exact sa_sub [] rfl (w5_isTowards_39 C hR h)
/-! X5 hider -/
def f5_hider_50 (x2 : Int32) (x4 : Int32) (M : sl_M) : Option Int32 := (if x4 = x2 then some (-1 : Int32) else some x4)
def f5_hider_24 (M : sl_M) (x1 : Int32) (x2 : Int32) (x3 : Int32) : Nat → Int32 → Option Int32
  | 0, _ => none
  | n + 1, x4 => (if x4 = x2 then f5_hider_50 x2 x4 M else (f5_isHiding x1 x4 x2 M).bind fun r2 => (if r2 = 0 then f5_hider_24 M x1 x2 x3 n (x4 + x3) else f5_hider_50 x2 x4 M))
def f5_hider_14 (x1 : Int32) (x2 : Int32) (t0 : Int32) (M : sl_M) : Option Int32 := (f5_cellAt x1 M).bind fun r1 => f5_hider_24 M x1 x2 t0 400 (r1 + t0)
def f5_hider (x1 : Int32) (x2 : Int32) (M : sl_M) : Option Int32 := (f5_cellAt x1 M).bind fun r1 => (if x2 ≤ r1 then f5_hider_14 x1 x2 (-1 : Int32) M else f5_hider_14 x1 x2 (1 : Int32) M)
theorem w5_hider_50 {D : va_G} {cA : ClassId} {g : Nat → Nat} {A : Nat → Prop} {z : sl_K} {l : Launch} {p : Program} {e : Env} {R : Room} {s : State} {m : MethodId} {args : Array Value} {below : List Frame} {meth : Method} {c : Code} (C : sl_C RX5 cX5_hider 5 (some .int) sl_cl LR D cA g A z p s m meth c) (hR : 4 ≤ R.frames ∧ 90 ≤ R.locals) {M : sl_M} {r : Int32} {x2 : Int32} {x4 : Int32} (h : f5_hider_50 x2 x4 M = some r) : sl_A sl_cl LR D cA g A p l e R s m args below meth c (MQ below (sl_Q sl_cl LR D cA g A (some (.int r)) M) args s 0 0 A) 5 50 [(2, .int x2), (4, .int x4)] [] M := by
  rw [f5_hider_50] at h
  refine sa_iload C dX5_hider_50 1 rfl ?_
  refine sa_iload_n C dX5_hider_52 rfl 0 rfl ?_
  refine sa_icmp_ne C dX5_hider_53 (tgt := 60) (by decide) (fun c1 => ?_) (fun c1 => ?_)
  · replace h := sl_n c1 h
    refine sa_iload C dX5_hider_60 1 rfl ?_
    exact sa_iret C dX5_hider_62 (Option.some.inj h) rfl
  · replace h := sl_t c1 h
    refine sa_iconst C dX5_hider_56 ic_m1 ?_
    refine sa_goto C dX5_hider_57 (tgt := 62) (by decide) ?_
    exact sa_iret C dX5_hider_62 (Option.some.inj h) rfl
theorem w5_hider_24 {D : va_G} {cA : ClassId} {g : Nat → Nat} {A : Nat → Prop} {z : sl_K} {l : Launch} {p : Program} {e : Env} {R : Room} {s : State} {m : MethodId} {args : Array Value} {below : List Frame} {meth : Method} {c : Code} (C : sl_C RX5 cX5_hider 5 (some .int) sl_cl LR D cA g A z p s m meth c) (hR : 4 ≤ R.frames ∧ 90 ≤ R.locals) {M : sl_M} {r : Int32} {x1 : Int32} {x2 : Int32} {x3 : Int32} : ∀ (n : Nat) {x4 : Int32}, f5_hider_24 M x1 x2 x3 n x4 = some r → sl_A sl_cl LR D cA g A p l e R s m args below meth c (MQ below (sl_Q sl_cl LR D cA g A (some (.int r)) M) args s 0 0 A) 5 24 [(0, .ref (g 0)), (1, .int x1), (2, .int x2), (3, .int x3), (4, .int x4)] [] M := by
  intro n
  induction n with
  | zero =>
    intro x4 h
    exact absurd h.symm (Option.some_ne_none _)
  | succ n ih =>
    intro x4 h
    rw [f5_hider_24] at h
    refine sa_iload C dX5_hider_24 4 rfl ?_
    refine sa_iload_n C dX5_hider_26 rfl 2 rfl ?_
    refine sa_icmp_eq C dX5_hider_27 (tgt := 50) (by decide) (fun c1 => ?_) (fun c1 => ?_)
    · replace h := sl_t c1 h
      exact sa_sub [2, 4] rfl (w5_hider_50 C hR h)
    · replace h := sl_n c1 h
      refine sa_aload_n C dX5_hider_30 rfl 0 rfl ?_
      refine sa_iload_n C dX5_hider_31 rfl 1 rfl ?_
      refine sa_iload C dX5_hider_32 4 rfl ?_
      refine sa_iload_n C dX5_hider_34 rfl 2 rfl ?_
      obtain ⟨r2, er2, h⟩ := sl_b h
      refine sa_invVi C yy_X5_isHiding ⟨q_1038, q_70⟩ q_1036 dX5_hider_35 (As := [.int x1, .int x4, .int x2]) (rest := []) rfl ⟨Nat.le_trans (Nat.le_of_ble_eq_true rfl) hR.1, Nat.le_trans (Nat.le_of_ble_eq_true rfl) hR.2⟩ (Nat.le_of_ble_eq_true rfl) hh_X5 lr_0 (cc5_isHiding er2) rfl ?_
      refine sa_if_ne C dX5_hider_38 (tgt := 50) (by decide) (fun c3 => ?_) (fun c3 => ?_)
      · replace h := sl_n c3 h
        exact sa_sub [2, 4] rfl (w5_hider_50 C hR h)
      · replace h := sl_t c3 h
        refine sa_iload C dX5_hider_41 4 rfl ?_
        refine sa_iload_n C dX5_hider_43 rfl 3 rfl ?_
        refine sa_iadd C dX5_hider_44 ?_
        refine sa_istore C dX5_hider_45 (by decide) (lv2 := [(4, .int (x4 + x3)), (0, .ref (g 0)), (1, .int x1), (2, .int x2), (3, .int x3)]) rfl ?_
        refine sa_goto C dX5_hider_47 (tgt := 24) (by decide) ?_
        exact sa_sub [1, 2, 3, 4, 0] rfl (ih h)
theorem w5_hider_14 {D : va_G} {cA : ClassId} {g : Nat → Nat} {A : Nat → Prop} {z : sl_K} {l : Launch} {p : Program} {e : Env} {R : Room} {s : State} {m : MethodId} {args : Array Value} {below : List Frame} {meth : Method} {c : Code} (C : sl_C RX5 cX5_hider 5 (some .int) sl_cl LR D cA g A z p s m meth c) (hR : 4 ≤ R.frames ∧ 90 ≤ R.locals) {M : sl_M} {r : Int32} {x1 : Int32} {x2 : Int32} {t0 : Int32} (h : f5_hider_14 x1 x2 t0 M = some r) : sl_A sl_cl LR D cA g A p l e R s m args below meth c (MQ below (sl_Q sl_cl LR D cA g A (some (.int r)) M) args s 0 0 A) 5 14 [(0, .ref (g 0)), (1, .int x1), (2, .int x2)] [.int t0] M := by
  rw [f5_hider_14] at h
  refine sa_istore_n C dX5_hider_14 rfl (by decide) (lv2 := [(3, .int t0), (0, .ref (g 0)), (1, .int x1), (2, .int x2)]) rfl ?_
  refine sa_aload_n C dX5_hider_15 rfl 1 rfl ?_
  refine sa_iload_n C dX5_hider_16 rfl 2 rfl ?_
  obtain ⟨r1, er1, h⟩ := sl_b h
  refine sa_invVi C yy_X5_cellAt ⟨q_980, q_64⟩ q_978 dX5_hider_17 (As := [.int x1]) (rest := []) rfl ⟨Nat.le_trans (Nat.le_of_ble_eq_true rfl) hR.1, Nat.le_trans (Nat.le_of_ble_eq_true rfl) hR.2⟩ (Nat.le_of_ble_eq_true rfl) hh_X5 lr_0 (cc5_cellAt er1) rfl ?_
  refine sa_iload_n C dX5_hider_20 rfl 0 rfl ?_
  refine sa_iadd C dX5_hider_21 ?_
  refine sa_istore C dX5_hider_22 (by decide) (lv2 := [(4, .int (r1 + t0)), (3, .int t0), (0, .ref (g 0)), (1, .int x1), (2, .int x2)]) rfl ?_
  exact sa_sub [2, 3, 4, 1, 0] rfl (w5_hider_24 C hR 400 h)
theorem cc5_hider {D : va_G} {cA : ClassId} {g : Nat → Nat} {A : Nat → Prop} {z : sl_K} {l : Launch} {x1 : Int32} {x2 : Int32} {M : sl_M} {r : Int32} (h : f5_hider x1 x2 M = some r) : sl_N sl_cl LR D cA g A z l yX5_hider cX5_hider 5 (some .int) 4 90 [.ref (g 0), .int x1, .int x2] M (some (.int r)) M := by
  refine sl_N.of (by decide) (Nat.le_of_ble_eq_true rfl) rfl ?_
  intro p e s m args below meth c C
  replace C : sl_C RX5 cX5_hider 5 (some .int) sl_cl LR D cA g A z p s m meth c := C
  have hR : 4 ≤ (({ frames := 4, cells := 0, slots := 0, locals := 90 } : Room)).frames ∧ 90 ≤ (({ frames := 4, cells := 0, slots := 0, locals := 90 } : Room)).locals := ⟨Nat.le_refl _, Nat.le_refl _⟩
  rw [f5_hider] at h
  refine sa_iload_n C dX5_hider_0 rfl 2 rfl ?_
  refine sa_aload_n C dX5_hider_1 rfl 0 rfl ?_
  refine sa_iload_n C dX5_hider_2 rfl 1 rfl ?_
  obtain ⟨r1, er1, h⟩ := sl_b h
  refine sa_invVi C yy_X5_cellAt ⟨q_980, q_64⟩ q_978 dX5_hider_3 (As := [.int x1]) (rest := [.int x2]) rfl ⟨Nat.le_trans (Nat.le_of_ble_eq_true rfl) hR.1, Nat.le_trans (Nat.le_of_ble_eq_true rfl) hR.2⟩ (Nat.le_of_ble_eq_true rfl) hh_X5 lr_0 (cc5_cellAt er1) rfl ?_
  refine sa_icmp_le C dX5_hider_6 (tgt := 13) (by decide) (fun c2 => ?_) (fun c2 => ?_)
  · replace h := sl_t c2 h
    refine sa_iconst C dX5_hider_13 ic_m1 ?_
    exact sa_sub [0, 1, 2] rfl (w5_hider_14 C hR h)
  · replace h := sl_n c2 h
    refine sa_iconst C dX5_hider_9 ic_1 ?_
    refine sa_goto C dX5_hider_10 (tgt := 14) (by decide) ?_
    exact sa_sub [0, 1, 2] rfl (w5_hider_14 C hR h)
/-! X5 sightOf -/
def f5_sightOf_41 (k10 : Int32 → Int32 → Option Int32) (x1 : Int32) (x3 : Int32) (t0 : Int32) (M : sl_M) : Option Int32 := k10 (t0 ||| (0 : Int32)) (x3 + (1 : Int32))
def f5_sightOf_10 (M : sl_M) (x1 : Int32) : Nat → Int32 → Int32 → Option Int32
  | 0, _, _ => none
  | n + 1, x2, x3 => (if (24 : Int32) ≤ x3 then some x2 else (f5_isTowards x1 x3 M).bind fun r2 => (if r2 = 0 then f5_sightOf_41 (f5_sightOf_10 M x1 n) x1 x3 x2 M else (f5_hider x1 x3 M).bind fun r4 => (if 0 ≤ r4 then f5_sightOf_41 (f5_sightOf_10 M x1 n) x1 x3 x2 M else f5_sightOf_10 M x1 n (x2 ||| ((1 : Int32) <<< (x3 &&& 31))) (x3 + (1 : Int32)))))
def f5_sightOf (x1 : Int32) (M : sl_M) : Option Int32 := (f5_cellAt x1 M).bind fun r1 => f5_sightOf_10 M x1 400 ((1 : Int32) <<< (r1 &&& 31)) (0 : Int32)
theorem w5_sightOf_41 {D : va_G} {cA : ClassId} {g : Nat → Nat} {A : Nat → Prop} {z : sl_K} {l : Launch} {p : Program} {e : Env} {R : Room} {s : State} {m : MethodId} {args : Array Value} {below : List Frame} {meth : Method} {c : Code} (C : sl_C RX5 cX5_sightOf 4 (some .int) sl_cl LR D cA g A z p s m meth c) (hR : 5 ≤ R.frames ∧ 114 ≤ R.locals) {M : sl_M} {r : Int32} {x1 : Int32} {x3 : Int32} {t0 : Int32} {k10 : Int32 → Int32 → Option Int32} (hk10 : ∀ {x2 : Int32} {x3 : Int32}, k10 x2 x3 = some r → sl_A sl_cl LR D cA g A p l e R s m args below meth c (MQ below (sl_Q sl_cl LR D cA g A (some (.int r)) M) args s 0 0 A) 4 10 [(0, .ref (g 0)), (1, .int x1), (2, .int x2), (3, .int x3)] [] M) (h : f5_sightOf_41 k10 x1 x3 t0 M = some r) : sl_A sl_cl LR D cA g A p l e R s m args below meth c (MQ below (sl_Q sl_cl LR D cA g A (some (.int r)) M) args s 0 0 A) 4 41 [(0, .ref (g 0)), (1, .int x1), (3, .int x3)] [.int t0] M := by
  rw [f5_sightOf_41] at h
  refine sa_iconst C dX5_sightOf_41 ic_0 ?_
  refine sa_ior C dX5_sightOf_42 ?_
  refine sa_istore_n C dX5_sightOf_43 rfl (by decide) (lv2 := [(2, .int (t0 ||| (0 : Int32))), (0, .ref (g 0)), (1, .int x1), (3, .int x3)]) rfl ?_
  refine sa_iinc C dX5_sightOf_44 3 rfl (v := (x3 + (1 : Int32))) (by rw [ic_1]) (by decide) (lv2 := [(3, .int (x3 + (1 : Int32))), (2, .int (t0 ||| (0 : Int32))), (0, .ref (g 0)), (1, .int x1)]) rfl ?_
  refine sa_goto C dX5_sightOf_47 (tgt := 10) (by decide) ?_
  exact sa_sub [2, 3, 1, 0] rfl (hk10 h)
theorem w5_sightOf_10 {D : va_G} {cA : ClassId} {g : Nat → Nat} {A : Nat → Prop} {z : sl_K} {l : Launch} {p : Program} {e : Env} {R : Room} {s : State} {m : MethodId} {args : Array Value} {below : List Frame} {meth : Method} {c : Code} (C : sl_C RX5 cX5_sightOf 4 (some .int) sl_cl LR D cA g A z p s m meth c) (hR : 5 ≤ R.frames ∧ 114 ≤ R.locals) {M : sl_M} {r : Int32} {x1 : Int32} : ∀ (n : Nat) {x2 : Int32} {x3 : Int32}, f5_sightOf_10 M x1 n x2 x3 = some r → sl_A sl_cl LR D cA g A p l e R s m args below meth c (MQ below (sl_Q sl_cl LR D cA g A (some (.int r)) M) args s 0 0 A) 4 10 [(0, .ref (g 0)), (1, .int x1), (2, .int x2), (3, .int x3)] [] M := by
  intro n
  induction n with
  | zero =>
    intro x2 x3 h
    exact absurd h.symm (Option.some_ne_none _)
  | succ n ih =>
    intro x2 x3 h
    rw [f5_sightOf_10] at h
    refine sa_iload_n C dX5_sightOf_10 rfl 3 rfl ?_
    refine sa_bipush C dX5_sightOf_11 bp_24 ?_
    refine sa_icmp_ge C dX5_sightOf_13 (tgt := 50) (by decide) (fun c1 => ?_) (fun c1 => ?_)
    · replace h := sl_t c1 h
      refine sa_iload_n C dX5_sightOf_50 rfl 2 rfl ?_
      exact sa_iret C dX5_sightOf_51 (Option.some.inj h) rfl
    · replace h := sl_n c1 h
      refine sa_iload_n C dX5_sightOf_16 rfl 2 rfl ?_
      refine sa_aload_n C dX5_sightOf_17 rfl 0 rfl ?_
      refine sa_iload_n C dX5_sightOf_18 rfl 1 rfl ?_
      refine sa_iload_n C dX5_sightOf_19 rfl 3 rfl ?_
      obtain ⟨r2, er2, h⟩ := sl_b h
      refine sa_invVi C yy_X5_isTowards ⟨q_1024, q_68⟩ q_1022 dX5_sightOf_20 (As := [.int x1, .int x3]) (rest := [.int x2]) rfl ⟨Nat.le_trans (Nat.le_of_ble_eq_true rfl) hR.1, Nat.le_trans (Nat.le_of_ble_eq_true rfl) hR.2⟩ (Nat.le_of_ble_eq_true rfl) hh_X5 lr_0 (cc5_isTowards er2) rfl ?_
      refine sa_if_eq C dX5_sightOf_23 (tgt := 41) (by decide) (fun c3 => ?_) (fun c3 => ?_)
      · replace h := sl_t c3 h
        exact sa_sub [0, 1, 3] rfl (w5_sightOf_41 C hR (fun h => ih h) h)
      · replace h := sl_n c3 h
        refine sa_aload_n C dX5_sightOf_26 rfl 0 rfl ?_
        refine sa_iload_n C dX5_sightOf_27 rfl 1 rfl ?_
        refine sa_iload_n C dX5_sightOf_28 rfl 3 rfl ?_
        obtain ⟨r4, er4, h⟩ := sl_b h
        refine sa_invVi C yy_X5_hider ⟨q_1034, q_69⟩ q_1032 dX5_sightOf_29 (As := [.int x1, .int x3]) (rest := [.int x2]) rfl ⟨Nat.le_trans (Nat.le_of_ble_eq_true rfl) hR.1, Nat.le_trans (Nat.le_of_ble_eq_true rfl) hR.2⟩ (Nat.le_of_ble_eq_true rfl) hh_X5 lr_0 (cc5_hider er4) rfl ?_
        refine sa_if_ge C dX5_sightOf_32 (tgt := 41) (by decide) (fun c5 => ?_) (fun c5 => ?_)
        · replace h := sl_t c5 h
          exact sa_sub [0, 1, 3] rfl (w5_sightOf_41 C hR (fun h => ih h) h)
        · replace h := sl_n c5 h
          refine sa_iconst C dX5_sightOf_35 ic_1 ?_
          refine sa_iload_n C dX5_sightOf_36 rfl 3 rfl ?_
          refine sa_ishl C dX5_sightOf_37 ?_
          refine sa_goto C dX5_sightOf_38 (tgt := 42) (by decide) ?_
          refine sa_ior C dX5_sightOf_42 ?_
          refine sa_istore_n C dX5_sightOf_43 rfl (by decide) (lv2 := [(2, .int (x2 ||| ((1 : Int32) <<< (x3 &&& 31)))), (0, .ref (g 0)), (1, .int x1), (3, .int x3)]) rfl ?_
          refine sa_iinc C dX5_sightOf_44 3 rfl (v := (x3 + (1 : Int32))) (by rw [ic_1]) (by decide) (lv2 := [(3, .int (x3 + (1 : Int32))), (2, .int (x2 ||| ((1 : Int32) <<< (x3 &&& 31)))), (0, .ref (g 0)), (1, .int x1)]) rfl ?_
          refine sa_goto C dX5_sightOf_47 (tgt := 10) (by decide) ?_
          exact sa_sub [2, 3, 1, 0] rfl (ih h)
theorem cc5_sightOf {D : va_G} {cA : ClassId} {g : Nat → Nat} {A : Nat → Prop} {z : sl_K} {l : Launch} {x1 : Int32} {M : sl_M} {r : Int32} (h : f5_sightOf x1 M = some r) : sl_N sl_cl LR D cA g A z l yX5_sightOf cX5_sightOf 4 (some .int) 5 114 [.ref (g 0), .int x1] M (some (.int r)) M := by
  refine sl_N.of (by decide) (Nat.le_of_ble_eq_true rfl) rfl ?_
  intro p e s m args below meth c C
  replace C : sl_C RX5 cX5_sightOf 4 (some .int) sl_cl LR D cA g A z p s m meth c := C
  have hR : 5 ≤ (({ frames := 5, cells := 0, slots := 0, locals := 114 } : Room)).frames ∧ 114 ≤ (({ frames := 5, cells := 0, slots := 0, locals := 114 } : Room)).locals := ⟨Nat.le_refl _, Nat.le_refl _⟩
  rw [f5_sightOf] at h
  refine sa_iconst C dX5_sightOf_0 ic_1 ?_
  refine sa_aload_n C dX5_sightOf_1 rfl 0 rfl ?_
  refine sa_iload_n C dX5_sightOf_2 rfl 1 rfl ?_
  obtain ⟨r1, er1, h⟩ := sl_b h
  refine sa_invVi C yy_X5_cellAt ⟨q_980, q_64⟩ q_978 dX5_sightOf_3 (As := [.int x1]) (rest := [.int (1 : Int32)]) rfl ⟨Nat.le_trans (Nat.le_of_ble_eq_true rfl) hR.1, Nat.le_trans (Nat.le_of_ble_eq_true rfl) hR.2⟩ (Nat.le_of_ble_eq_true rfl) hh_X5 lr_0 (cc5_cellAt er1) rfl ?_
  refine sa_ishl C dX5_sightOf_6 ?_
  refine sa_istore_n C dX5_sightOf_7 rfl (by decide) (lv2 := [(2, .int ((1 : Int32) <<< (r1 &&& 31))), (0, .ref (g 0)), (1, .int x1)]) rfl ?_
  refine sa_iconst C dX5_sightOf_8 ic_0 ?_
  refine sa_istore_n C dX5_sightOf_9 rfl (by decide) (lv2 := [(3, .int (0 : Int32)), (2, .int ((1 : Int32) <<< (r1 &&& 31))), (0, .ref (g 0)), (1, .int x1)]) rfl ?_
  exact sa_sub [2, 3, 1, 0] rfl (w5_sightOf_10 C hR 400 h)
/-! X5 sight -/
def f5_sight (x1 : Int32) (M : sl_M) : Option (Int32 × sl_M) := (f5_isHouse x1 M).bind fun r1 => (if r1 = 0 then (f5_finds (-1000001 : Int32) M).bind fun r3 => some (r3.1, r3.2) else (f5_sightOf x1 M).bind fun r4 => some (r4, M))
theorem cc5_sight {D : va_G} {cA : ClassId} {g : Nat → Nat} {A : Nat → Prop} {z : sl_K} {l : Launch} {x1 : Int32} {M : sl_M} {r : Int32 × sl_M} (h : f5_sight x1 M = some r) : sl_N sl_cl LR D cA g A z l yX5_sight cX5_sight 2 (some .int) 6 137 [.ref (g 0), .int x1] M (some (.int r.1)) r.2 := by
  refine sl_N.of (by decide) (Nat.le_of_ble_eq_true rfl) rfl ?_
  intro p e s m args below meth c C
  replace C : sl_C RX5 cX5_sight 2 (some .int) sl_cl LR D cA g A z p s m meth c := C
  have hR : 6 ≤ (({ frames := 6, cells := 0, slots := 0, locals := 137 } : Room)).frames ∧ 137 ≤ (({ frames := 6, cells := 0, slots := 0, locals := 137 } : Room)).locals := ⟨Nat.le_refl _, Nat.le_refl _⟩
  rw [f5_sight] at h
  refine sa_aload_n C dX5_sight_0 rfl 0 rfl ?_
  refine sa_iload_n C dX5_sight_1 rfl 1 rfl ?_
  obtain ⟨r1, er1, h⟩ := sl_b h
  refine sa_invVi C yy_X5_isHouse ⟨q_971, q_62⟩ q_969 dX5_sight_2 (As := [.int x1]) (rest := []) rfl ⟨Nat.le_trans (Nat.le_of_ble_eq_true rfl) hR.1, Nat.le_trans (Nat.le_of_ble_eq_true rfl) hR.2⟩ (Nat.le_of_ble_eq_true rfl) hh_X5 lr_0 (cc5_isHouse er1) rfl ?_
  refine sa_if_eq C dX5_sight_5 (tgt := 16) (by decide) (fun c2 => ?_) (fun c2 => ?_)
  · replace h := sl_t c2 h
    refine sa_aload_n C dX5_sight_16 rfl 0 rfl ?_
    refine sa_ldc C dX5_sight_17 q_910 ?_
    obtain ⟨r3, er3, h⟩ := sl_b h
    refine sa_invVi C yy_X5_finds ⟨q_913, q_54⟩ q_911 dX5_sight_19 (As := [.int (-1000001 : Int32)]) (rest := []) rfl ⟨Nat.le_trans (Nat.le_of_ble_eq_true rfl) hR.1, Nat.le_trans (Nat.le_of_ble_eq_true rfl) hR.2⟩ (Nat.le_of_ble_eq_true rfl) hh_X5 lr_0 (cc5_finds er3) rfl ?_
    exact sa_iret C dX5_sight_22 (sl_p1 h) (sl_p2 h)
  · replace h := sl_n c2 h
    refine sa_aload_n C dX5_sight_8 rfl 0 rfl ?_
    refine sa_iload_n C dX5_sight_9 rfl 1 rfl ?_
    obtain ⟨r4, er4, h⟩ := sl_b h
    refine sa_invVi C yy_X5_sightOf ⟨q_1020, q_67⟩ q_1018 dX5_sight_10 (As := [.int x1]) (rest := []) rfl ⟨Nat.le_trans (Nat.le_of_ble_eq_true rfl) hR.1, Nat.le_trans (Nat.le_of_ble_eq_true rfl) hR.2⟩ (Nat.le_of_ble_eq_true rfl) hh_X5 lr_0 (cc5_sightOf er4) rfl ?_
    refine sa_goto C dX5_sight_13 (tgt := 22) (by decide) ?_
    exact sa_iret C dX5_sight_22 (sl_p1 h) (sl_p2 h)
/-! X5 sees -/
def f5_sees (x1 : Int32) (x2 : Int32) (M : sl_M) : Option (Int32 × sl_M) := (f5_isHouse x1 M).bind fun r1 => (if r1 = 0 then (f5_finds (-1000001 : Int32) M).bind fun r3 => some (r3.1, r3.2) else (if (f5_isCell x2) = 0 then (f5_finds (-1000001 : Int32) M).bind fun r7 => some (r7.1, r7.2) else (f5_sightOf x1 M).bind fun r5 => (if (f5_has r5 x2) = 0 then some ((0 : Int32), M) else some ((1 : Int32), M))))
theorem cc5_sees {D : va_G} {cA : ClassId} {g : Nat → Nat} {A : Nat → Prop} {z : sl_K} {l : Launch} {x1 : Int32} {x2 : Int32} {M : sl_M} {r : Int32 × sl_M} (h : f5_sees x1 x2 M = some r) : sl_N sl_cl LR D cA g A z l yX5_sees cX5_sees 3 (some .int) 6 137 [.ref (g 0), .int x1, .int x2] M (some (.int r.1)) r.2 := by
  refine sl_N.of (by decide) (Nat.le_of_ble_eq_true rfl) rfl ?_
  intro p e s m args below meth c C
  replace C : sl_C RX5 cX5_sees 3 (some .int) sl_cl LR D cA g A z p s m meth c := C
  have hR : 6 ≤ (({ frames := 6, cells := 0, slots := 0, locals := 137 } : Room)).frames ∧ 137 ≤ (({ frames := 6, cells := 0, slots := 0, locals := 137 } : Room)).locals := ⟨Nat.le_refl _, Nat.le_refl _⟩
  rw [f5_sees] at h
  refine sa_aload_n C dX5_sees_0 rfl 0 rfl ?_
  refine sa_iload_n C dX5_sees_1 rfl 1 rfl ?_
  obtain ⟨r1, er1, h⟩ := sl_b h
  refine sa_invVi C yy_X5_isHouse ⟨q_971, q_62⟩ q_969 dX5_sees_2 (As := [.int x1]) (rest := []) rfl ⟨Nat.le_trans (Nat.le_of_ble_eq_true rfl) hR.1, Nat.le_trans (Nat.le_of_ble_eq_true rfl) hR.2⟩ (Nat.le_of_ble_eq_true rfl) hh_X5 lr_0 (cc5_isHouse er1) rfl ?_
  refine sa_if_eq C dX5_sees_5 (tgt := 15) (by decide) (fun c2 => ?_) (fun c2 => ?_)
  · replace h := sl_t c2 h
    refine sa_aload_n C dX5_sees_15 rfl 0 rfl ?_
    refine sa_ldc C dX5_sees_16 q_910 ?_
    obtain ⟨r3, er3, h⟩ := sl_b h
    refine sa_invVi C yy_X5_finds ⟨q_913, q_54⟩ q_911 dX5_sees_18 (As := [.int (-1000001 : Int32)]) (rest := []) rfl ⟨Nat.le_trans (Nat.le_of_ble_eq_true rfl) hR.1, Nat.le_trans (Nat.le_of_ble_eq_true rfl) hR.2⟩ (Nat.le_of_ble_eq_true rfl) hh_X5 lr_0 (cc5_finds er3) rfl ?_
    exact sa_iret C dX5_sees_21 (sl_p1 h) (sl_p2 h)
  · replace h := sl_n c2 h
    refine sa_iload_n C dX5_sees_8 rfl 2 rfl ?_
    refine sa_invSi C yy_X5_isCell q_903 q_902 dX5_sees_9 (As := [.int x2]) (rest := []) rfl ⟨Nat.le_trans (Nat.le_of_ble_eq_true rfl) hR.1, Nat.le_trans (Nat.le_of_ble_eq_true rfl) hR.2⟩ (Nat.le_of_ble_eq_true rfl) (cc5_isCell rfl) rfl ?_
    refine sa_if_ne C dX5_sees_12 (tgt := 22) (by decide) (fun c4 => ?_) (fun c4 => ?_)
    · replace h := sl_n c4 h
      refine sa_aload_n C dX5_sees_22 rfl 0 rfl ?_
      refine sa_iload_n C dX5_sees_23 rfl 1 rfl ?_
      obtain ⟨r5, er5, h⟩ := sl_b h
      refine sa_invVi C yy_X5_sightOf ⟨q_1020, q_67⟩ q_1018 dX5_sees_24 (As := [.int x1]) (rest := []) rfl ⟨Nat.le_trans (Nat.le_of_ble_eq_true rfl) hR.1, Nat.le_trans (Nat.le_of_ble_eq_true rfl) hR.2⟩ (Nat.le_of_ble_eq_true rfl) hh_X5 lr_0 (cc5_sightOf er5) rfl ?_
      refine sa_iload_n C dX5_sees_27 rfl 2 rfl ?_
      refine sa_invSi C yy_X5_has q_1030 q_1029 dX5_sees_28 (As := [.int r5, .int x2]) (rest := []) rfl ⟨Nat.le_trans (Nat.le_of_ble_eq_true rfl) hR.1, Nat.le_trans (Nat.le_of_ble_eq_true rfl) hR.2⟩ (Nat.le_of_ble_eq_true rfl) (cc5_has rfl) rfl ?_
      refine sa_if_eq C dX5_sees_31 (tgt := 38) (by decide) (fun c6 => ?_) (fun c6 => ?_)
      · replace h := sl_t c6 h
        refine sa_iconst C dX5_sees_38 ic_0 ?_
        exact sa_iret C dX5_sees_39 (sl_p1 h) (sl_p2 h)
      · replace h := sl_n c6 h
        refine sa_iconst C dX5_sees_34 ic_1 ?_
        refine sa_goto C dX5_sees_35 (tgt := 39) (by decide) ?_
        exact sa_iret C dX5_sees_39 (sl_p1 h) (sl_p2 h)
    · replace h := sl_t c4 h
      refine sa_aload_n C dX5_sees_15 rfl 0 rfl ?_
      refine sa_ldc C dX5_sees_16 q_910 ?_
      obtain ⟨r7, er7, h⟩ := sl_b h
      refine sa_invVi C yy_X5_finds ⟨q_913, q_54⟩ q_911 dX5_sees_18 (As := [.int (-1000001 : Int32)]) (rest := []) rfl ⟨Nat.le_trans (Nat.le_of_ble_eq_true rfl) hR.1, Nat.le_trans (Nat.le_of_ble_eq_true rfl) hR.2⟩ (Nat.le_of_ble_eq_true rfl) hh_X5 lr_0 (cc5_finds er7) rfl ?_
      exact sa_iret C dX5_sees_21 (sl_p1 h) (sl_p2 h)
/-! X5 seenBy -/
def f5_seenBy_18 (x1 : Int32) : Nat → Int32 → Int32 → sl_M → Option (Int32 × sl_M)
  | 0, _, _, _ => none
  | n + 1, x2, x3, M => (sl_ld (M 1) 111 (1 : Int32)).bind fun v1 => (if v1 ≤ x3 then some (x2, M) else (f5_sightOf x3 M).bind fun r3 => (if (f5_has r3 x1) = 0 then f5_seenBy_18 x1 n (x2 ||| (0 : Int32)) (x3 + (1 : Int32)) M else f5_seenBy_18 x1 n (x2 ||| ((1 : Int32) <<< (x3 &&& 31))) (x3 + (1 : Int32)) M))
def f5_seenBy (x1 : Int32) (M : sl_M) : Option (Int32 × sl_M) := (if (f5_isCell x1) = 0 then (f5_finds (-1000001 : Int32) M).bind fun r2 => some (r2.1, r2.2) else f5_seenBy_18 x1 400 (0 : Int32) (0 : Int32) M)
theorem w5_seenBy_18 {D : va_G} {cA : ClassId} {g : Nat → Nat} {A : Nat → Prop} {z : sl_K} {l : Launch} {p : Program} {e : Env} {R : Room} {s : State} {m : MethodId} {args : Array Value} {below : List Frame} {meth : Method} {c : Code} (C : sl_C RX5 cX5_seenBy 4 (some .int) sl_cl LR D cA g A z p s m meth c) (hR : 6 ≤ R.frames ∧ 137 ≤ R.locals) {r : Int32 × sl_M} {x1 : Int32} : ∀ (n : Nat) {x2 : Int32} {x3 : Int32} {M : sl_M}, f5_seenBy_18 x1 n x2 x3 M = some r → sl_A sl_cl LR D cA g A p l e R s m args below meth c (MQ below (sl_Q sl_cl LR D cA g A (some (.int r.1)) r.2) args s 0 0 A) 4 18 [(0, .ref (g 0)), (1, .int x1), (2, .int x2), (3, .int x3)] [] M := by
  intro n
  induction n with
  | zero =>
    intro x2 x3 M h
    exact absurd h.symm (Option.some_ne_none _)
  | succ n ih =>
    intro x2 x3 M h
    rw [f5_seenBy_18] at h
    refine sa_iload_n C dX5_seenBy_18 rfl 3 rfl ?_
    refine sa_aload_n C dX5_seenBy_19 rfl 0 rfl ?_
    refine sa_getR C hh_X5 (k := 0) dX5_seenBy_20 q_837 (by decide) lr_0 rfl ?_
    refine sa_iconst C dX5_seenBy_23 ic_1 ?_
    obtain ⟨v1, ev1, h⟩ := sl_b h
    refine sa_iald C dX5_seenBy_24 lr_1 ev1 ?_
    refine sa_icmp_ge C dX5_seenBy_25 (tgt := 56) (by decide) (fun c2 => ?_) (fun c2 => ?_)
    · replace h := sl_t c2 h
      refine sa_iload_n C dX5_seenBy_56 rfl 2 rfl ?_
      exact sa_iret C dX5_seenBy_57 (sl_p1 h) (sl_p2 h)
    · replace h := sl_n c2 h
      refine sa_iload_n C dX5_seenBy_28 rfl 2 rfl ?_
      refine sa_aload_n C dX5_seenBy_29 rfl 0 rfl ?_
      refine sa_iload_n C dX5_seenBy_30 rfl 3 rfl ?_
      obtain ⟨r3, er3, h⟩ := sl_b h
      refine sa_invVi C yy_X5_sightOf ⟨q_1020, q_67⟩ q_1018 dX5_seenBy_31 (As := [.int x3]) (rest := [.int x2]) rfl ⟨Nat.le_trans (Nat.le_of_ble_eq_true rfl) hR.1, Nat.le_trans (Nat.le_of_ble_eq_true rfl) hR.2⟩ (Nat.le_of_ble_eq_true rfl) hh_X5 lr_0 (cc5_sightOf er3) rfl ?_
      refine sa_iload_n C dX5_seenBy_34 rfl 1 rfl ?_
      refine sa_invSi C yy_X5_has q_1030 q_1029 dX5_seenBy_35 (As := [.int r3, .int x1]) (rest := [.int x2]) rfl ⟨Nat.le_trans (Nat.le_of_ble_eq_true rfl) hR.1, Nat.le_trans (Nat.le_of_ble_eq_true rfl) hR.2⟩ (Nat.le_of_ble_eq_true rfl) (cc5_has rfl) rfl ?_
      refine sa_if_eq C dX5_seenBy_38 (tgt := 47) (by decide) (fun c4 => ?_) (fun c4 => ?_)
      · replace h := sl_t c4 h
        refine sa_iconst C dX5_seenBy_47 ic_0 ?_
        refine sa_ior C dX5_seenBy_48 ?_
        refine sa_istore_n C dX5_seenBy_49 rfl (by decide) (lv2 := [(2, .int (x2 ||| (0 : Int32))), (0, .ref (g 0)), (1, .int x1), (3, .int x3)]) rfl ?_
        refine sa_iinc C dX5_seenBy_50 3 rfl (v := (x3 + (1 : Int32))) (by rw [ic_1]) (by decide) (lv2 := [(3, .int (x3 + (1 : Int32))), (2, .int (x2 ||| (0 : Int32))), (0, .ref (g 0)), (1, .int x1)]) rfl ?_
        refine sa_goto C dX5_seenBy_53 (tgt := 18) (by decide) ?_
        exact sa_sub [2, 3, 1, 0] rfl (ih h)
      · replace h := sl_n c4 h
        refine sa_iconst C dX5_seenBy_41 ic_1 ?_
        refine sa_iload_n C dX5_seenBy_42 rfl 3 rfl ?_
        refine sa_ishl C dX5_seenBy_43 ?_
        refine sa_goto C dX5_seenBy_44 (tgt := 48) (by decide) ?_
        refine sa_ior C dX5_seenBy_48 ?_
        refine sa_istore_n C dX5_seenBy_49 rfl (by decide) (lv2 := [(2, .int (x2 ||| ((1 : Int32) <<< (x3 &&& 31)))), (0, .ref (g 0)), (1, .int x1), (3, .int x3)]) rfl ?_
        refine sa_iinc C dX5_seenBy_50 3 rfl (v := (x3 + (1 : Int32))) (by rw [ic_1]) (by decide) (lv2 := [(3, .int (x3 + (1 : Int32))), (2, .int (x2 ||| ((1 : Int32) <<< (x3 &&& 31)))), (0, .ref (g 0)), (1, .int x1)]) rfl ?_
        refine sa_goto C dX5_seenBy_53 (tgt := 18) (by decide) ?_
        exact sa_sub [2, 3, 1, 0] rfl (ih h)
theorem cc5_seenBy {D : va_G} {cA : ClassId} {g : Nat → Nat} {A : Nat → Prop} {z : sl_K} {l : Launch} {x1 : Int32} {M : sl_M} {r : Int32 × sl_M} (h : f5_seenBy x1 M = some r) : sl_N sl_cl LR D cA g A z l yX5_seenBy cX5_seenBy 4 (some .int) 6 137 [.ref (g 0), .int x1] M (some (.int r.1)) r.2 := by
  refine sl_N.of (by decide) (Nat.le_of_ble_eq_true rfl) rfl ?_
  intro p e s m args below meth c C
  replace C : sl_C RX5 cX5_seenBy 4 (some .int) sl_cl LR D cA g A z p s m meth c := C
  have hR : 6 ≤ (({ frames := 6, cells := 0, slots := 0, locals := 137 } : Room)).frames ∧ 137 ≤ (({ frames := 6, cells := 0, slots := 0, locals := 137 } : Room)).locals := ⟨Nat.le_refl _, Nat.le_refl _⟩
  rw [f5_seenBy] at h
  refine sa_iload_n C dX5_seenBy_0 rfl 1 rfl ?_
  refine sa_invSi C yy_X5_isCell q_903 q_902 dX5_seenBy_1 (As := [.int x1]) (rest := []) rfl ⟨Nat.le_trans (Nat.le_of_ble_eq_true rfl) hR.1, Nat.le_trans (Nat.le_of_ble_eq_true rfl) hR.2⟩ (Nat.le_of_ble_eq_true rfl) (cc5_isCell rfl) rfl ?_
  refine sa_if_ne C dX5_seenBy_4 (tgt := 14) (by decide) (fun c1 => ?_) (fun c1 => ?_)
  · replace h := sl_n c1 h
    refine sa_iconst C dX5_seenBy_14 ic_0 ?_
    refine sa_istore_n C dX5_seenBy_15 rfl (by decide) (lv2 := [(2, .int (0 : Int32)), (0, .ref (g 0)), (1, .int x1)]) rfl ?_
    refine sa_iconst C dX5_seenBy_16 ic_0 ?_
    refine sa_istore_n C dX5_seenBy_17 rfl (by decide) (lv2 := [(3, .int (0 : Int32)), (2, .int (0 : Int32)), (0, .ref (g 0)), (1, .int x1)]) rfl ?_
    exact sa_sub [2, 3, 1, 0] rfl (w5_seenBy_18 C hR 400 h)
  · replace h := sl_t c1 h
    refine sa_aload_n C dX5_seenBy_7 rfl 0 rfl ?_
    refine sa_ldc C dX5_seenBy_8 q_910 ?_
    obtain ⟨r2, er2, h⟩ := sl_b h
    refine sa_invVi C yy_X5_finds ⟨q_913, q_54⟩ q_911 dX5_seenBy_10 (As := [.int (-1000001 : Int32)]) (rest := []) rfl ⟨Nat.le_trans (Nat.le_of_ble_eq_true rfl) hR.1, Nat.le_trans (Nat.le_of_ble_eq_true rfl) hR.2⟩ (Nat.le_of_ble_eq_true rfl) hh_X5 lr_0 (cc5_finds er2) rfl ?_
    exact sa_iret C dX5_seenBy_13 (sl_p1 h) (sl_p2 h)
/-! X5 neighbours -/
def f5_neighbours_64 (k26 : Int32 → Int32 → sl_M → Option (Int32 × sl_M)) (x1 : Int32) (x2 : Int32) (x4 : Int32) (t0 : Int32) (M : sl_M) : Option (Int32 × sl_M) := k26 (t0 ||| (0 : Int32)) (x4 + (1 : Int32)) M
def f5_neighbours_26 (x1 : Int32) (x2 : Int32) : Nat → Int32 → Int32 → sl_M → Option (Int32 × sl_M)
  | 0, _, _, _ => none
  | n + 1, x3, x4, M => (sl_ld (M 1) 111 (1 : Int32)).bind fun v1 => (if v1 ≤ x4 then some (x3, M) else (if x4 = x1 then f5_neighbours_64 (f5_neighbours_26 x1 x2 n) x1 x2 x4 x3 M else (f5_cellAt x4 M).bind fun r4 => (if (f5_has x2 r4) = 0 then f5_neighbours_64 (f5_neighbours_26 x1 x2 n) x1 x2 x4 x3 M else f5_neighbours_26 x1 x2 n (x3 ||| ((1 : Int32) <<< (x4 &&& 31))) (x4 + (1 : Int32)) M)))
def f5_neighbours (x1 : Int32) (M : sl_M) : Option (Int32 × sl_M) := (f5_isHouse x1 M).bind fun r1 => (if r1 = 0 then (f5_finds (-1000001 : Int32) M).bind fun r4 => some (r4.1, r4.2) else (f5_sightOf x1 M).bind fun r3 => f5_neighbours_26 x1 r3 400 (0 : Int32) (0 : Int32) M)
theorem w5_neighbours_64 {D : va_G} {cA : ClassId} {g : Nat → Nat} {A : Nat → Prop} {z : sl_K} {l : Launch} {p : Program} {e : Env} {R : Room} {s : State} {m : MethodId} {args : Array Value} {below : List Frame} {meth : Method} {c : Code} (C : sl_C RX5 cX5_neighbours 5 (some .int) sl_cl LR D cA g A z p s m meth c) (hR : 6 ≤ R.frames ∧ 137 ≤ R.locals) {M : sl_M} {r : Int32 × sl_M} {x1 : Int32} {x2 : Int32} {x4 : Int32} {t0 : Int32} {k26 : Int32 → Int32 → sl_M → Option (Int32 × sl_M)} (hk26 : ∀ {x3 : Int32} {x4 : Int32} {M : sl_M}, k26 x3 x4 M = some r → sl_A sl_cl LR D cA g A p l e R s m args below meth c (MQ below (sl_Q sl_cl LR D cA g A (some (.int r.1)) r.2) args s 0 0 A) 5 26 [(0, .ref (g 0)), (1, .int x1), (2, .int x2), (3, .int x3), (4, .int x4)] [] M) (h : f5_neighbours_64 k26 x1 x2 x4 t0 M = some r) : sl_A sl_cl LR D cA g A p l e R s m args below meth c (MQ below (sl_Q sl_cl LR D cA g A (some (.int r.1)) r.2) args s 0 0 A) 5 64 [(0, .ref (g 0)), (1, .int x1), (2, .int x2), (4, .int x4)] [.int t0] M := by
  rw [f5_neighbours_64] at h
  refine sa_iconst C dX5_neighbours_64 ic_0 ?_
  refine sa_ior C dX5_neighbours_65 ?_
  refine sa_istore_n C dX5_neighbours_66 rfl (by decide) (lv2 := [(3, .int (t0 ||| (0 : Int32))), (0, .ref (g 0)), (1, .int x1), (2, .int x2), (4, .int x4)]) rfl ?_
  refine sa_iinc C dX5_neighbours_67 4 rfl (v := (x4 + (1 : Int32))) (by rw [ic_1]) (by decide) (lv2 := [(4, .int (x4 + (1 : Int32))), (3, .int (t0 ||| (0 : Int32))), (0, .ref (g 0)), (1, .int x1), (2, .int x2)]) rfl ?_
  refine sa_goto C dX5_neighbours_70 (tgt := 26) (by decide) ?_
  exact sa_sub [2, 3, 4, 1, 0] rfl (hk26 h)
theorem w5_neighbours_26 {D : va_G} {cA : ClassId} {g : Nat → Nat} {A : Nat → Prop} {z : sl_K} {l : Launch} {p : Program} {e : Env} {R : Room} {s : State} {m : MethodId} {args : Array Value} {below : List Frame} {meth : Method} {c : Code} (C : sl_C RX5 cX5_neighbours 5 (some .int) sl_cl LR D cA g A z p s m meth c) (hR : 6 ≤ R.frames ∧ 137 ≤ R.locals) {r : Int32 × sl_M} {x1 : Int32} {x2 : Int32} : ∀ (n : Nat) {x3 : Int32} {x4 : Int32} {M : sl_M}, f5_neighbours_26 x1 x2 n x3 x4 M = some r → sl_A sl_cl LR D cA g A p l e R s m args below meth c (MQ below (sl_Q sl_cl LR D cA g A (some (.int r.1)) r.2) args s 0 0 A) 5 26 [(0, .ref (g 0)), (1, .int x1), (2, .int x2), (3, .int x3), (4, .int x4)] [] M := by
  intro n
  induction n with
  | zero =>
    intro x3 x4 M h
    exact absurd h.symm (Option.some_ne_none _)
  | succ n ih =>
    intro x3 x4 M h
    rw [f5_neighbours_26] at h
    refine sa_iload C dX5_neighbours_26 4 rfl ?_
    refine sa_aload_n C dX5_neighbours_28 rfl 0 rfl ?_
    refine sa_getR C hh_X5 (k := 0) dX5_neighbours_29 q_837 (by decide) lr_0 rfl ?_
    refine sa_iconst C dX5_neighbours_32 ic_1 ?_
    obtain ⟨v1, ev1, h⟩ := sl_b h
    refine sa_iald C dX5_neighbours_33 lr_1 ev1 ?_
    refine sa_icmp_ge C dX5_neighbours_34 (tgt := 73) (by decide) (fun c2 => ?_) (fun c2 => ?_)
    · replace h := sl_t c2 h
      refine sa_iload_n C dX5_neighbours_73 rfl 3 rfl ?_
      exact sa_iret C dX5_neighbours_74 (sl_p1 h) (sl_p2 h)
    · replace h := sl_n c2 h
      refine sa_iload_n C dX5_neighbours_37 rfl 3 rfl ?_
      refine sa_iload C dX5_neighbours_38 4 rfl ?_
      refine sa_iload_n C dX5_neighbours_40 rfl 1 rfl ?_
      refine sa_icmp_eq C dX5_neighbours_41 (tgt := 64) (by decide) (fun c3 => ?_) (fun c3 => ?_)
      · replace h := sl_t c3 h
        exact sa_sub [0, 1, 2, 4] rfl (w5_neighbours_64 C hR (fun h => ih h) h)
      · replace h := sl_n c3 h
        refine sa_iload_n C dX5_neighbours_44 rfl 2 rfl ?_
        refine sa_aload_n C dX5_neighbours_45 rfl 0 rfl ?_
        refine sa_iload C dX5_neighbours_46 4 rfl ?_
        obtain ⟨r4, er4, h⟩ := sl_b h
        refine sa_invVi C yy_X5_cellAt ⟨q_980, q_64⟩ q_978 dX5_neighbours_48 (As := [.int x4]) (rest := [.int x2, .int x3]) rfl ⟨Nat.le_trans (Nat.le_of_ble_eq_true rfl) hR.1, Nat.le_trans (Nat.le_of_ble_eq_true rfl) hR.2⟩ (Nat.le_of_ble_eq_true rfl) hh_X5 lr_0 (cc5_cellAt er4) rfl ?_
        refine sa_invSi C yy_X5_has q_1030 q_1029 dX5_neighbours_51 (As := [.int x2, .int r4]) (rest := [.int x3]) rfl ⟨Nat.le_trans (Nat.le_of_ble_eq_true rfl) hR.1, Nat.le_trans (Nat.le_of_ble_eq_true rfl) hR.2⟩ (Nat.le_of_ble_eq_true rfl) (cc5_has rfl) rfl ?_
        refine sa_if_eq C dX5_neighbours_54 (tgt := 64) (by decide) (fun c5 => ?_) (fun c5 => ?_)
        · replace h := sl_t c5 h
          exact sa_sub [0, 1, 2, 4] rfl (w5_neighbours_64 C hR (fun h => ih h) h)
        · replace h := sl_n c5 h
          refine sa_iconst C dX5_neighbours_57 ic_1 ?_
          refine sa_iload C dX5_neighbours_58 4 rfl ?_
          refine sa_ishl C dX5_neighbours_60 ?_
          refine sa_goto C dX5_neighbours_61 (tgt := 65) (by decide) ?_
          refine sa_ior C dX5_neighbours_65 ?_
          refine sa_istore_n C dX5_neighbours_66 rfl (by decide) (lv2 := [(3, .int (x3 ||| ((1 : Int32) <<< (x4 &&& 31)))), (0, .ref (g 0)), (1, .int x1), (2, .int x2), (4, .int x4)]) rfl ?_
          refine sa_iinc C dX5_neighbours_67 4 rfl (v := (x4 + (1 : Int32))) (by rw [ic_1]) (by decide) (lv2 := [(4, .int (x4 + (1 : Int32))), (3, .int (x3 ||| ((1 : Int32) <<< (x4 &&& 31)))), (0, .ref (g 0)), (1, .int x1), (2, .int x2)]) rfl ?_
          refine sa_goto C dX5_neighbours_70 (tgt := 26) (by decide) ?_
          exact sa_sub [2, 3, 4, 1, 0] rfl (ih h)
theorem cc5_neighbours {D : va_G} {cA : ClassId} {g : Nat → Nat} {A : Nat → Prop} {z : sl_K} {l : Launch} {x1 : Int32} {M : sl_M} {r : Int32 × sl_M} (h : f5_neighbours x1 M = some r) : sl_N sl_cl LR D cA g A z l yX5_neighbours cX5_neighbours 5 (some .int) 6 137 [.ref (g 0), .int x1] M (some (.int r.1)) r.2 := by
  refine sl_N.of (by decide) (Nat.le_of_ble_eq_true rfl) rfl ?_
  intro p e s m args below meth c C
  replace C : sl_C RX5 cX5_neighbours 5 (some .int) sl_cl LR D cA g A z p s m meth c := C
  have hR : 6 ≤ (({ frames := 6, cells := 0, slots := 0, locals := 137 } : Room)).frames ∧ 137 ≤ (({ frames := 6, cells := 0, slots := 0, locals := 137 } : Room)).locals := ⟨Nat.le_refl _, Nat.le_refl _⟩
  rw [f5_neighbours] at h
  refine sa_aload_n C dX5_neighbours_0 rfl 0 rfl ?_
  refine sa_iload_n C dX5_neighbours_1 rfl 1 rfl ?_
  obtain ⟨r1, er1, h⟩ := sl_b h
  refine sa_invVi C yy_X5_isHouse ⟨q_971, q_62⟩ q_969 dX5_neighbours_2 (As := [.int x1]) (rest := []) rfl ⟨Nat.le_trans (Nat.le_of_ble_eq_true rfl) hR.1, Nat.le_trans (Nat.le_of_ble_eq_true rfl) hR.2⟩ (Nat.le_of_ble_eq_true rfl) hh_X5 lr_0 (cc5_isHouse er1) rfl ?_
  refine sa_if_ne C dX5_neighbours_5 (tgt := 15) (by decide) (fun c2 => ?_) (fun c2 => ?_)
  · replace h := sl_n c2 h
    refine sa_aload_n C dX5_neighbours_15 rfl 0 rfl ?_
    refine sa_iload_n C dX5_neighbours_16 rfl 1 rfl ?_
    obtain ⟨r3, er3, h⟩ := sl_b h
    refine sa_invVi C yy_X5_sightOf ⟨q_1020, q_67⟩ q_1018 dX5_neighbours_17 (As := [.int x1]) (rest := []) rfl ⟨Nat.le_trans (Nat.le_of_ble_eq_true rfl) hR.1, Nat.le_trans (Nat.le_of_ble_eq_true rfl) hR.2⟩ (Nat.le_of_ble_eq_true rfl) hh_X5 lr_0 (cc5_sightOf er3) rfl ?_
    refine sa_istore_n C dX5_neighbours_20 rfl (by decide) (lv2 := [(2, .int r3), (0, .ref (g 0)), (1, .int x1)]) rfl ?_
    refine sa_iconst C dX5_neighbours_21 ic_0 ?_
    refine sa_istore_n C dX5_neighbours_22 rfl (by decide) (lv2 := [(3, .int (0 : Int32)), (2, .int r3), (0, .ref (g 0)), (1, .int x1)]) rfl ?_
    refine sa_iconst C dX5_neighbours_23 ic_0 ?_
    refine sa_istore C dX5_neighbours_24 (by decide) (lv2 := [(4, .int (0 : Int32)), (3, .int (0 : Int32)), (2, .int r3), (0, .ref (g 0)), (1, .int x1)]) rfl ?_
    exact sa_sub [3, 4, 2, 1, 0] rfl (w5_neighbours_26 C hR 400 h)
  · replace h := sl_t c2 h
    refine sa_aload_n C dX5_neighbours_8 rfl 0 rfl ?_
    refine sa_ldc C dX5_neighbours_9 q_910 ?_
    obtain ⟨r4, er4, h⟩ := sl_b h
    refine sa_invVi C yy_X5_finds ⟨q_913, q_54⟩ q_911 dX5_neighbours_11 (As := [.int (-1000001 : Int32)]) (rest := []) rfl ⟨Nat.le_trans (Nat.le_of_ble_eq_true rfl) hR.1, Nat.le_trans (Nat.le_of_ble_eq_true rfl) hR.2⟩ (Nat.le_of_ble_eq_true rfl) hh_X5 lr_0 (cc5_finds er4) rfl ?_
    exact sa_iret C dX5_neighbours_14 (sl_p1 h) (sl_p2 h)
/-! X5 hidden -/
def f5_hidden (x1 : Int32) (x2 : Int32) (M : sl_M) : Option (Int32 × sl_M) := (f5_isHouse x1 M).bind fun r1 => (if r1 = 0 then (f5_finds (-1000001 : Int32) M).bind fun r3 => some (r3.1, r3.2) else (if (f5_isCell x2) = 0 then (f5_finds (-1000001 : Int32) M).bind fun r11 => some (r11.1, r11.2) else (f5_isTowards x1 x2 M).bind fun r5 => (if r5 = 0 then (f5_finds (-1000005 : Int32) M).bind fun r10 => some (r10.1, r10.2) else (f5_hider x1 x2 M).bind fun r7 => (if 0 ≤ r7 then some (r7, M) else (f5_finds (-1000004 : Int32) M).bind fun r9 => some (r9.1, r9.2)))))
theorem cc5_hidden {D : va_G} {cA : ClassId} {g : Nat → Nat} {A : Nat → Prop} {z : sl_K} {l : Launch} {x1 : Int32} {x2 : Int32} {M : sl_M} {r : Int32 × sl_M} (h : f5_hidden x1 x2 M = some r) : sl_N sl_cl LR D cA g A z l yX5_hidden cX5_hidden 4 (some .int) 5 114 [.ref (g 0), .int x1, .int x2] M (some (.int r.1)) r.2 := by
  refine sl_N.of (by decide) (Nat.le_of_ble_eq_true rfl) rfl ?_
  intro p e s m args below meth c C
  replace C : sl_C RX5 cX5_hidden 4 (some .int) sl_cl LR D cA g A z p s m meth c := C
  have hR : 5 ≤ (({ frames := 5, cells := 0, slots := 0, locals := 114 } : Room)).frames ∧ 114 ≤ (({ frames := 5, cells := 0, slots := 0, locals := 114 } : Room)).locals := ⟨Nat.le_refl _, Nat.le_refl _⟩
  rw [f5_hidden] at h
  refine sa_aload_n C dX5_hidden_0 rfl 0 rfl ?_
  refine sa_iload_n C dX5_hidden_1 rfl 1 rfl ?_
  obtain ⟨r1, er1, h⟩ := sl_b h
  refine sa_invVi C yy_X5_isHouse ⟨q_971, q_62⟩ q_969 dX5_hidden_2 (As := [.int x1]) (rest := []) rfl ⟨Nat.le_trans (Nat.le_of_ble_eq_true rfl) hR.1, Nat.le_trans (Nat.le_of_ble_eq_true rfl) hR.2⟩ (Nat.le_of_ble_eq_true rfl) hh_X5 lr_0 (cc5_isHouse er1) rfl ?_
  refine sa_if_eq C dX5_hidden_5 (tgt := 15) (by decide) (fun c2 => ?_) (fun c2 => ?_)
  · replace h := sl_t c2 h
    refine sa_aload_n C dX5_hidden_15 rfl 0 rfl ?_
    refine sa_ldc C dX5_hidden_16 q_910 ?_
    obtain ⟨r3, er3, h⟩ := sl_b h
    refine sa_invVi C yy_X5_finds ⟨q_913, q_54⟩ q_911 dX5_hidden_18 (As := [.int (-1000001 : Int32)]) (rest := []) rfl ⟨Nat.le_trans (Nat.le_of_ble_eq_true rfl) hR.1, Nat.le_trans (Nat.le_of_ble_eq_true rfl) hR.2⟩ (Nat.le_of_ble_eq_true rfl) hh_X5 lr_0 (cc5_finds er3) rfl ?_
    exact sa_iret C dX5_hidden_21 (sl_p1 h) (sl_p2 h)
  · replace h := sl_n c2 h
    refine sa_iload_n C dX5_hidden_8 rfl 2 rfl ?_
    refine sa_invSi C yy_X5_isCell q_903 q_902 dX5_hidden_9 (As := [.int x2]) (rest := []) rfl ⟨Nat.le_trans (Nat.le_of_ble_eq_true rfl) hR.1, Nat.le_trans (Nat.le_of_ble_eq_true rfl) hR.2⟩ (Nat.le_of_ble_eq_true rfl) (cc5_isCell rfl) rfl ?_
    refine sa_if_ne C dX5_hidden_12 (tgt := 22) (by decide) (fun c4 => ?_) (fun c4 => ?_)
    · replace h := sl_n c4 h
      refine sa_aload_n C dX5_hidden_22 rfl 0 rfl ?_
      refine sa_iload_n C dX5_hidden_23 rfl 1 rfl ?_
      refine sa_iload_n C dX5_hidden_24 rfl 2 rfl ?_
      obtain ⟨r5, er5, h⟩ := sl_b h
      refine sa_invVi C yy_X5_isTowards ⟨q_1024, q_68⟩ q_1022 dX5_hidden_25 (As := [.int x1, .int x2]) (rest := []) rfl ⟨Nat.le_trans (Nat.le_of_ble_eq_true rfl) hR.1, Nat.le_trans (Nat.le_of_ble_eq_true rfl) hR.2⟩ (Nat.le_of_ble_eq_true rfl) hh_X5 lr_0 (cc5_isTowards er5) rfl ?_
      refine sa_if_ne C dX5_hidden_28 (tgt := 38) (by decide) (fun c6 => ?_) (fun c6 => ?_)
      · replace h := sl_n c6 h
        refine sa_aload_n C dX5_hidden_38 rfl 0 rfl ?_
        refine sa_iload_n C dX5_hidden_39 rfl 1 rfl ?_
        refine sa_iload_n C dX5_hidden_40 rfl 2 rfl ?_
        obtain ⟨r7, er7, h⟩ := sl_b h
        refine sa_invVi C yy_X5_hider ⟨q_1034, q_69⟩ q_1032 dX5_hidden_41 (As := [.int x1, .int x2]) (rest := []) rfl ⟨Nat.le_trans (Nat.le_of_ble_eq_true rfl) hR.1, Nat.le_trans (Nat.le_of_ble_eq_true rfl) hR.2⟩ (Nat.le_of_ble_eq_true rfl) hh_X5 lr_0 (cc5_hider er7) rfl ?_
        refine sa_istore_n C dX5_hidden_44 rfl (by decide) (lv2 := [(3, .int r7), (0, .ref (g 0)), (1, .int x1), (2, .int x2)]) rfl ?_
        refine sa_iload_n C dX5_hidden_45 rfl 0 rfl ?_
        refine sa_if_ge C dX5_hidden_46 (tgt := 58) (by decide) (fun c8 => ?_) (fun c8 => ?_)
        · replace h := sl_t c8 h
          refine sa_iload_n C dX5_hidden_58 rfl 0 rfl ?_
          exact sa_iret C dX5_hidden_59 (sl_p1 h) (sl_p2 h)
        · replace h := sl_n c8 h
          refine sa_aload_n C dX5_hidden_49 rfl 1 rfl ?_
          refine sa_ldc C dX5_hidden_50 q_1057 ?_
          obtain ⟨r9, er9, h⟩ := sl_b h
          refine sa_invVi C yy_X5_finds ⟨q_913, q_54⟩ q_911 dX5_hidden_52 (As := [.int (-1000004 : Int32)]) (rest := []) rfl ⟨Nat.le_trans (Nat.le_of_ble_eq_true rfl) hR.1, Nat.le_trans (Nat.le_of_ble_eq_true rfl) hR.2⟩ (Nat.le_of_ble_eq_true rfl) hh_X5 lr_0 (cc5_finds er9) rfl ?_
          refine sa_goto C dX5_hidden_55 (tgt := 59) (by decide) ?_
          exact sa_iret C dX5_hidden_59 (sl_p1 h) (sl_p2 h)
      · replace h := sl_t c6 h
        refine sa_aload_n C dX5_hidden_31 rfl 0 rfl ?_
        refine sa_ldc C dX5_hidden_32 q_1056 ?_
        obtain ⟨r10, er10, h⟩ := sl_b h
        refine sa_invVi C yy_X5_finds ⟨q_913, q_54⟩ q_911 dX5_hidden_34 (As := [.int (-1000005 : Int32)]) (rest := []) rfl ⟨Nat.le_trans (Nat.le_of_ble_eq_true rfl) hR.1, Nat.le_trans (Nat.le_of_ble_eq_true rfl) hR.2⟩ (Nat.le_of_ble_eq_true rfl) hh_X5 lr_0 (cc5_finds er10) rfl ?_
        exact sa_iret C dX5_hidden_37 (sl_p1 h) (sl_p2 h)
    · replace h := sl_t c4 h
      refine sa_aload_n C dX5_hidden_15 rfl 0 rfl ?_
      refine sa_ldc C dX5_hidden_16 q_910 ?_
      obtain ⟨r11, er11, h⟩ := sl_b h
      refine sa_invVi C yy_X5_finds ⟨q_913, q_54⟩ q_911 dX5_hidden_18 (As := [.int (-1000001 : Int32)]) (rest := []) rfl ⟨Nat.le_trans (Nat.le_of_ble_eq_true rfl) hR.1, Nat.le_trans (Nat.le_of_ble_eq_true rfl) hR.2⟩ (Nat.le_of_ble_eq_true rfl) hh_X5 lr_0 (cc5_finds er11) rfl ?_
      exact sa_iret C dX5_hidden_21 (sl_p1 h) (sl_p2 h)
/-! X5 taxOf -/
def f5_taxOf_21 (M : sl_M) (x2 : Int32) : Nat → Int32 → Int32 → Option Int32
  | 0, _, _ => none
  | n + 1, x3, x4 => (if (24 : Int32) ≤ x4 then (sl_ld (M 1) 111 (3 : Int32)).bind fun v2 => some ((x3 * v2) / (10 : Int32)) else (if (f5_has x2 x4) = 0 then f5_taxOf_21 M x2 n (x3 + (0 : Int32)) (x4 + (1 : Int32)) else (f5_worth x4 M).bind fun r4 => f5_taxOf_21 M x2 n (x3 + r4) (x4 + (1 : Int32))))
def f5_taxOf (x1 : Int32) (M : sl_M) : Option Int32 := (f5_sightOf x1 M).bind fun r1 => (f5_cellAt x1 M).bind fun r2 => f5_taxOf_21 M (r1 &&& (((1 : Int32) <<< (r2 &&& 31)) ^^^ (-1 : Int32))) 400 (0 : Int32) (0 : Int32)
theorem w5_taxOf_21 {D : va_G} {cA : ClassId} {g : Nat → Nat} {A : Nat → Prop} {z : sl_K} {l : Launch} {p : Program} {e : Env} {R : Room} {s : State} {m : MethodId} {args : Array Value} {below : List Frame} {meth : Method} {c : Code} (C : sl_C RX5 cX5_taxOf 5 (some .int) sl_cl LR D cA g A z p s m meth c) (hR : 6 ≤ R.frames ∧ 137 ≤ R.locals) {M : sl_M} {r : Int32} {x2 : Int32} : ∀ (n : Nat) {x3 : Int32} {x4 : Int32}, f5_taxOf_21 M x2 n x3 x4 = some r → sl_A sl_cl LR D cA g A p l e R s m args below meth c (MQ below (sl_Q sl_cl LR D cA g A (some (.int r)) M) args s 0 0 A) 5 21 [(0, .ref (g 0)), (2, .int x2), (3, .int x3), (4, .int x4)] [] M := by
  intro n
  induction n with
  | zero =>
    intro x3 x4 h
    exact absurd h.symm (Option.some_ne_none _)
  | succ n ih =>
    intro x3 x4 h
    rw [f5_taxOf_21] at h
    refine sa_iload C dX5_taxOf_21 3 rfl ?_
    refine sa_bipush C dX5_taxOf_23 bp_24 ?_
    refine sa_icmp_ge C dX5_taxOf_25 (tgt := 56) (by decide) (fun c1 => ?_) (fun c1 => ?_)
    · replace h := sl_t c1 h
      refine sa_iload_n C dX5_taxOf_56 rfl 2 rfl ?_
      refine sa_aload_n C dX5_taxOf_57 rfl 0 rfl ?_
      refine sa_getR C hh_X5 (k := 0) dX5_taxOf_58 q_837 (by decide) lr_0 rfl ?_
      refine sa_iconst C dX5_taxOf_61 ic_3 ?_
      obtain ⟨v2, ev2, h⟩ := sl_b h
      refine sa_iald C dX5_taxOf_62 lr_1 ev2 ?_
      refine sa_imul C dX5_taxOf_63 ?_
      refine sa_bipush C dX5_taxOf_64 bp_10 ?_
      refine sa_idivc C dX5_taxOf_66 (by decide) ?_
      exact sa_iret C dX5_taxOf_67 (Option.some.inj h) rfl
    · replace h := sl_n c1 h
      refine sa_iload_n C dX5_taxOf_28 rfl 2 rfl ?_
      refine sa_iload_n C dX5_taxOf_29 rfl 1 rfl ?_
      refine sa_iload C dX5_taxOf_30 3 rfl ?_
      refine sa_invSi C yy_X5_has q_1030 q_1029 dX5_taxOf_32 (As := [.int x2, .int x4]) (rest := [.int x3]) rfl ⟨Nat.le_trans (Nat.le_of_ble_eq_true rfl) hR.1, Nat.le_trans (Nat.le_of_ble_eq_true rfl) hR.2⟩ (Nat.le_of_ble_eq_true rfl) (cc5_has rfl) rfl ?_
      refine sa_if_eq C dX5_taxOf_35 (tgt := 47) (by decide) (fun c3 => ?_) (fun c3 => ?_)
      · replace h := sl_t c3 h
        refine sa_iconst C dX5_taxOf_47 ic_0 ?_
        refine sa_iadd C dX5_taxOf_48 ?_
        refine sa_istore_n C dX5_taxOf_49 rfl (by decide) (lv2 := [(3, .int (x3 + (0 : Int32))), (0, .ref (g 0)), (2, .int x2), (4, .int x4)]) rfl ?_
        refine sa_iinc C dX5_taxOf_50 3 rfl (v := (x4 + (1 : Int32))) (by rw [ic_1]) (by decide) (lv2 := [(4, .int (x4 + (1 : Int32))), (3, .int (x3 + (0 : Int32))), (0, .ref (g 0)), (2, .int x2)]) rfl ?_
        refine sa_goto C dX5_taxOf_53 (tgt := 21) (by decide) ?_
        exact sa_sub [2, 3, 1, 0] rfl (ih h)
      · replace h := sl_n c3 h
        refine sa_aload_n C dX5_taxOf_38 rfl 0 rfl ?_
        refine sa_iload C dX5_taxOf_39 3 rfl ?_
        obtain ⟨r4, er4, h⟩ := sl_b h
        refine sa_invVi C yy_X5_worth ⟨q_950, q_60⟩ q_948 dX5_taxOf_41 (As := [.int x4]) (rest := [.int x3]) rfl ⟨Nat.le_trans (Nat.le_of_ble_eq_true rfl) hR.1, Nat.le_trans (Nat.le_of_ble_eq_true rfl) hR.2⟩ (Nat.le_of_ble_eq_true rfl) hh_X5 lr_0 (cc5_worth er4) rfl ?_
        refine sa_goto C dX5_taxOf_44 (tgt := 48) (by decide) ?_
        refine sa_iadd C dX5_taxOf_48 ?_
        refine sa_istore_n C dX5_taxOf_49 rfl (by decide) (lv2 := [(3, .int (x3 + r4)), (0, .ref (g 0)), (2, .int x2), (4, .int x4)]) rfl ?_
        refine sa_iinc C dX5_taxOf_50 3 rfl (v := (x4 + (1 : Int32))) (by rw [ic_1]) (by decide) (lv2 := [(4, .int (x4 + (1 : Int32))), (3, .int (x3 + r4)), (0, .ref (g 0)), (2, .int x2)]) rfl ?_
        refine sa_goto C dX5_taxOf_53 (tgt := 21) (by decide) ?_
        exact sa_sub [2, 3, 1, 0] rfl (ih h)
theorem cc5_taxOf {D : va_G} {cA : ClassId} {g : Nat → Nat} {A : Nat → Prop} {z : sl_K} {l : Launch} {x1 : Int32} {M : sl_M} {r : Int32} (h : f5_taxOf x1 M = some r) : sl_N sl_cl LR D cA g A z l yX5_taxOf cX5_taxOf 5 (some .int) 6 137 [.ref (g 0), .int x1] M (some (.int r)) M := by
  refine sl_N.of (by decide) (Nat.le_of_ble_eq_true rfl) rfl ?_
  intro p e s m args below meth c C
  replace C : sl_C RX5 cX5_taxOf 5 (some .int) sl_cl LR D cA g A z p s m meth c := C
  have hR : 6 ≤ (({ frames := 6, cells := 0, slots := 0, locals := 137 } : Room)).frames ∧ 137 ≤ (({ frames := 6, cells := 0, slots := 0, locals := 137 } : Room)).locals := ⟨Nat.le_refl _, Nat.le_refl _⟩
  rw [f5_taxOf] at h
  refine sa_aload_n C dX5_taxOf_0 rfl 0 rfl ?_
  refine sa_iload_n C dX5_taxOf_1 rfl 1 rfl ?_
  obtain ⟨r1, er1, h⟩ := sl_b h
  refine sa_invVi C yy_X5_sightOf ⟨q_1020, q_67⟩ q_1018 dX5_taxOf_2 (As := [.int x1]) (rest := []) rfl ⟨Nat.le_trans (Nat.le_of_ble_eq_true rfl) hR.1, Nat.le_trans (Nat.le_of_ble_eq_true rfl) hR.2⟩ (Nat.le_of_ble_eq_true rfl) hh_X5 lr_0 (cc5_sightOf er1) rfl ?_
  refine sa_iconst C dX5_taxOf_5 ic_1 ?_
  refine sa_aload_n C dX5_taxOf_6 rfl 0 rfl ?_
  refine sa_iload_n C dX5_taxOf_7 rfl 1 rfl ?_
  obtain ⟨r2, er2, h⟩ := sl_b h
  refine sa_invVi C yy_X5_cellAt ⟨q_980, q_64⟩ q_978 dX5_taxOf_8 (As := [.int x1]) (rest := [.int (1 : Int32), .int r1]) rfl ⟨Nat.le_trans (Nat.le_of_ble_eq_true rfl) hR.1, Nat.le_trans (Nat.le_of_ble_eq_true rfl) hR.2⟩ (Nat.le_of_ble_eq_true rfl) hh_X5 lr_0 (cc5_cellAt er2) rfl ?_
  refine sa_ishl C dX5_taxOf_11 ?_
  refine sa_iconst C dX5_taxOf_12 ic_m1 ?_
  refine sa_ixor C dX5_taxOf_13 ?_
  refine sa_iand C dX5_taxOf_14 ?_
  refine sa_istore_n C dX5_taxOf_15 rfl (by decide) (lv2 := [(2, .int (r1 &&& (((1 : Int32) <<< (r2 &&& 31)) ^^^ (-1 : Int32)))), (0, .ref (g 0)), (1, .int x1)]) rfl ?_
  refine sa_iconst C dX5_taxOf_16 ic_0 ?_
  refine sa_istore_n C dX5_taxOf_17 rfl (by decide) (lv2 := [(3, .int (0 : Int32)), (2, .int (r1 &&& (((1 : Int32) <<< (r2 &&& 31)) ^^^ (-1 : Int32)))), (0, .ref (g 0)), (1, .int x1)]) rfl ?_
  refine sa_iconst C dX5_taxOf_18 ic_0 ?_
  refine sa_istore C dX5_taxOf_19 (by decide) (lv2 := [(4, .int (0 : Int32)), (3, .int (0 : Int32)), (2, .int (r1 &&& (((1 : Int32) <<< (r2 &&& 31)) ^^^ (-1 : Int32)))), (0, .ref (g 0)), (1, .int x1)]) rfl ?_
  exact sa_sub [3, 2, 1, 0] rfl (w5_taxOf_21 C hR 400 h)
/-! X5 allTax -/
def f5_allTax_4 (M : sl_M) : Nat → Int32 → Int32 → Option Int32
  | 0, _, _ => none
  | n + 1, x1, x2 => (sl_ld (M 1) 111 (1 : Int32)).bind fun v1 => (if v1 ≤ x2 then some x1 else (f5_taxOf x2 M).bind fun r3 => f5_allTax_4 M n (x1 + r3) (x2 + (1 : Int32)))
def f5_allTax (M : sl_M) : Option Int32 := f5_allTax_4 M 400 (0 : Int32) (0 : Int32)
theorem w5_allTax_4 {D : va_G} {cA : ClassId} {g : Nat → Nat} {A : Nat → Prop} {z : sl_K} {l : Launch} {p : Program} {e : Env} {R : Room} {s : State} {m : MethodId} {args : Array Value} {below : List Frame} {meth : Method} {c : Code} (C : sl_C RX5 cX5_allTax 3 (some .int) sl_cl LR D cA g A z p s m meth c) (hR : 7 ≤ R.frames ∧ 161 ≤ R.locals) {M : sl_M} {r : Int32} : ∀ (n : Nat) {x1 : Int32} {x2 : Int32}, f5_allTax_4 M n x1 x2 = some r → sl_A sl_cl LR D cA g A p l e R s m args below meth c (MQ below (sl_Q sl_cl LR D cA g A (some (.int r)) M) args s 0 0 A) 3 4 [(0, .ref (g 0)), (1, .int x1), (2, .int x2)] [] M := by
  intro n
  induction n with
  | zero =>
    intro x1 x2 h
    exact absurd h.symm (Option.some_ne_none _)
  | succ n ih =>
    intro x1 x2 h
    rw [f5_allTax_4] at h
    refine sa_iload_n C dX5_allTax_4 rfl 2 rfl ?_
    refine sa_aload_n C dX5_allTax_5 rfl 0 rfl ?_
    refine sa_getR C hh_X5 (k := 0) dX5_allTax_6 q_837 (by decide) lr_0 rfl ?_
    refine sa_iconst C dX5_allTax_9 ic_1 ?_
    obtain ⟨v1, ev1, h⟩ := sl_b h
    refine sa_iald C dX5_allTax_10 lr_1 ev1 ?_
    refine sa_icmp_ge C dX5_allTax_11 (tgt := 28) (by decide) (fun c2 => ?_) (fun c2 => ?_)
    · replace h := sl_t c2 h
      refine sa_iload_n C dX5_allTax_28 rfl 1 rfl ?_
      exact sa_iret C dX5_allTax_29 (Option.some.inj h) rfl
    · replace h := sl_n c2 h
      refine sa_iload_n C dX5_allTax_14 rfl 1 rfl ?_
      refine sa_aload_n C dX5_allTax_15 rfl 0 rfl ?_
      refine sa_iload_n C dX5_allTax_16 rfl 2 rfl ?_
      obtain ⟨r3, er3, h⟩ := sl_b h
      refine sa_invVi C yy_X5_taxOf ⟨q_1064, q_71⟩ q_1062 dX5_allTax_17 (As := [.int x2]) (rest := [.int x1]) rfl ⟨Nat.le_trans (Nat.le_of_ble_eq_true rfl) hR.1, Nat.le_trans (Nat.le_of_ble_eq_true rfl) hR.2⟩ (Nat.le_of_ble_eq_true rfl) hh_X5 lr_0 (cc5_taxOf er3) rfl ?_
      refine sa_iadd C dX5_allTax_20 ?_
      refine sa_istore_n C dX5_allTax_21 rfl (by decide) (lv2 := [(1, .int (x1 + r3)), (0, .ref (g 0)), (2, .int x2)]) rfl ?_
      refine sa_iinc C dX5_allTax_22 2 rfl (v := (x2 + (1 : Int32))) (by rw [ic_1]) (by decide) (lv2 := [(2, .int (x2 + (1 : Int32))), (1, .int (x1 + r3)), (0, .ref (g 0))]) rfl ?_
      refine sa_goto C dX5_allTax_25 (tgt := 4) (by decide) ?_
      exact sa_sub [2, 1, 0] rfl (ih h)
theorem cc5_allTax {D : va_G} {cA : ClassId} {g : Nat → Nat} {A : Nat → Prop} {z : sl_K} {l : Launch} {M : sl_M} {r : Int32} (h : f5_allTax M = some r) : sl_N sl_cl LR D cA g A z l yX5_allTax cX5_allTax 3 (some .int) 7 161 [.ref (g 0)] M (some (.int r)) M := by
  refine sl_N.of (by decide) (Nat.le_of_ble_eq_true rfl) rfl ?_
  intro p e s m args below meth c C
  replace C : sl_C RX5 cX5_allTax 3 (some .int) sl_cl LR D cA g A z p s m meth c := C
  have hR : 7 ≤ (({ frames := 7, cells := 0, slots := 0, locals := 161 } : Room)).frames ∧ 161 ≤ (({ frames := 7, cells := 0, slots := 0, locals := 161 } : Room)).locals := ⟨Nat.le_refl _, Nat.le_refl _⟩
  rw [f5_allTax] at h
  refine sa_iconst C dX5_allTax_0 ic_0 ?_
  refine sa_istore_n C dX5_allTax_1 rfl (by decide) (lv2 := [(1, .int (0 : Int32)), (0, .ref (g 0))]) rfl ?_
  refine sa_iconst C dX5_allTax_2 ic_0 ?_
  refine sa_istore_n C dX5_allTax_3 rfl (by decide) (lv2 := [(2, .int (0 : Int32)), (1, .int (0 : Int32)), (0, .ref (g 0))]) rfl ?_
  exact sa_sub [2, 1, 0] rfl (w5_allTax_4 C hR 400 h)
/-! X5 tax -/
def f5_tax (x1 : Int32) (M : sl_M) : Option (Int32 × sl_M) := (f5_isHouse x1 M).bind fun r1 => (if r1 = 0 then (f5_finds (-1000001 : Int32) M).bind fun r3 => some (r3.1, r3.2) else (f5_taxOf x1 M).bind fun r4 => some (r4, M))
theorem cc5_tax {D : va_G} {cA : ClassId} {g : Nat → Nat} {A : Nat → Prop} {z : sl_K} {l : Launch} {x1 : Int32} {M : sl_M} {r : Int32 × sl_M} (h : f5_tax x1 M = some r) : sl_N sl_cl LR D cA g A z l yX5_tax cX5_tax 2 (some .int) 7 161 [.ref (g 0), .int x1] M (some (.int r.1)) r.2 := by
  refine sl_N.of (by decide) (Nat.le_of_ble_eq_true rfl) rfl ?_
  intro p e s m args below meth c C
  replace C : sl_C RX5 cX5_tax 2 (some .int) sl_cl LR D cA g A z p s m meth c := C
  have hR : 7 ≤ (({ frames := 7, cells := 0, slots := 0, locals := 161 } : Room)).frames ∧ 161 ≤ (({ frames := 7, cells := 0, slots := 0, locals := 161 } : Room)).locals := ⟨Nat.le_refl _, Nat.le_refl _⟩
  rw [f5_tax] at h
  refine sa_aload_n C dX5_tax_0 rfl 0 rfl ?_
  refine sa_iload_n C dX5_tax_1 rfl 1 rfl ?_
  obtain ⟨r1, er1, h⟩ := sl_b h
  refine sa_invVi C yy_X5_isHouse ⟨q_971, q_62⟩ q_969 dX5_tax_2 (As := [.int x1]) (rest := []) rfl ⟨Nat.le_trans (Nat.le_of_ble_eq_true rfl) hR.1, Nat.le_trans (Nat.le_of_ble_eq_true rfl) hR.2⟩ (Nat.le_of_ble_eq_true rfl) hh_X5 lr_0 (cc5_isHouse er1) rfl ?_
  refine sa_if_eq C dX5_tax_5 (tgt := 16) (by decide) (fun c2 => ?_) (fun c2 => ?_)
  · replace h := sl_t c2 h
    refine sa_aload_n C dX5_tax_16 rfl 0 rfl ?_
    refine sa_ldc C dX5_tax_17 q_910 ?_
    obtain ⟨r3, er3, h⟩ := sl_b h
    refine sa_invVi C yy_X5_finds ⟨q_913, q_54⟩ q_911 dX5_tax_19 (As := [.int (-1000001 : Int32)]) (rest := []) rfl ⟨Nat.le_trans (Nat.le_of_ble_eq_true rfl) hR.1, Nat.le_trans (Nat.le_of_ble_eq_true rfl) hR.2⟩ (Nat.le_of_ble_eq_true rfl) hh_X5 lr_0 (cc5_finds er3) rfl ?_
    exact sa_iret C dX5_tax_22 (sl_p1 h) (sl_p2 h)
  · replace h := sl_n c2 h
    refine sa_aload_n C dX5_tax_8 rfl 0 rfl ?_
    refine sa_iload_n C dX5_tax_9 rfl 1 rfl ?_
    obtain ⟨r4, er4, h⟩ := sl_b h
    refine sa_invVi C yy_X5_taxOf ⟨q_1064, q_71⟩ q_1062 dX5_tax_10 (As := [.int x1]) (rest := []) rfl ⟨Nat.le_trans (Nat.le_of_ble_eq_true rfl) hR.1, Nat.le_trans (Nat.le_of_ble_eq_true rfl) hR.2⟩ (Nat.le_of_ble_eq_true rfl) hh_X5 lr_0 (cc5_taxOf er4) rfl ?_
    refine sa_goto C dX5_tax_13 (tgt := 22) (by decide) ?_
    exact sa_iret C dX5_tax_22 (sl_p1 h) (sl_p2 h)
/-! X5 all -/
def f5_all (M : sl_M) : Option Int32 := (f5_allTax M).bind fun r1 => some r1
theorem cc5_all {D : va_G} {cA : ClassId} {g : Nat → Nat} {A : Nat → Prop} {z : sl_K} {l : Launch} {M : sl_M} {r : Int32} (h : f5_all M = some r) : sl_N sl_cl LR D cA g A z l yX5_all cX5_all 1 (some .int) 8 183 [.ref (g 0)] M (some (.int r)) M := by
  refine sl_N.of (by decide) (Nat.le_of_ble_eq_true rfl) rfl ?_
  intro p e s m args below meth c C
  replace C : sl_C RX5 cX5_all 1 (some .int) sl_cl LR D cA g A z p s m meth c := C
  have hR : 8 ≤ (({ frames := 8, cells := 0, slots := 0, locals := 183 } : Room)).frames ∧ 183 ≤ (({ frames := 8, cells := 0, slots := 0, locals := 183 } : Room)).locals := ⟨Nat.le_refl _, Nat.le_refl _⟩
  rw [f5_all] at h
  refine sa_aload_n C dX5_all_0 rfl 0 rfl ?_
  obtain ⟨r1, er1, h⟩ := sl_b h
  refine sa_invVi C yy_X5_allTax ⟨q_1072, q_72⟩ q_1070 dX5_all_1 (As := []) (rest := []) rfl ⟨Nat.le_trans (Nat.le_of_ble_eq_true rfl) hR.1, Nat.le_trans (Nat.le_of_ble_eq_true rfl) hR.2⟩ (Nat.le_of_ble_eq_true rfl) hh_X5 lr_0 (cc5_allTax er1) rfl ?_
  exact sa_iret C dX5_all_4 (Option.some.inj h) rfl
/-! X5 leastFloor -/
def f5_leastFloor_62 (k22 : Int32 → Int32 → Int32 → sl_M → Option (Int32 × sl_M)) (x1 : Int32) (x2 : Int32) (x5 : Int32) (x6 : Int32) (M : sl_M) : Option (Int32 × sl_M) := k22 x5 x6 (x5 + (1 : Int32)) M
def f5_leastFloor_22 (x1 : Int32) (x2 : Int32) : Nat → Int32 → Int32 → Int32 → sl_M → Option (Int32 × sl_M)
  | 0, _, _, _, _ => none
  | n + 1, x3, x4, x5, M => (if (40 : Int32) < x5 then (sl_st M 1 111 (((77 : Int32) + ((3 : Int32) * x1)) + (1 : Int32)) x2).bind fun M2 => some (x3, M2) else (sl_st M 1 111 (((77 : Int32) + ((3 : Int32) * x1)) + (1 : Int32)) x5).bind fun M3 => (f5_taxOf x1 M3).bind fun r4 => (if x3 = 0 then f5_leastFloor_62 (f5_leastFloor_22 x1 x2 n) x1 x2 x5 r4 M3 else (if x4 ≤ r4 then f5_leastFloor_22 x1 x2 n x3 x4 (x5 + (1 : Int32)) M3 else f5_leastFloor_62 (f5_leastFloor_22 x1 x2 n) x1 x2 x5 r4 M3)))
def f5_leastFloor (x1 : Int32) (M : sl_M) : Option (Int32 × sl_M) := (sl_ld (M 1) 111 (((77 : Int32) + ((3 : Int32) * x1)) + (1 : Int32))).bind fun v1 => f5_leastFloor_22 x1 v1 400 (0 : Int32) (0 : Int32) (1 : Int32) M
theorem w5_leastFloor_62 {D : va_G} {cA : ClassId} {g : Nat → Nat} {A : Nat → Prop} {z : sl_K} {l : Launch} {p : Program} {e : Env} {R : Room} {s : State} {m : MethodId} {args : Array Value} {below : List Frame} {meth : Method} {c : Code} (C : sl_C RX5 cX5_leastFloor 7 (some .int) sl_cl LR D cA g A z p s m meth c) (hR : 7 ≤ R.frames ∧ 161 ≤ R.locals) {M : sl_M} {r : Int32 × sl_M} {x1 : Int32} {x2 : Int32} {x5 : Int32} {x6 : Int32} {k22 : Int32 → Int32 → Int32 → sl_M → Option (Int32 × sl_M)} (hk22 : ∀ {x3 : Int32} {x4 : Int32} {x5 : Int32} {M : sl_M}, k22 x3 x4 x5 M = some r → sl_A sl_cl LR D cA g A p l e R s m args below meth c (MQ below (sl_Q sl_cl LR D cA g A (some (.int r.1)) r.2) args s 0 0 A) 7 22 [(0, .ref (g 0)), (1, .int x1), (2, .int x2), (3, .int x3), (4, .int x4), (5, .int x5)] [] M) (h : f5_leastFloor_62 k22 x1 x2 x5 x6 M = some r) : sl_A sl_cl LR D cA g A p l e R s m args below meth c (MQ below (sl_Q sl_cl LR D cA g A (some (.int r.1)) r.2) args s 0 0 A) 7 62 [(0, .ref (g 0)), (1, .int x1), (2, .int x2), (5, .int x5), (6, .int x6)] [] M := by
  rw [f5_leastFloor_62] at h
  refine sa_iload C dX5_leastFloor_62 3 rfl ?_
  refine sa_istore_n C dX5_leastFloor_64 rfl (by decide) (lv2 := [(3, .int x5), (0, .ref (g 0)), (1, .int x1), (2, .int x2), (5, .int x5), (6, .int x6)]) rfl ?_
  refine sa_iload C dX5_leastFloor_65 5 rfl ?_
  refine sa_istore C dX5_leastFloor_67 (by decide) (lv2 := [(4, .int x6), (3, .int x5), (0, .ref (g 0)), (1, .int x1), (2, .int x2), (5, .int x5), (6, .int x6)]) rfl ?_
  refine sa_iinc C dX5_leastFloor_69 5 rfl (v := (x5 + (1 : Int32))) (by rw [ic_1]) (by decide) (lv2 := [(5, .int (x5 + (1 : Int32))), (4, .int x6), (3, .int x5), (0, .ref (g 0)), (1, .int x1), (2, .int x2), (6, .int x6)]) rfl ?_
  refine sa_goto C dX5_leastFloor_72 (tgt := 22) (by decide) ?_
  exact sa_sub [3, 4, 5, 2, 1, 0] rfl (hk22 h)
theorem w5_leastFloor_22 {D : va_G} {cA : ClassId} {g : Nat → Nat} {A : Nat → Prop} {z : sl_K} {l : Launch} {p : Program} {e : Env} {R : Room} {s : State} {m : MethodId} {args : Array Value} {below : List Frame} {meth : Method} {c : Code} (C : sl_C RX5 cX5_leastFloor 7 (some .int) sl_cl LR D cA g A z p s m meth c) (hR : 7 ≤ R.frames ∧ 161 ≤ R.locals) {r : Int32 × sl_M} {x1 : Int32} {x2 : Int32} : ∀ (n : Nat) {x3 : Int32} {x4 : Int32} {x5 : Int32} {M : sl_M}, f5_leastFloor_22 x1 x2 n x3 x4 x5 M = some r → sl_A sl_cl LR D cA g A p l e R s m args below meth c (MQ below (sl_Q sl_cl LR D cA g A (some (.int r.1)) r.2) args s 0 0 A) 7 22 [(0, .ref (g 0)), (1, .int x1), (2, .int x2), (3, .int x3), (4, .int x4), (5, .int x5)] [] M := by
  intro n
  induction n with
  | zero =>
    intro x3 x4 x5 M h
    exact absurd h.symm (Option.some_ne_none _)
  | succ n ih =>
    intro x3 x4 x5 M h
    rw [f5_leastFloor_22] at h
    refine sa_iload C dX5_leastFloor_22 5 rfl ?_
    refine sa_bipush C dX5_leastFloor_24 bp_40 ?_
    refine sa_icmp_gt C dX5_leastFloor_26 (tgt := 75) (by decide) (fun c1 => ?_) (fun c1 => ?_)
    · replace h := sl_t c1 h
      refine sa_aload_n C dX5_leastFloor_75 rfl 0 rfl ?_
      refine sa_getR C hh_X5 (k := 0) dX5_leastFloor_76 q_837 (by decide) lr_0 rfl ?_
      refine sa_bipush C dX5_leastFloor_79 bp_77 ?_
      refine sa_iconst C dX5_leastFloor_81 ic_3 ?_
      refine sa_iload_n C dX5_leastFloor_82 rfl 1 rfl ?_
      refine sa_imul C dX5_leastFloor_83 ?_
      refine sa_iadd C dX5_leastFloor_84 ?_
      refine sa_iconst C dX5_leastFloor_85 ic_1 ?_
      refine sa_iadd C dX5_leastFloor_86 ?_
      refine sa_iload_n C dX5_leastFloor_87 rfl 2 rfl ?_
      obtain ⟨M2, eM2, h⟩ := sl_b h
      refine sa_iast C dX5_leastFloor_88 lr_1 eM2 ?_
      refine sa_iload_n C dX5_leastFloor_89 rfl 3 rfl ?_
      exact sa_iret C dX5_leastFloor_90 (sl_p1 h) (sl_p2 h)
    · replace h := sl_n c1 h
      refine sa_aload_n C dX5_leastFloor_29 rfl 0 rfl ?_
      refine sa_getR C hh_X5 (k := 0) dX5_leastFloor_30 q_837 (by decide) lr_0 rfl ?_
      refine sa_bipush C dX5_leastFloor_33 bp_77 ?_
      refine sa_iconst C dX5_leastFloor_35 ic_3 ?_
      refine sa_iload_n C dX5_leastFloor_36 rfl 1 rfl ?_
      refine sa_imul C dX5_leastFloor_37 ?_
      refine sa_iadd C dX5_leastFloor_38 ?_
      refine sa_iconst C dX5_leastFloor_39 ic_1 ?_
      refine sa_iadd C dX5_leastFloor_40 ?_
      refine sa_iload C dX5_leastFloor_41 5 rfl ?_
      obtain ⟨M3, eM3, h⟩ := sl_b h
      refine sa_iast C dX5_leastFloor_43 lr_1 eM3 ?_
      refine sa_aload_n C dX5_leastFloor_44 rfl 0 rfl ?_
      refine sa_iload_n C dX5_leastFloor_45 rfl 1 rfl ?_
      obtain ⟨r4, er4, h⟩ := sl_b h
      refine sa_invVi C yy_X5_taxOf ⟨q_1064, q_71⟩ q_1062 dX5_leastFloor_46 (As := [.int x1]) (rest := []) rfl ⟨Nat.le_trans (Nat.le_of_ble_eq_true rfl) hR.1, Nat.le_trans (Nat.le_of_ble_eq_true rfl) hR.2⟩ (Nat.le_of_ble_eq_true rfl) hh_X5 lr_0 (cc5_taxOf er4) rfl ?_
      refine sa_istore C dX5_leastFloor_49 (by decide) (lv2 := [(6, .int r4), (0, .ref (g 0)), (1, .int x1), (2, .int x2), (3, .int x3), (4, .int x4), (5, .int x5)]) rfl ?_
      refine sa_iload_n C dX5_leastFloor_51 rfl 4 rfl ?_
      refine sa_if_eq C dX5_leastFloor_52 (tgt := 62) (by decide) (fun c5 => ?_) (fun c5 => ?_)
      · replace h := sl_t c5 h
        exact sa_sub [1, 2, 3, 6, 0] rfl (w5_leastFloor_62 C hR (fun h => ih h) h)
      · replace h := sl_n c5 h
        refine sa_iload C dX5_leastFloor_55 0 rfl ?_
        refine sa_iload C dX5_leastFloor_57 5 rfl ?_
        refine sa_icmp_ge C dX5_leastFloor_59 (tgt := 69) (by decide) (fun c6 => ?_) (fun c6 => ?_)
        · replace h := sl_t c6 h
          refine sa_iinc C dX5_leastFloor_69 6 rfl (v := (x5 + (1 : Int32))) (by rw [ic_1]) (by decide) (lv2 := [(5, .int (x5 + (1 : Int32))), (6, .int r4), (0, .ref (g 0)), (1, .int x1), (2, .int x2), (3, .int x3), (4, .int x4)]) rfl ?_
          refine sa_goto C dX5_leastFloor_72 (tgt := 22) (by decide) ?_
          exact sa_sub [2, 3, 4, 5, 6, 0] rfl (ih h)
        · replace h := sl_n c6 h
          exact sa_sub [1, 2, 3, 6, 0] rfl (w5_leastFloor_62 C hR (fun h => ih h) h)
theorem cc5_leastFloor {D : va_G} {cA : ClassId} {g : Nat → Nat} {A : Nat → Prop} {z : sl_K} {l : Launch} {x1 : Int32} {M : sl_M} {r : Int32 × sl_M} (h : f5_leastFloor x1 M = some r) : sl_N sl_cl LR D cA g A z l yX5_leastFloor cX5_leastFloor 7 (some .int) 7 161 [.ref (g 0), .int x1] M (some (.int r.1)) r.2 := by
  refine sl_N.of (by decide) (Nat.le_of_ble_eq_true rfl) rfl ?_
  intro p e s m args below meth c C
  replace C : sl_C RX5 cX5_leastFloor 7 (some .int) sl_cl LR D cA g A z p s m meth c := C
  have hR : 7 ≤ (({ frames := 7, cells := 0, slots := 0, locals := 161 } : Room)).frames ∧ 161 ≤ (({ frames := 7, cells := 0, slots := 0, locals := 161 } : Room)).locals := ⟨Nat.le_refl _, Nat.le_refl _⟩
  rw [f5_leastFloor] at h
  refine sa_aload_n C dX5_leastFloor_0 rfl 0 rfl ?_
  refine sa_getR C hh_X5 (k := 0) dX5_leastFloor_1 q_837 (by decide) lr_0 rfl ?_
  refine sa_bipush C dX5_leastFloor_4 bp_77 ?_
  refine sa_iconst C dX5_leastFloor_6 ic_3 ?_
  refine sa_iload_n C dX5_leastFloor_7 rfl 1 rfl ?_
  refine sa_imul C dX5_leastFloor_8 ?_
  refine sa_iadd C dX5_leastFloor_9 ?_
  refine sa_iconst C dX5_leastFloor_10 ic_1 ?_
  refine sa_iadd C dX5_leastFloor_11 ?_
  obtain ⟨v1, ev1, h⟩ := sl_b h
  refine sa_iald C dX5_leastFloor_12 lr_1 ev1 ?_
  refine sa_istore_n C dX5_leastFloor_13 rfl (by decide) (lv2 := [(2, .int v1), (0, .ref (g 0)), (1, .int x1)]) rfl ?_
  refine sa_iconst C dX5_leastFloor_14 ic_0 ?_
  refine sa_istore_n C dX5_leastFloor_15 rfl (by decide) (lv2 := [(3, .int (0 : Int32)), (2, .int v1), (0, .ref (g 0)), (1, .int x1)]) rfl ?_
  refine sa_iconst C dX5_leastFloor_16 ic_0 ?_
  refine sa_istore C dX5_leastFloor_17 (by decide) (lv2 := [(4, .int (0 : Int32)), (3, .int (0 : Int32)), (2, .int v1), (0, .ref (g 0)), (1, .int x1)]) rfl ?_
  refine sa_iconst C dX5_leastFloor_19 ic_1 ?_
  refine sa_istore C dX5_leastFloor_20 (by decide) (lv2 := [(5, .int (1 : Int32)), (4, .int (0 : Int32)), (3, .int (0 : Int32)), (2, .int v1), (0, .ref (g 0)), (1, .int x1)]) rfl ?_
  exact sa_sub [4, 5, 3, 2, 1, 0] rfl (w5_leastFloor_22 C hR 400 h)
/-! X5 cheapest -/
def f5_cheapest (x1 : Int32) (M : sl_M) : Option (Int32 × sl_M) := (f5_isHouse x1 M).bind fun r1 => (if r1 = 0 then (f5_finds (-1000001 : Int32) M).bind fun r3 => some (r3.1, r3.2) else (f5_leastFloor x1 M).bind fun r4 => some (r4.1, r4.2))
theorem cc5_cheapest {D : va_G} {cA : ClassId} {g : Nat → Nat} {A : Nat → Prop} {z : sl_K} {l : Launch} {x1 : Int32} {M : sl_M} {r : Int32 × sl_M} (h : f5_cheapest x1 M = some r) : sl_N sl_cl LR D cA g A z l yX5_cheapest cX5_cheapest 2 (some .int) 8 187 [.ref (g 0), .int x1] M (some (.int r.1)) r.2 := by
  refine sl_N.of (by decide) (Nat.le_of_ble_eq_true rfl) rfl ?_
  intro p e s m args below meth c C
  replace C : sl_C RX5 cX5_cheapest 2 (some .int) sl_cl LR D cA g A z p s m meth c := C
  have hR : 8 ≤ (({ frames := 8, cells := 0, slots := 0, locals := 187 } : Room)).frames ∧ 187 ≤ (({ frames := 8, cells := 0, slots := 0, locals := 187 } : Room)).locals := ⟨Nat.le_refl _, Nat.le_refl _⟩
  rw [f5_cheapest] at h
  refine sa_aload_n C dX5_cheapest_0 rfl 0 rfl ?_
  refine sa_iload_n C dX5_cheapest_1 rfl 1 rfl ?_
  obtain ⟨r1, er1, h⟩ := sl_b h
  refine sa_invVi C yy_X5_isHouse ⟨q_971, q_62⟩ q_969 dX5_cheapest_2 (As := [.int x1]) (rest := []) rfl ⟨Nat.le_trans (Nat.le_of_ble_eq_true rfl) hR.1, Nat.le_trans (Nat.le_of_ble_eq_true rfl) hR.2⟩ (Nat.le_of_ble_eq_true rfl) hh_X5 lr_0 (cc5_isHouse er1) rfl ?_
  refine sa_if_eq C dX5_cheapest_5 (tgt := 16) (by decide) (fun c2 => ?_) (fun c2 => ?_)
  · replace h := sl_t c2 h
    refine sa_aload_n C dX5_cheapest_16 rfl 0 rfl ?_
    refine sa_ldc C dX5_cheapest_17 q_910 ?_
    obtain ⟨r3, er3, h⟩ := sl_b h
    refine sa_invVi C yy_X5_finds ⟨q_913, q_54⟩ q_911 dX5_cheapest_19 (As := [.int (-1000001 : Int32)]) (rest := []) rfl ⟨Nat.le_trans (Nat.le_of_ble_eq_true rfl) hR.1, Nat.le_trans (Nat.le_of_ble_eq_true rfl) hR.2⟩ (Nat.le_of_ble_eq_true rfl) hh_X5 lr_0 (cc5_finds er3) rfl ?_
    exact sa_iret C dX5_cheapest_22 (sl_p1 h) (sl_p2 h)
  · replace h := sl_n c2 h
    refine sa_aload_n C dX5_cheapest_8 rfl 0 rfl ?_
    refine sa_iload_n C dX5_cheapest_9 rfl 1 rfl ?_
    obtain ⟨r4, er4, h⟩ := sl_b h
    refine sa_invVi C yy_X5_leastFloor ⟨q_1080, q_73⟩ q_1078 dX5_cheapest_10 (As := [.int x1]) (rest := []) rfl ⟨Nat.le_trans (Nat.le_of_ble_eq_true rfl) hR.1, Nat.le_trans (Nat.le_of_ble_eq_true rfl) hR.2⟩ (Nat.le_of_ble_eq_true rfl) hh_X5 lr_0 (cc5_leastFloor er4) rfl ?_
    refine sa_goto C dX5_cheapest_13 (tgt := 22) (by decide) ?_
    exact sa_iret C dX5_cheapest_22 (sl_p1 h) (sl_p2 h)
/-! X5 widest -/
def f5_widest_82 (k37 : Int32 → Int32 → Int32 → sl_M → Option (Int32 × sl_M)) (x1 : Int32) (x2 : Int32) (x4 : Int32) (x5 : Int32) (x6 : Int32) (t0 : Int32) (M : sl_M) : Option (Int32 × sl_M) := (if x6 ≤ x4 then k37 t0 x4 (x5 + (1 : Int32)) M else k37 t0 x6 (x5 + (1 : Int32)) M)
def f5_widest_37 (x1 : Int32) (x2 : Int32) : Nat → Int32 → Int32 → Int32 → sl_M → Option (Int32 × sl_M)
  | 0, _, _, _, _ => none
  | n + 1, x3, x4, x5, M => (if (40 : Int32) < x5 then (sl_st M 1 111 (((77 : Int32) + ((3 : Int32) * x1)) + (1 : Int32)) x2).bind fun M2 => some (x3, M2) else (sl_st M 1 111 (((77 : Int32) + ((3 : Int32) * x1)) + (1 : Int32)) x5).bind fun M3 => (f5_sightOf x1 M3).bind fun r4 => (f5_ones r4).bind fun r5 => (if r5 ≤ x4 then f5_widest_82 (f5_widest_37 x1 x2 n) x1 x2 x4 x5 r5 x3 M3 else f5_widest_82 (f5_widest_37 x1 x2 n) x1 x2 x4 x5 r5 x5 M3))
def f5_widest (x1 : Int32) (M : sl_M) : Option (Int32 × sl_M) := (f5_isHouse x1 M).bind fun r1 => (if r1 = 0 then (f5_finds (-1000001 : Int32) M).bind fun r4 => some (r4.1, r4.2) else (sl_ld (M 1) 111 (((77 : Int32) + ((3 : Int32) * x1)) + (1 : Int32))).bind fun v3 => f5_widest_37 x1 v3 400 (0 : Int32) (0 : Int32) (1 : Int32) M)
theorem w5_widest_82 {D : va_G} {cA : ClassId} {g : Nat → Nat} {A : Nat → Prop} {z : sl_K} {l : Launch} {p : Program} {e : Env} {R : Room} {s : State} {m : MethodId} {args : Array Value} {below : List Frame} {meth : Method} {c : Code} (C : sl_C RX5 cX5_widest 7 (some .int) sl_cl LR D cA g A z p s m meth c) (hR : 6 ≤ R.frames ∧ 137 ≤ R.locals) {M : sl_M} {r : Int32 × sl_M} {x1 : Int32} {x2 : Int32} {x4 : Int32} {x5 : Int32} {x6 : Int32} {t0 : Int32} {k37 : Int32 → Int32 → Int32 → sl_M → Option (Int32 × sl_M)} (hk37 : ∀ {x3 : Int32} {x4 : Int32} {x5 : Int32} {M : sl_M}, k37 x3 x4 x5 M = some r → sl_A sl_cl LR D cA g A p l e R s m args below meth c (MQ below (sl_Q sl_cl LR D cA g A (some (.int r.1)) r.2) args s 0 0 A) 7 37 [(0, .ref (g 0)), (1, .int x1), (2, .int x2), (3, .int x3), (4, .int x4), (5, .int x5)] [] M) (h : f5_widest_82 k37 x1 x2 x4 x5 x6 t0 M = some r) : sl_A sl_cl LR D cA g A p l e R s m args below meth c (MQ below (sl_Q sl_cl LR D cA g A (some (.int r.1)) r.2) args s 0 0 A) 7 82 [(0, .ref (g 0)), (1, .int x1), (2, .int x2), (4, .int x4), (5, .int x5), (6, .int x6)] [.int t0] M := by
  rw [f5_widest_82] at h
  refine sa_istore_n C dX5_widest_82 rfl (by decide) (lv2 := [(3, .int t0), (0, .ref (g 0)), (1, .int x1), (2, .int x2), (4, .int x4), (5, .int x5), (6, .int x6)]) rfl ?_
  refine sa_iload C dX5_widest_83 6 rfl ?_
  refine sa_iload C dX5_widest_85 4 rfl ?_
  refine sa_icmp_le C dX5_widest_87 (tgt := 95) (by decide) (fun c1 => ?_) (fun c1 => ?_)
  · replace h := sl_t c1 h
    refine sa_iload C dX5_widest_95 4 rfl ?_
    refine sa_istore C dX5_widest_97 (by decide) (lv2 := [(4, .int x4), (3, .int t0), (0, .ref (g 0)), (1, .int x1), (2, .int x2), (5, .int x5), (6, .int x6)]) rfl ?_
    refine sa_iinc C dX5_widest_99 5 rfl (v := (x5 + (1 : Int32))) (by rw [ic_1]) (by decide) (lv2 := [(5, .int (x5 + (1 : Int32))), (4, .int x4), (3, .int t0), (0, .ref (g 0)), (1, .int x1), (2, .int x2), (6, .int x6)]) rfl ?_
    refine sa_goto C dX5_widest_102 (tgt := 37) (by decide) ?_
    exact sa_sub [3, 4, 5, 2, 1, 0] rfl (hk37 h)
  · replace h := sl_n c1 h
    refine sa_iload C dX5_widest_90 6 rfl ?_
    refine sa_goto C dX5_widest_92 (tgt := 97) (by decide) ?_
    refine sa_istore C dX5_widest_97 (by decide) (lv2 := [(4, .int x6), (3, .int t0), (0, .ref (g 0)), (1, .int x1), (2, .int x2), (5, .int x5), (6, .int x6)]) rfl ?_
    refine sa_iinc C dX5_widest_99 5 rfl (v := (x5 + (1 : Int32))) (by rw [ic_1]) (by decide) (lv2 := [(5, .int (x5 + (1 : Int32))), (4, .int x6), (3, .int t0), (0, .ref (g 0)), (1, .int x1), (2, .int x2), (6, .int x6)]) rfl ?_
    refine sa_goto C dX5_widest_102 (tgt := 37) (by decide) ?_
    exact sa_sub [3, 4, 5, 2, 1, 0] rfl (hk37 h)
theorem w5_widest_37 {D : va_G} {cA : ClassId} {g : Nat → Nat} {A : Nat → Prop} {z : sl_K} {l : Launch} {p : Program} {e : Env} {R : Room} {s : State} {m : MethodId} {args : Array Value} {below : List Frame} {meth : Method} {c : Code} (C : sl_C RX5 cX5_widest 7 (some .int) sl_cl LR D cA g A z p s m meth c) (hR : 6 ≤ R.frames ∧ 137 ≤ R.locals) {r : Int32 × sl_M} {x1 : Int32} {x2 : Int32} : ∀ (n : Nat) {x3 : Int32} {x4 : Int32} {x5 : Int32} {M : sl_M}, f5_widest_37 x1 x2 n x3 x4 x5 M = some r → sl_A sl_cl LR D cA g A p l e R s m args below meth c (MQ below (sl_Q sl_cl LR D cA g A (some (.int r.1)) r.2) args s 0 0 A) 7 37 [(0, .ref (g 0)), (1, .int x1), (2, .int x2), (3, .int x3), (4, .int x4), (5, .int x5)] [] M := by
  intro n
  induction n with
  | zero =>
    intro x3 x4 x5 M h
    exact absurd h.symm (Option.some_ne_none _)
  | succ n ih =>
    intro x3 x4 x5 M h
    rw [f5_widest_37] at h
    refine sa_iload C dX5_widest_37 5 rfl ?_
    refine sa_bipush C dX5_widest_39 bp_40 ?_
    refine sa_icmp_gt C dX5_widest_41 (tgt := 105) (by decide) (fun c1 => ?_) (fun c1 => ?_)
    · replace h := sl_t c1 h
      refine sa_aload_n C dX5_widest_105 rfl 0 rfl ?_
      refine sa_getR C hh_X5 (k := 0) dX5_widest_106 q_837 (by decide) lr_0 rfl ?_
      refine sa_bipush C dX5_widest_109 bp_77 ?_
      refine sa_iconst C dX5_widest_111 ic_3 ?_
      refine sa_iload_n C dX5_widest_112 rfl 1 rfl ?_
      refine sa_imul C dX5_widest_113 ?_
      refine sa_iadd C dX5_widest_114 ?_
      refine sa_iconst C dX5_widest_115 ic_1 ?_
      refine sa_iadd C dX5_widest_116 ?_
      refine sa_iload_n C dX5_widest_117 rfl 2 rfl ?_
      obtain ⟨M2, eM2, h⟩ := sl_b h
      refine sa_iast C dX5_widest_118 lr_1 eM2 ?_
      refine sa_iload_n C dX5_widest_119 rfl 3 rfl ?_
      exact sa_iret C dX5_widest_120 (sl_p1 h) (sl_p2 h)
    · replace h := sl_n c1 h
      refine sa_aload_n C dX5_widest_44 rfl 0 rfl ?_
      refine sa_getR C hh_X5 (k := 0) dX5_widest_45 q_837 (by decide) lr_0 rfl ?_
      refine sa_bipush C dX5_widest_48 bp_77 ?_
      refine sa_iconst C dX5_widest_50 ic_3 ?_
      refine sa_iload_n C dX5_widest_51 rfl 1 rfl ?_
      refine sa_imul C dX5_widest_52 ?_
      refine sa_iadd C dX5_widest_53 ?_
      refine sa_iconst C dX5_widest_54 ic_1 ?_
      refine sa_iadd C dX5_widest_55 ?_
      refine sa_iload C dX5_widest_56 5 rfl ?_
      obtain ⟨M3, eM3, h⟩ := sl_b h
      refine sa_iast C dX5_widest_58 lr_1 eM3 ?_
      refine sa_aload_n C dX5_widest_59 rfl 0 rfl ?_
      refine sa_iload_n C dX5_widest_60 rfl 1 rfl ?_
      obtain ⟨r4, er4, h⟩ := sl_b h
      refine sa_invVi C yy_X5_sightOf ⟨q_1020, q_67⟩ q_1018 dX5_widest_61 (As := [.int x1]) (rest := []) rfl ⟨Nat.le_trans (Nat.le_of_ble_eq_true rfl) hR.1, Nat.le_trans (Nat.le_of_ble_eq_true rfl) hR.2⟩ (Nat.le_of_ble_eq_true rfl) hh_X5 lr_0 (cc5_sightOf er4) rfl ?_
      obtain ⟨r5, er5, h⟩ := sl_b h
      refine sa_invSi C yy_X5_ones q_1087 q_1086 dX5_widest_64 (As := [.int r4]) (rest := []) rfl ⟨Nat.le_trans (Nat.le_of_ble_eq_true rfl) hR.1, Nat.le_trans (Nat.le_of_ble_eq_true rfl) hR.2⟩ (Nat.le_of_ble_eq_true rfl) (cc5_ones er5) rfl ?_
      refine sa_istore C dX5_widest_67 (by decide) (lv2 := [(6, .int r5), (0, .ref (g 0)), (1, .int x1), (2, .int x2), (3, .int x3), (4, .int x4), (5, .int x5)]) rfl ?_
      refine sa_iload C dX5_widest_69 0 rfl ?_
      refine sa_iload C dX5_widest_71 5 rfl ?_
      refine sa_icmp_le C dX5_widest_73 (tgt := 81) (by decide) (fun c6 => ?_) (fun c6 => ?_)
      · replace h := sl_t c6 h
        refine sa_iload_n C dX5_widest_81 rfl 4 rfl ?_
        exact sa_sub [1, 2, 3, 5, 6, 0] rfl (w5_widest_82 C hR (fun h => ih h) h)
      · replace h := sl_n c6 h
        refine sa_iload C dX5_widest_76 6 rfl ?_
        refine sa_goto C dX5_widest_78 (tgt := 82) (by decide) ?_
        exact sa_sub [1, 2, 3, 5, 6, 0] rfl (w5_widest_82 C hR (fun h => ih h) h)
theorem cc5_widest {D : va_G} {cA : ClassId} {g : Nat → Nat} {A : Nat → Prop} {z : sl_K} {l : Launch} {x1 : Int32} {M : sl_M} {r : Int32 × sl_M} (h : f5_widest x1 M = some r) : sl_N sl_cl LR D cA g A z l yX5_widest cX5_widest 7 (some .int) 6 137 [.ref (g 0), .int x1] M (some (.int r.1)) r.2 := by
  refine sl_N.of (by decide) (Nat.le_of_ble_eq_true rfl) rfl ?_
  intro p e s m args below meth c C
  replace C : sl_C RX5 cX5_widest 7 (some .int) sl_cl LR D cA g A z p s m meth c := C
  have hR : 6 ≤ (({ frames := 6, cells := 0, slots := 0, locals := 137 } : Room)).frames ∧ 137 ≤ (({ frames := 6, cells := 0, slots := 0, locals := 137 } : Room)).locals := ⟨Nat.le_refl _, Nat.le_refl _⟩
  rw [f5_widest] at h
  refine sa_aload_n C dX5_widest_0 rfl 0 rfl ?_
  refine sa_iload_n C dX5_widest_1 rfl 1 rfl ?_
  obtain ⟨r1, er1, h⟩ := sl_b h
  refine sa_invVi C yy_X5_isHouse ⟨q_971, q_62⟩ q_969 dX5_widest_2 (As := [.int x1]) (rest := []) rfl ⟨Nat.le_trans (Nat.le_of_ble_eq_true rfl) hR.1, Nat.le_trans (Nat.le_of_ble_eq_true rfl) hR.2⟩ (Nat.le_of_ble_eq_true rfl) hh_X5 lr_0 (cc5_isHouse er1) rfl ?_
  refine sa_if_ne C dX5_widest_5 (tgt := 15) (by decide) (fun c2 => ?_) (fun c2 => ?_)
  · replace h := sl_n c2 h
    refine sa_aload_n C dX5_widest_15 rfl 0 rfl ?_
    refine sa_getR C hh_X5 (k := 0) dX5_widest_16 q_837 (by decide) lr_0 rfl ?_
    refine sa_bipush C dX5_widest_19 bp_77 ?_
    refine sa_iconst C dX5_widest_21 ic_3 ?_
    refine sa_iload_n C dX5_widest_22 rfl 1 rfl ?_
    refine sa_imul C dX5_widest_23 ?_
    refine sa_iadd C dX5_widest_24 ?_
    refine sa_iconst C dX5_widest_25 ic_1 ?_
    refine sa_iadd C dX5_widest_26 ?_
    obtain ⟨v3, ev3, h⟩ := sl_b h
    refine sa_iald C dX5_widest_27 lr_1 ev3 ?_
    refine sa_istore_n C dX5_widest_28 rfl (by decide) (lv2 := [(2, .int v3), (0, .ref (g 0)), (1, .int x1)]) rfl ?_
    refine sa_iconst C dX5_widest_29 ic_0 ?_
    refine sa_istore_n C dX5_widest_30 rfl (by decide) (lv2 := [(3, .int (0 : Int32)), (2, .int v3), (0, .ref (g 0)), (1, .int x1)]) rfl ?_
    refine sa_iconst C dX5_widest_31 ic_0 ?_
    refine sa_istore C dX5_widest_32 (by decide) (lv2 := [(4, .int (0 : Int32)), (3, .int (0 : Int32)), (2, .int v3), (0, .ref (g 0)), (1, .int x1)]) rfl ?_
    refine sa_iconst C dX5_widest_34 ic_1 ?_
    refine sa_istore C dX5_widest_35 (by decide) (lv2 := [(5, .int (1 : Int32)), (4, .int (0 : Int32)), (3, .int (0 : Int32)), (2, .int v3), (0, .ref (g 0)), (1, .int x1)]) rfl ?_
    exact sa_sub [4, 5, 3, 2, 1, 0] rfl (w5_widest_37 C hR 400 h)
  · replace h := sl_t c2 h
    refine sa_aload_n C dX5_widest_8 rfl 0 rfl ?_
    refine sa_ldc C dX5_widest_9 q_910 ?_
    obtain ⟨r4, er4, h⟩ := sl_b h
    refine sa_invVi C yy_X5_finds ⟨q_913, q_54⟩ q_911 dX5_widest_11 (As := [.int (-1000001 : Int32)]) (rest := []) rfl ⟨Nat.le_trans (Nat.le_of_ble_eq_true rfl) hR.1, Nat.le_trans (Nat.le_of_ble_eq_true rfl) hR.2⟩ (Nat.le_of_ble_eq_true rfl) hh_X5 lr_0 (cc5_finds er4) rfl ?_
    exact sa_iret C dX5_widest_14 (sl_p1 h) (sl_p2 h)
/-! X5 wall -/
def f5_wall_89 (k37 : Int32 → Int32 → Int32 → sl_M → Option (Int32 × sl_M)) (x1 : Int32) (x2 : Int32) (x3 : Int32) (x6 : Int32) (x7 : Int32) (M : sl_M) : Option (Int32 × sl_M) := k37 x6 x7 (x6 + (1 : Int32)) M
def f5_wall_37 (x1 : Int32) (x2 : Int32) (x3 : Int32) : Nat → Int32 → Int32 → Int32 → sl_M → Option (Int32 × sl_M)
  | 0, _, _, _, _ => none
  | n + 1, x4, x5, x6, M => (if (4 : Int32) ≤ x6 then (sl_st M 1 111 (((77 : Int32) + ((3 : Int32) * x1)) + (2 : Int32)) x3).bind fun M2 => (if 0 ≤ x4 then some (x4, M2) else (f5_finds (-1000004 : Int32) M2).bind fun r4 => some (r4.1, r4.2)) else (sl_st M 1 111 (((77 : Int32) + ((3 : Int32) * x1)) + (2 : Int32)) x6).bind fun M5 => (f5_taxOf x1 M5).bind fun r6 => (f5_sightOf x1 M5).bind fun r7 => (if (f5_has r7 x2) = 0 then f5_wall_37 x1 x2 x3 n x4 x5 (x6 + (1 : Int32)) M5 else (if x4 < 0 then f5_wall_89 (f5_wall_37 x1 x2 x3 n) x1 x2 x3 x6 r6 M5 else (if x5 ≤ r6 then f5_wall_37 x1 x2 x3 n x4 x5 (x6 + (1 : Int32)) M5 else f5_wall_89 (f5_wall_37 x1 x2 x3 n) x1 x2 x3 x6 r6 M5))))
def f5_wall (x1 : Int32) (x2 : Int32) (M : sl_M) : Option (Int32 × sl_M) := (f5_isHouse x1 M).bind fun r1 => (if r1 = 0 then (f5_finds (-1000001 : Int32) M).bind fun r3 => some (r3.1, r3.2) else (if (f5_isCell x2) = 0 then (f5_finds (-1000001 : Int32) M).bind fun r6 => some (r6.1, r6.2) else (f5_openOf x1 M).bind fun r5 => f5_wall_37 x1 x2 r5 400 (-1 : Int32) (0 : Int32) (0 : Int32) M))
theorem w5_wall_89 {D : va_G} {cA : ClassId} {g : Nat → Nat} {A : Nat → Prop} {z : sl_K} {l : Launch} {p : Program} {e : Env} {R : Room} {s : State} {m : MethodId} {args : Array Value} {below : List Frame} {meth : Method} {c : Code} (C : sl_C RX5 cX5_wall 8 (some .int) sl_cl LR D cA g A z p s m meth c) (hR : 7 ≤ R.frames ∧ 161 ≤ R.locals) {M : sl_M} {r : Int32 × sl_M} {x1 : Int32} {x2 : Int32} {x3 : Int32} {x6 : Int32} {x7 : Int32} {k37 : Int32 → Int32 → Int32 → sl_M → Option (Int32 × sl_M)} (hk37 : ∀ {x4 : Int32} {x5 : Int32} {x6 : Int32} {M : sl_M}, k37 x4 x5 x6 M = some r → sl_A sl_cl LR D cA g A p l e R s m args below meth c (MQ below (sl_Q sl_cl LR D cA g A (some (.int r.1)) r.2) args s 0 0 A) 8 37 [(0, .ref (g 0)), (1, .int x1), (2, .int x2), (3, .int x3), (4, .int x4), (5, .int x5), (6, .int x6)] [] M) (h : f5_wall_89 k37 x1 x2 x3 x6 x7 M = some r) : sl_A sl_cl LR D cA g A p l e R s m args below meth c (MQ below (sl_Q sl_cl LR D cA g A (some (.int r.1)) r.2) args s 0 0 A) 8 89 [(0, .ref (g 0)), (1, .int x1), (2, .int x2), (3, .int x3), (6, .int x6), (7, .int x7)] [] M := by
  rw [f5_wall_89] at h
  refine sa_iload C dX5_wall_89 4 rfl ?_
  refine sa_istore C dX5_wall_91 (by decide) (lv2 := [(4, .int x6), (0, .ref (g 0)), (1, .int x1), (2, .int x2), (3, .int x3), (6, .int x6), (7, .int x7)]) rfl ?_
  refine sa_iload C dX5_wall_93 6 rfl ?_
  refine sa_istore C dX5_wall_95 (by decide) (lv2 := [(5, .int x7), (4, .int x6), (0, .ref (g 0)), (1, .int x1), (2, .int x2), (3, .int x3), (6, .int x6), (7, .int x7)]) rfl ?_
  refine sa_iinc C dX5_wall_97 6 rfl (v := (x6 + (1 : Int32))) (by rw [ic_1]) (by decide) (lv2 := [(6, .int (x6 + (1 : Int32))), (5, .int x7), (4, .int x6), (0, .ref (g 0)), (1, .int x1), (2, .int x2), (3, .int x3), (7, .int x7)]) rfl ?_
  refine sa_goto C dX5_wall_100 (tgt := 37) (by decide) ?_
  exact sa_sub [3, 4, 5, 6, 2, 1, 0] rfl (hk37 h)
theorem w5_wall_37 {D : va_G} {cA : ClassId} {g : Nat → Nat} {A : Nat → Prop} {z : sl_K} {l : Launch} {p : Program} {e : Env} {R : Room} {s : State} {m : MethodId} {args : Array Value} {below : List Frame} {meth : Method} {c : Code} (C : sl_C RX5 cX5_wall 8 (some .int) sl_cl LR D cA g A z p s m meth c) (hR : 7 ≤ R.frames ∧ 161 ≤ R.locals) {r : Int32 × sl_M} {x1 : Int32} {x2 : Int32} {x3 : Int32} : ∀ (n : Nat) {x4 : Int32} {x5 : Int32} {x6 : Int32} {M : sl_M}, f5_wall_37 x1 x2 x3 n x4 x5 x6 M = some r → sl_A sl_cl LR D cA g A p l e R s m args below meth c (MQ below (sl_Q sl_cl LR D cA g A (some (.int r.1)) r.2) args s 0 0 A) 8 37 [(0, .ref (g 0)), (1, .int x1), (2, .int x2), (3, .int x3), (4, .int x4), (5, .int x5), (6, .int x6)] [] M := by
  intro n
  induction n with
  | zero =>
    intro x4 x5 x6 M h
    exact absurd h.symm (Option.some_ne_none _)
  | succ n ih =>
    intro x4 x5 x6 M h
    rw [f5_wall_37] at h
    refine sa_iload C dX5_wall_37 6 rfl ?_
    refine sa_iconst C dX5_wall_39 ic_4 ?_
    refine sa_icmp_ge C dX5_wall_40 (tgt := 103) (by decide) (fun c1 => ?_) (fun c1 => ?_)
    · replace h := sl_t c1 h
      refine sa_aload_n C dX5_wall_103 rfl 0 rfl ?_
      refine sa_getR C hh_X5 (k := 0) dX5_wall_104 q_837 (by decide) lr_0 rfl ?_
      refine sa_bipush C dX5_wall_107 bp_77 ?_
      refine sa_iconst C dX5_wall_109 ic_3 ?_
      refine sa_iload_n C dX5_wall_110 rfl 1 rfl ?_
      refine sa_imul C dX5_wall_111 ?_
      refine sa_iadd C dX5_wall_112 ?_
      refine sa_iconst C dX5_wall_113 ic_2 ?_
      refine sa_iadd C dX5_wall_114 ?_
      refine sa_iload_n C dX5_wall_115 rfl 3 rfl ?_
      obtain ⟨M2, eM2, h⟩ := sl_b h
      refine sa_iast C dX5_wall_116 lr_1 eM2 ?_
      refine sa_iload C dX5_wall_117 4 rfl ?_
      refine sa_if_ge C dX5_wall_119 (tgt := 131) (by decide) (fun c3 => ?_) (fun c3 => ?_)
      · replace h := sl_t c3 h
        refine sa_iload C dX5_wall_131 4 rfl ?_
        exact sa_iret C dX5_wall_133 (sl_p1 h) (sl_p2 h)
      · replace h := sl_n c3 h
        refine sa_aload_n C dX5_wall_122 rfl 0 rfl ?_
        refine sa_ldc C dX5_wall_123 q_1057 ?_
        obtain ⟨r4, er4, h⟩ := sl_b h
        refine sa_invVi C yy_X5_finds ⟨q_913, q_54⟩ q_911 dX5_wall_125 (As := [.int (-1000004 : Int32)]) (rest := []) rfl ⟨Nat.le_trans (Nat.le_of_ble_eq_true rfl) hR.1, Nat.le_trans (Nat.le_of_ble_eq_true rfl) hR.2⟩ (Nat.le_of_ble_eq_true rfl) hh_X5 lr_0 (cc5_finds er4) rfl ?_
        refine sa_goto C dX5_wall_128 (tgt := 133) (by decide) ?_
        exact sa_iret C dX5_wall_133 (sl_p1 h) (sl_p2 h)
    · replace h := sl_n c1 h
      refine sa_aload_n C dX5_wall_43 rfl 0 rfl ?_
      refine sa_getR C hh_X5 (k := 0) dX5_wall_44 q_837 (by decide) lr_0 rfl ?_
      refine sa_bipush C dX5_wall_47 bp_77 ?_
      refine sa_iconst C dX5_wall_49 ic_3 ?_
      refine sa_iload_n C dX5_wall_50 rfl 1 rfl ?_
      refine sa_imul C dX5_wall_51 ?_
      refine sa_iadd C dX5_wall_52 ?_
      refine sa_iconst C dX5_wall_53 ic_2 ?_
      refine sa_iadd C dX5_wall_54 ?_
      refine sa_iload C dX5_wall_55 6 rfl ?_
      obtain ⟨M5, eM5, h⟩ := sl_b h
      refine sa_iast C dX5_wall_57 lr_1 eM5 ?_
      refine sa_aload_n C dX5_wall_58 rfl 0 rfl ?_
      refine sa_iload_n C dX5_wall_59 rfl 1 rfl ?_
      obtain ⟨r6, er6, h⟩ := sl_b h
      refine sa_invVi C yy_X5_taxOf ⟨q_1064, q_71⟩ q_1062 dX5_wall_60 (As := [.int x1]) (rest := []) rfl ⟨Nat.le_trans (Nat.le_of_ble_eq_true rfl) hR.1, Nat.le_trans (Nat.le_of_ble_eq_true rfl) hR.2⟩ (Nat.le_of_ble_eq_true rfl) hh_X5 lr_0 (cc5_taxOf er6) rfl ?_
      refine sa_istore C dX5_wall_63 (by decide) (lv2 := [(7, .int r6), (0, .ref (g 0)), (1, .int x1), (2, .int x2), (3, .int x3), (4, .int x4), (5, .int x5), (6, .int x6)]) rfl ?_
      refine sa_aload_n C dX5_wall_65 rfl 1 rfl ?_
      refine sa_iload_n C dX5_wall_66 rfl 2 rfl ?_
      obtain ⟨r7, er7, h⟩ := sl_b h
      refine sa_invVi C yy_X5_sightOf ⟨q_1020, q_67⟩ q_1018 dX5_wall_67 (As := [.int x1]) (rest := []) rfl ⟨Nat.le_trans (Nat.le_of_ble_eq_true rfl) hR.1, Nat.le_trans (Nat.le_of_ble_eq_true rfl) hR.2⟩ (Nat.le_of_ble_eq_true rfl) hh_X5 lr_0 (cc5_sightOf er7) rfl ?_
      refine sa_iload_n C dX5_wall_70 rfl 3 rfl ?_
      refine sa_invSi C yy_X5_has q_1030 q_1029 dX5_wall_71 (As := [.int r7, .int x2]) (rest := []) rfl ⟨Nat.le_trans (Nat.le_of_ble_eq_true rfl) hR.1, Nat.le_trans (Nat.le_of_ble_eq_true rfl) hR.2⟩ (Nat.le_of_ble_eq_true rfl) (cc5_has rfl) rfl ?_
      refine sa_if_eq C dX5_wall_74 (tgt := 97) (by decide) (fun c8 => ?_) (fun c8 => ?_)
      · replace h := sl_t c8 h
        refine sa_iinc C dX5_wall_97 7 rfl (v := (x6 + (1 : Int32))) (by rw [ic_1]) (by decide) (lv2 := [(6, .int (x6 + (1 : Int32))), (7, .int r6), (0, .ref (g 0)), (1, .int x1), (2, .int x2), (3, .int x3), (4, .int x4), (5, .int x5)]) rfl ?_
        refine sa_goto C dX5_wall_100 (tgt := 37) (by decide) ?_
        exact sa_sub [2, 3, 4, 5, 6, 7, 0] rfl (ih h)
      · replace h := sl_n c8 h
        refine sa_iload C dX5_wall_77 5 rfl ?_
        refine sa_if_lt C dX5_wall_79 (tgt := 89) (by decide) (fun c9 => ?_) (fun c9 => ?_)
        · replace h := sl_t c9 h
          exact sa_sub [1, 2, 3, 4, 7, 0] rfl (w5_wall_89 C hR (fun h => ih h) h)
        · replace h := sl_n c9 h
          refine sa_iload C dX5_wall_82 0 rfl ?_
          refine sa_iload C dX5_wall_84 6 rfl ?_
          refine sa_icmp_ge C dX5_wall_86 (tgt := 97) (by decide) (fun c10 => ?_) (fun c10 => ?_)
          · replace h := sl_t c10 h
            refine sa_iinc C dX5_wall_97 7 rfl (v := (x6 + (1 : Int32))) (by rw [ic_1]) (by decide) (lv2 := [(6, .int (x6 + (1 : Int32))), (7, .int r6), (0, .ref (g 0)), (1, .int x1), (2, .int x2), (3, .int x3), (4, .int x4), (5, .int x5)]) rfl ?_
            refine sa_goto C dX5_wall_100 (tgt := 37) (by decide) ?_
            exact sa_sub [2, 3, 4, 5, 6, 7, 0] rfl (ih h)
          · replace h := sl_n c10 h
            exact sa_sub [1, 2, 3, 4, 7, 0] rfl (w5_wall_89 C hR (fun h => ih h) h)
theorem cc5_wall {D : va_G} {cA : ClassId} {g : Nat → Nat} {A : Nat → Prop} {z : sl_K} {l : Launch} {x1 : Int32} {x2 : Int32} {M : sl_M} {r : Int32 × sl_M} (h : f5_wall x1 x2 M = some r) : sl_N sl_cl LR D cA g A z l yX5_wall cX5_wall 8 (some .int) 7 161 [.ref (g 0), .int x1, .int x2] M (some (.int r.1)) r.2 := by
  refine sl_N.of (by decide) (Nat.le_of_ble_eq_true rfl) rfl ?_
  intro p e s m args below meth c C
  replace C : sl_C RX5 cX5_wall 8 (some .int) sl_cl LR D cA g A z p s m meth c := C
  have hR : 7 ≤ (({ frames := 7, cells := 0, slots := 0, locals := 161 } : Room)).frames ∧ 161 ≤ (({ frames := 7, cells := 0, slots := 0, locals := 161 } : Room)).locals := ⟨Nat.le_refl _, Nat.le_refl _⟩
  rw [f5_wall] at h
  refine sa_aload_n C dX5_wall_0 rfl 0 rfl ?_
  refine sa_iload_n C dX5_wall_1 rfl 1 rfl ?_
  obtain ⟨r1, er1, h⟩ := sl_b h
  refine sa_invVi C yy_X5_isHouse ⟨q_971, q_62⟩ q_969 dX5_wall_2 (As := [.int x1]) (rest := []) rfl ⟨Nat.le_trans (Nat.le_of_ble_eq_true rfl) hR.1, Nat.le_trans (Nat.le_of_ble_eq_true rfl) hR.2⟩ (Nat.le_of_ble_eq_true rfl) hh_X5 lr_0 (cc5_isHouse er1) rfl ?_
  refine sa_if_eq C dX5_wall_5 (tgt := 15) (by decide) (fun c2 => ?_) (fun c2 => ?_)
  · replace h := sl_t c2 h
    refine sa_aload_n C dX5_wall_15 rfl 0 rfl ?_
    refine sa_ldc C dX5_wall_16 q_910 ?_
    obtain ⟨r3, er3, h⟩ := sl_b h
    refine sa_invVi C yy_X5_finds ⟨q_913, q_54⟩ q_911 dX5_wall_18 (As := [.int (-1000001 : Int32)]) (rest := []) rfl ⟨Nat.le_trans (Nat.le_of_ble_eq_true rfl) hR.1, Nat.le_trans (Nat.le_of_ble_eq_true rfl) hR.2⟩ (Nat.le_of_ble_eq_true rfl) hh_X5 lr_0 (cc5_finds er3) rfl ?_
    exact sa_iret C dX5_wall_21 (sl_p1 h) (sl_p2 h)
  · replace h := sl_n c2 h
    refine sa_iload_n C dX5_wall_8 rfl 2 rfl ?_
    refine sa_invSi C yy_X5_isCell q_903 q_902 dX5_wall_9 (As := [.int x2]) (rest := []) rfl ⟨Nat.le_trans (Nat.le_of_ble_eq_true rfl) hR.1, Nat.le_trans (Nat.le_of_ble_eq_true rfl) hR.2⟩ (Nat.le_of_ble_eq_true rfl) (cc5_isCell rfl) rfl ?_
    refine sa_if_ne C dX5_wall_12 (tgt := 22) (by decide) (fun c4 => ?_) (fun c4 => ?_)
    · replace h := sl_n c4 h
      refine sa_aload_n C dX5_wall_22 rfl 0 rfl ?_
      refine sa_iload_n C dX5_wall_23 rfl 1 rfl ?_
      obtain ⟨r5, er5, h⟩ := sl_b h
      refine sa_invVi C yy_X5_openOf ⟨q_984, q_65⟩ q_982 dX5_wall_24 (As := [.int x1]) (rest := []) rfl ⟨Nat.le_trans (Nat.le_of_ble_eq_true rfl) hR.1, Nat.le_trans (Nat.le_of_ble_eq_true rfl) hR.2⟩ (Nat.le_of_ble_eq_true rfl) hh_X5 lr_0 (cc5_openOf er5) rfl ?_
      refine sa_istore_n C dX5_wall_27 rfl (by decide) (lv2 := [(3, .int r5), (0, .ref (g 0)), (1, .int x1), (2, .int x2)]) rfl ?_
      refine sa_iconst C dX5_wall_28 ic_m1 ?_
      refine sa_istore C dX5_wall_29 (by decide) (lv2 := [(4, .int (-1 : Int32)), (3, .int r5), (0, .ref (g 0)), (1, .int x1), (2, .int x2)]) rfl ?_
      refine sa_iconst C dX5_wall_31 ic_0 ?_
      refine sa_istore C dX5_wall_32 (by decide) (lv2 := [(5, .int (0 : Int32)), (4, .int (-1 : Int32)), (3, .int r5), (0, .ref (g 0)), (1, .int x1), (2, .int x2)]) rfl ?_
      refine sa_iconst C dX5_wall_34 ic_0 ?_
      refine sa_istore C dX5_wall_35 (by decide) (lv2 := [(6, .int (0 : Int32)), (5, .int (0 : Int32)), (4, .int (-1 : Int32)), (3, .int r5), (0, .ref (g 0)), (1, .int x1), (2, .int x2)]) rfl ?_
      exact sa_sub [4, 5, 6, 3, 2, 1, 0] rfl (w5_wall_37 C hR 400 h)
    · replace h := sl_t c4 h
      refine sa_aload_n C dX5_wall_15 rfl 0 rfl ?_
      refine sa_ldc C dX5_wall_16 q_910 ?_
      obtain ⟨r6, er6, h⟩ := sl_b h
      refine sa_invVi C yy_X5_finds ⟨q_913, q_54⟩ q_911 dX5_wall_18 (As := [.int (-1000001 : Int32)]) (rest := []) rfl ⟨Nat.le_trans (Nat.le_of_ble_eq_true rfl) hR.1, Nat.le_trans (Nat.le_of_ble_eq_true rfl) hR.2⟩ (Nat.le_of_ble_eq_true rfl) hh_X5 lr_0 (cc5_finds er6) rfl ?_
      exact sa_iret C dX5_wall_21 (sl_p1 h) (sl_p2 h)
/-! X5 rateFor -/
def f5_rateFor_66 (x2 : Int32) (x3 : Int32) (M : sl_M) : Option (Int32 × sl_M) := (sl_st M 1 111 (3 : Int32) x2).bind fun M1 => (if 0 ≤ x3 then some (x3, M1) else (f5_finds (-1000004 : Int32) M1).bind fun r3 => some (r3.1, r3.2))
def f5_rateFor_26 (x1 : Int32) (x2 : Int32) : Nat → Int32 → Int32 → sl_M → Option (Int32 × sl_M)
  | 0, _, _, _ => none
  | n + 1, x3, x4, M => (if (100 : Int32) ≤ x4 then f5_rateFor_66 x2 x3 M else (if 0 ≤ x3 then f5_rateFor_66 x2 x3 M else (sl_st M 1 111 (3 : Int32) x4).bind fun M3 => (f5_allTax M3).bind fun r4 => (if r4 < x1 then f5_rateFor_26 x1 x2 n (-1 : Int32) (x4 + (1 : Int32)) M3 else f5_rateFor_26 x1 x2 n x4 (x4 + (1 : Int32)) M3)))
def f5_rateFor (x1 : Int32) (M : sl_M) : Option (Int32 × sl_M) := (if (f5_isTax x1) = 0 then (f5_finds (-1000001 : Int32) M).bind fun r3 => some (r3.1, r3.2) else (sl_ld (M 1) 111 (3 : Int32)).bind fun v2 => f5_rateFor_26 x1 v2 400 (-1 : Int32) (0 : Int32) M)
theorem w5_rateFor_66 {D : va_G} {cA : ClassId} {g : Nat → Nat} {A : Nat → Prop} {z : sl_K} {l : Launch} {p : Program} {e : Env} {R : Room} {s : State} {m : MethodId} {args : Array Value} {below : List Frame} {meth : Method} {c : Code} (C : sl_C RX5 cX5_rateFor 5 (some .int) sl_cl LR D cA g A z p s m meth c) (hR : 8 ≤ R.frames ∧ 183 ≤ R.locals) {M : sl_M} {r : Int32 × sl_M} {x2 : Int32} {x3 : Int32} (h : f5_rateFor_66 x2 x3 M = some r) : sl_A sl_cl LR D cA g A p l e R s m args below meth c (MQ below (sl_Q sl_cl LR D cA g A (some (.int r.1)) r.2) args s 0 0 A) 5 66 [(0, .ref (g 0)), (2, .int x2), (3, .int x3)] [] M := by
  rw [f5_rateFor_66] at h
  refine sa_aload_n C dX5_rateFor_66 rfl 0 rfl ?_
  refine sa_getR C hh_X5 (k := 0) dX5_rateFor_67 q_837 (by decide) lr_0 rfl ?_
  refine sa_iconst C dX5_rateFor_70 ic_3 ?_
  refine sa_iload_n C dX5_rateFor_71 rfl 1 rfl ?_
  obtain ⟨M1, eM1, h⟩ := sl_b h
  refine sa_iast C dX5_rateFor_72 lr_1 eM1 ?_
  refine sa_iload_n C dX5_rateFor_73 rfl 2 rfl ?_
  refine sa_if_ge C dX5_rateFor_74 (tgt := 86) (by decide) (fun c2 => ?_) (fun c2 => ?_)
  · replace h := sl_t c2 h
    refine sa_iload_n C dX5_rateFor_86 rfl 2 rfl ?_
    exact sa_iret C dX5_rateFor_87 (sl_p1 h) (sl_p2 h)
  · replace h := sl_n c2 h
    refine sa_aload_n C dX5_rateFor_77 rfl 0 rfl ?_
    refine sa_ldc C dX5_rateFor_78 q_1057 ?_
    obtain ⟨r3, er3, h⟩ := sl_b h
    refine sa_invVi C yy_X5_finds ⟨q_913, q_54⟩ q_911 dX5_rateFor_80 (As := [.int (-1000004 : Int32)]) (rest := []) rfl ⟨Nat.le_trans (Nat.le_of_ble_eq_true rfl) hR.1, Nat.le_trans (Nat.le_of_ble_eq_true rfl) hR.2⟩ (Nat.le_of_ble_eq_true rfl) hh_X5 lr_0 (cc5_finds er3) rfl ?_
    refine sa_goto C dX5_rateFor_83 (tgt := 87) (by decide) ?_
    exact sa_iret C dX5_rateFor_87 (sl_p1 h) (sl_p2 h)
theorem w5_rateFor_26 {D : va_G} {cA : ClassId} {g : Nat → Nat} {A : Nat → Prop} {z : sl_K} {l : Launch} {p : Program} {e : Env} {R : Room} {s : State} {m : MethodId} {args : Array Value} {below : List Frame} {meth : Method} {c : Code} (C : sl_C RX5 cX5_rateFor 5 (some .int) sl_cl LR D cA g A z p s m meth c) (hR : 8 ≤ R.frames ∧ 183 ≤ R.locals) {r : Int32 × sl_M} {x1 : Int32} {x2 : Int32} : ∀ (n : Nat) {x3 : Int32} {x4 : Int32} {M : sl_M}, f5_rateFor_26 x1 x2 n x3 x4 M = some r → sl_A sl_cl LR D cA g A p l e R s m args below meth c (MQ below (sl_Q sl_cl LR D cA g A (some (.int r.1)) r.2) args s 0 0 A) 5 26 [(0, .ref (g 0)), (1, .int x1), (2, .int x2), (3, .int x3), (4, .int x4)] [] M := by
  intro n
  induction n with
  | zero =>
    intro x3 x4 M h
    exact absurd h.symm (Option.some_ne_none _)
  | succ n ih =>
    intro x3 x4 M h
    rw [f5_rateFor_26] at h
    refine sa_iload C dX5_rateFor_26 4 rfl ?_
    refine sa_bipush C dX5_rateFor_28 bp_100 ?_
    refine sa_icmp_ge C dX5_rateFor_30 (tgt := 66) (by decide) (fun c1 => ?_) (fun c1 => ?_)
    · replace h := sl_t c1 h
      exact sa_sub [0, 2, 3] rfl (w5_rateFor_66 C hR h)
    · replace h := sl_n c1 h
      refine sa_iload_n C dX5_rateFor_33 rfl 3 rfl ?_
      refine sa_if_ge C dX5_rateFor_34 (tgt := 66) (by decide) (fun c2 => ?_) (fun c2 => ?_)
      · replace h := sl_t c2 h
        exact sa_sub [0, 2, 3] rfl (w5_rateFor_66 C hR h)
      · replace h := sl_n c2 h
        refine sa_aload_n C dX5_rateFor_37 rfl 0 rfl ?_
        refine sa_getR C hh_X5 (k := 0) dX5_rateFor_38 q_837 (by decide) lr_0 rfl ?_
        refine sa_iconst C dX5_rateFor_41 ic_3 ?_
        refine sa_iload C dX5_rateFor_42 4 rfl ?_
        obtain ⟨M3, eM3, h⟩ := sl_b h
        refine sa_iast C dX5_rateFor_44 lr_1 eM3 ?_
        refine sa_aload_n C dX5_rateFor_45 rfl 0 rfl ?_
        obtain ⟨r4, er4, h⟩ := sl_b h
        refine sa_invVi C yy_X5_allTax ⟨q_1072, q_72⟩ q_1070 dX5_rateFor_46 (As := []) (rest := []) rfl ⟨Nat.le_trans (Nat.le_of_ble_eq_true rfl) hR.1, Nat.le_trans (Nat.le_of_ble_eq_true rfl) hR.2⟩ (Nat.le_of_ble_eq_true rfl) hh_X5 lr_0 (cc5_allTax er4) rfl ?_
        refine sa_iload_n C dX5_rateFor_49 rfl 1 rfl ?_
        refine sa_icmp_lt C dX5_rateFor_50 (tgt := 58) (by decide) (fun c5 => ?_) (fun c5 => ?_)
        · replace h := sl_t c5 h
          refine sa_iconst C dX5_rateFor_58 ic_m1 ?_
          refine sa_istore_n C dX5_rateFor_59 rfl (by decide) (lv2 := [(3, .int (-1 : Int32)), (0, .ref (g 0)), (1, .int x1), (2, .int x2), (4, .int x4)]) rfl ?_
          refine sa_iinc C dX5_rateFor_60 4 rfl (v := (x4 + (1 : Int32))) (by rw [ic_1]) (by decide) (lv2 := [(4, .int (x4 + (1 : Int32))), (3, .int (-1 : Int32)), (0, .ref (g 0)), (1, .int x1), (2, .int x2)]) rfl ?_
          refine sa_goto C dX5_rateFor_63 (tgt := 26) (by decide) ?_
          exact sa_sub [2, 3, 4, 1, 0] rfl (ih h)
        · replace h := sl_n c5 h
          refine sa_iload C dX5_rateFor_53 4 rfl ?_
          refine sa_goto C dX5_rateFor_55 (tgt := 59) (by decide) ?_
          refine sa_istore_n C dX5_rateFor_59 rfl (by decide) (lv2 := [(3, .int x4), (0, .ref (g 0)), (1, .int x1), (2, .int x2), (4, .int x4)]) rfl ?_
          refine sa_iinc C dX5_rateFor_60 4 rfl (v := (x4 + (1 : Int32))) (by rw [ic_1]) (by decide) (lv2 := [(4, .int (x4 + (1 : Int32))), (3, .int x4), (0, .ref (g 0)), (1, .int x1), (2, .int x2)]) rfl ?_
          refine sa_goto C dX5_rateFor_63 (tgt := 26) (by decide) ?_
          exact sa_sub [2, 3, 4, 1, 0] rfl (ih h)
theorem cc5_rateFor {D : va_G} {cA : ClassId} {g : Nat → Nat} {A : Nat → Prop} {z : sl_K} {l : Launch} {x1 : Int32} {M : sl_M} {r : Int32 × sl_M} (h : f5_rateFor x1 M = some r) : sl_N sl_cl LR D cA g A z l yX5_rateFor cX5_rateFor 5 (some .int) 8 183 [.ref (g 0), .int x1] M (some (.int r.1)) r.2 := by
  refine sl_N.of (by decide) (Nat.le_of_ble_eq_true rfl) rfl ?_
  intro p e s m args below meth c C
  replace C : sl_C RX5 cX5_rateFor 5 (some .int) sl_cl LR D cA g A z p s m meth c := C
  have hR : 8 ≤ (({ frames := 8, cells := 0, slots := 0, locals := 183 } : Room)).frames ∧ 183 ≤ (({ frames := 8, cells := 0, slots := 0, locals := 183 } : Room)).locals := ⟨Nat.le_refl _, Nat.le_refl _⟩
  rw [f5_rateFor] at h
  refine sa_iload_n C dX5_rateFor_0 rfl 1 rfl ?_
  refine sa_invSi C yy_X5_isTax q_1098 q_1097 dX5_rateFor_1 (As := [.int x1]) (rest := []) rfl ⟨Nat.le_trans (Nat.le_of_ble_eq_true rfl) hR.1, Nat.le_trans (Nat.le_of_ble_eq_true rfl) hR.2⟩ (Nat.le_of_ble_eq_true rfl) (cc5_isTax rfl) rfl ?_
  refine sa_if_ne C dX5_rateFor_4 (tgt := 14) (by decide) (fun c1 => ?_) (fun c1 => ?_)
  · replace h := sl_n c1 h
    refine sa_aload_n C dX5_rateFor_14 rfl 0 rfl ?_
    refine sa_getR C hh_X5 (k := 0) dX5_rateFor_15 q_837 (by decide) lr_0 rfl ?_
    refine sa_iconst C dX5_rateFor_18 ic_3 ?_
    obtain ⟨v2, ev2, h⟩ := sl_b h
    refine sa_iald C dX5_rateFor_19 lr_1 ev2 ?_
    refine sa_istore_n C dX5_rateFor_20 rfl (by decide) (lv2 := [(2, .int v2), (0, .ref (g 0)), (1, .int x1)]) rfl ?_
    refine sa_iconst C dX5_rateFor_21 ic_m1 ?_
    refine sa_istore_n C dX5_rateFor_22 rfl (by decide) (lv2 := [(3, .int (-1 : Int32)), (2, .int v2), (0, .ref (g 0)), (1, .int x1)]) rfl ?_
    refine sa_iconst C dX5_rateFor_23 ic_0 ?_
    refine sa_istore C dX5_rateFor_24 (by decide) (lv2 := [(4, .int (0 : Int32)), (3, .int (-1 : Int32)), (2, .int v2), (0, .ref (g 0)), (1, .int x1)]) rfl ?_
    exact sa_sub [3, 4, 2, 1, 0] rfl (w5_rateFor_26 C hR 400 h)
  · replace h := sl_t c1 h
    refine sa_aload_n C dX5_rateFor_7 rfl 0 rfl ?_
    refine sa_ldc C dX5_rateFor_8 q_910 ?_
    obtain ⟨r3, er3, h⟩ := sl_b h
    refine sa_invVi C yy_X5_finds ⟨q_913, q_54⟩ q_911 dX5_rateFor_10 (As := [.int (-1000001 : Int32)]) (rest := []) rfl ⟨Nat.le_trans (Nat.le_of_ble_eq_true rfl) hR.1, Nat.le_trans (Nat.le_of_ble_eq_true rfl) hR.2⟩ (Nat.le_of_ble_eq_true rfl) hh_X5 lr_0 (cc5_finds er3) rfl ?_
    exact sa_iret C dX5_rateFor_13 (sl_p1 h) (sl_p2 h)
/-! X5 year -/
def f5_year_12 : Nat → Int32 → sl_M → Option sl_M
  | 0, _, _ => none
  | n + 1, x1, M => (if (24 : Int32) ≤ x1 then some M else (sl_ld (M 1) 111 (((5 : Int32) + ((3 : Int32) * x1)) + (2 : Int32))).bind fun v2 => (f5_ageOf x1 M).bind fun r3 => (if (99 : Int32) ≤ r3 then (sl_st M 1 111 (((5 : Int32) + ((3 : Int32) * x1)) + (2 : Int32)) (v2 + (0 : Int32))).bind fun M5 => f5_year_12 n (x1 + (1 : Int32)) M5 else (sl_st M 1 111 (((5 : Int32) + ((3 : Int32) * x1)) + (2 : Int32)) (v2 + (1 : Int32))).bind fun M6 => f5_year_12 n (x1 + (1 : Int32)) M6))
def f5_year (M : sl_M) : Option sl_M := (sl_ld (M 1) 111 (0 : Int32)).bind fun v1 => (sl_st M 1 111 (0 : Int32) (v1 + (1 : Int32))).bind fun M2 => f5_year_12 400 (0 : Int32) M2
theorem w5_year_12 {D : va_G} {cA : ClassId} {g : Nat → Nat} {A : Nat → Prop} {z : sl_K} {l : Launch} {p : Program} {e : Env} {R : Room} {s : State} {m : MethodId} {args : Array Value} {below : List Frame} {meth : Method} {c : Code} (C : sl_C RX5 cX5_year 2 none sl_cl LR D cA g A z p s m meth c) (hR : 1 ≤ R.frames ∧ 21 ≤ R.locals) {r : sl_M} : ∀ (n : Nat) {x1 : Int32} {M : sl_M}, f5_year_12 n x1 M = some r → sl_A sl_cl LR D cA g A p l e R s m args below meth c (MQ below (sl_Q sl_cl LR D cA g A none r) args s 0 0 A) 2 12 [(0, .ref (g 0)), (1, .int x1)] [] M := by
  intro n
  induction n with
  | zero =>
    intro x1 M h
    exact absurd h.symm (Option.some_ne_none _)
  | succ n ih =>
    intro x1 M h
    rw [f5_year_12] at h
    refine sa_iload_n C dX5_year_12 rfl 1 rfl ?_
    refine sa_bipush C dX5_year_13 bp_24 ?_
    refine sa_icmp_ge C dX5_year_15 (tgt := 54) (by decide) (fun c1 => ?_) (fun c1 => ?_)
    · replace h := sl_t c1 h
      exact sa_vret C dX5_year_54 (Option.some.inj h)
    · replace h := sl_n c1 h
      refine sa_aload_n C dX5_year_18 rfl 0 rfl ?_
      refine sa_getR C hh_X5 (k := 0) dX5_year_19 q_837 (by decide) lr_0 rfl ?_
      refine sa_iconst C dX5_year_22 ic_5 ?_
      refine sa_iconst C dX5_year_23 ic_3 ?_
      refine sa_iload_n C dX5_year_24 rfl 1 rfl ?_
      refine sa_imul C dX5_year_25 ?_
      refine sa_iadd C dX5_year_26 ?_
      refine sa_iconst C dX5_year_27 ic_2 ?_
      refine sa_iadd C dX5_year_28 ?_
      refine sa_dup2 C dX5_year_29 rfl rfl ?_
      obtain ⟨v2, ev2, h⟩ := sl_b h
      refine sa_iald C dX5_year_30 lr_1 ev2 ?_
      refine sa_aload_n C dX5_year_31 rfl 0 rfl ?_
      refine sa_iload_n C dX5_year_32 rfl 1 rfl ?_
      obtain ⟨r3, er3, h⟩ := sl_b h
      refine sa_invVi C yy_X5_ageOf ⟨q_942, q_58⟩ q_940 dX5_year_33 (As := [.int x1]) (rest := [.int v2, .int (((5 : Int32) + ((3 : Int32) * x1)) + (2 : Int32)), .ref (g 1)]) rfl ⟨Nat.le_trans (Nat.le_of_ble_eq_true rfl) hR.1, Nat.le_trans (Nat.le_of_ble_eq_true rfl) hR.2⟩ (Nat.le_of_ble_eq_true rfl) hh_X5 lr_0 (cc5_ageOf er3) rfl ?_
      refine sa_bipush C dX5_year_36 bp_99 ?_
      refine sa_icmp_ge C dX5_year_38 (tgt := 45) (by decide) (fun c4 => ?_) (fun c4 => ?_)
      · replace h := sl_t c4 h
        refine sa_iconst C dX5_year_45 ic_0 ?_
        refine sa_iadd C dX5_year_46 ?_
        obtain ⟨M5, eM5, h⟩ := sl_b h
        refine sa_iast C dX5_year_47 lr_1 eM5 ?_
        refine sa_iinc C dX5_year_48 1 rfl (v := (x1 + (1 : Int32))) (by rw [ic_1]) (by decide) (lv2 := [(1, .int (x1 + (1 : Int32))), (0, .ref (g 0))]) rfl ?_
        refine sa_goto C dX5_year_51 (tgt := 12) (by decide) ?_
        exact sa_sub [1, 0] rfl (ih h)
      · replace h := sl_n c4 h
        refine sa_iconst C dX5_year_41 ic_1 ?_
        refine sa_goto C dX5_year_42 (tgt := 46) (by decide) ?_
        refine sa_iadd C dX5_year_46 ?_
        obtain ⟨M6, eM6, h⟩ := sl_b h
        refine sa_iast C dX5_year_47 lr_1 eM6 ?_
        refine sa_iinc C dX5_year_48 1 rfl (v := (x1 + (1 : Int32))) (by rw [ic_1]) (by decide) (lv2 := [(1, .int (x1 + (1 : Int32))), (0, .ref (g 0))]) rfl ?_
        refine sa_goto C dX5_year_51 (tgt := 12) (by decide) ?_
        exact sa_sub [1, 0] rfl (ih h)
theorem cc5_year {D : va_G} {cA : ClassId} {g : Nat → Nat} {A : Nat → Prop} {z : sl_K} {l : Launch} {M : sl_M} {r : sl_M} (h : f5_year M = some r) : sl_N sl_cl LR D cA g A z l yX5_year cX5_year 2 none 1 21 [.ref (g 0)] M none r := by
  refine sl_N.of (by decide) (Nat.le_of_ble_eq_true rfl) rfl ?_
  intro p e s m args below meth c C
  replace C : sl_C RX5 cX5_year 2 none sl_cl LR D cA g A z p s m meth c := C
  have hR : 1 ≤ (({ frames := 1, cells := 0, slots := 0, locals := 21 } : Room)).frames ∧ 21 ≤ (({ frames := 1, cells := 0, slots := 0, locals := 21 } : Room)).locals := ⟨Nat.le_refl _, Nat.le_refl _⟩
  rw [f5_year] at h
  refine sa_aload_n C dX5_year_0 rfl 0 rfl ?_
  refine sa_getR C hh_X5 (k := 0) dX5_year_1 q_837 (by decide) lr_0 rfl ?_
  refine sa_iconst C dX5_year_4 ic_0 ?_
  refine sa_dup2 C dX5_year_5 rfl rfl ?_
  obtain ⟨v1, ev1, h⟩ := sl_b h
  refine sa_iald C dX5_year_6 lr_1 ev1 ?_
  refine sa_iconst C dX5_year_7 ic_1 ?_
  refine sa_iadd C dX5_year_8 ?_
  obtain ⟨M2, eM2, h⟩ := sl_b h
  refine sa_iast C dX5_year_9 lr_1 eM2 ?_
  refine sa_iconst C dX5_year_10 ic_0 ?_
  refine sa_istore_n C dX5_year_11 rfl (by decide) (lv2 := [(1, .int (0 : Int32)), (0, .ref (g 0))]) rfl ?_
  exact sa_sub [1, 0] rfl (w5_year_12 C hR 400 h)
/-! X5 yearsGo -/
def f5_yearsGo_2 (x1 : Int32) : Nat → Int32 → sl_M → Option sl_M
  | 0, _, _ => none
  | n + 1, x2, M => (if x1 ≤ x2 then some M else (f5_year M).bind fun r2 => f5_yearsGo_2 x1 n (x2 + (1 : Int32)) r2)
def f5_yearsGo (x1 : Int32) (M : sl_M) : Option sl_M := f5_yearsGo_2 x1 400 (0 : Int32) M
theorem w5_yearsGo_2 {D : va_G} {cA : ClassId} {g : Nat → Nat} {A : Nat → Prop} {z : sl_K} {l : Launch} {p : Program} {e : Env} {R : Room} {s : State} {m : MethodId} {args : Array Value} {below : List Frame} {meth : Method} {c : Code} (C : sl_C RX5 cX5_yearsGo 3 none sl_cl LR D cA g A z p s m meth c) (hR : 2 ≤ R.frames ∧ 42 ≤ R.locals) {r : sl_M} {x1 : Int32} : ∀ (n : Nat) {x2 : Int32} {M : sl_M}, f5_yearsGo_2 x1 n x2 M = some r → sl_A sl_cl LR D cA g A p l e R s m args below meth c (MQ below (sl_Q sl_cl LR D cA g A none r) args s 0 0 A) 3 2 [(0, .ref (g 0)), (1, .int x1), (2, .int x2)] [] M := by
  intro n
  induction n with
  | zero =>
    intro x2 M h
    exact absurd h.symm (Option.some_ne_none _)
  | succ n ih =>
    intro x2 M h
    rw [f5_yearsGo_2] at h
    refine sa_iload_n C dX5_yearsGo_2 rfl 2 rfl ?_
    refine sa_iload_n C dX5_yearsGo_3 rfl 1 rfl ?_
    refine sa_icmp_ge C dX5_yearsGo_4 (tgt := 17) (by decide) (fun c1 => ?_) (fun c1 => ?_)
    · replace h := sl_t c1 h
      exact sa_vret C dX5_yearsGo_17 (Option.some.inj h)
    · replace h := sl_n c1 h
      refine sa_aload_n C dX5_yearsGo_7 rfl 0 rfl ?_
      obtain ⟨r2, er2, h⟩ := sl_b h
      refine sa_invVv C yy_X5_year ⟨q_1123, q_77⟩ q_1121 dX5_yearsGo_8 (As := []) (rest := []) rfl ⟨Nat.le_trans (Nat.le_of_ble_eq_true rfl) hR.1, Nat.le_trans (Nat.le_of_ble_eq_true rfl) hR.2⟩ (Nat.le_of_ble_eq_true rfl) hh_X5 lr_0 (cc5_year er2) rfl ?_
      refine sa_iinc C dX5_yearsGo_11 2 rfl (v := (x2 + (1 : Int32))) (by rw [ic_1]) (by decide) (lv2 := [(2, .int (x2 + (1 : Int32))), (0, .ref (g 0)), (1, .int x1)]) rfl ?_
      refine sa_goto C dX5_yearsGo_14 (tgt := 2) (by decide) ?_
      exact sa_sub [1, 2, 0] rfl (ih h)
theorem cc5_yearsGo {D : va_G} {cA : ClassId} {g : Nat → Nat} {A : Nat → Prop} {z : sl_K} {l : Launch} {x1 : Int32} {M : sl_M} {r : sl_M} (h : f5_yearsGo x1 M = some r) : sl_N sl_cl LR D cA g A z l yX5_yearsGo cX5_yearsGo 3 none 2 42 [.ref (g 0), .int x1] M none r := by
  refine sl_N.of (by decide) (Nat.le_of_ble_eq_true rfl) rfl ?_
  intro p e s m args below meth c C
  replace C : sl_C RX5 cX5_yearsGo 3 none sl_cl LR D cA g A z p s m meth c := C
  have hR : 2 ≤ (({ frames := 2, cells := 0, slots := 0, locals := 42 } : Room)).frames ∧ 42 ≤ (({ frames := 2, cells := 0, slots := 0, locals := 42 } : Room)).locals := ⟨Nat.le_refl _, Nat.le_refl _⟩
  rw [f5_yearsGo] at h
  refine sa_iconst C dX5_yearsGo_0 ic_0 ?_
  refine sa_istore_n C dX5_yearsGo_1 rfl (by decide) (lv2 := [(2, .int (0 : Int32)), (0, .ref (g 0)), (1, .int x1)]) rfl ?_
  exact sa_sub [1, 2, 0] rfl (w5_yearsGo_2 C hR 400 h)
/-! X5 isTooFar -/
def f5_isTooFar (x1 : Int32) (M : sl_M) : Option Int32 := (sl_ld (M 1) 111 (0 : Int32)).bind fun v1 => (if (v1 + x1) ≤ (999 : Int32) then some (0 : Int32) else some (1 : Int32))
theorem cc5_isTooFar {D : va_G} {cA : ClassId} {g : Nat → Nat} {A : Nat → Prop} {z : sl_K} {l : Launch} {x1 : Int32} {M : sl_M} {r : Int32} (h : f5_isTooFar x1 M = some r) : sl_N sl_cl LR D cA g A z l yX5_isTooFar cX5_isTooFar 2 (some .boolean) 0 0 [.ref (g 0), .int x1] M (some (.int r)) M := by
  refine sl_N.of (by decide) (Nat.le_of_ble_eq_true rfl) rfl ?_
  intro p e s m args below meth c C
  replace C : sl_C RX5 cX5_isTooFar 2 (some .boolean) sl_cl LR D cA g A z p s m meth c := C
  have hR : 0 ≤ (({ frames := 0, cells := 0, slots := 0, locals := 0 } : Room)).frames ∧ 0 ≤ (({ frames := 0, cells := 0, slots := 0, locals := 0 } : Room)).locals := ⟨Nat.le_refl _, Nat.le_refl _⟩
  rw [f5_isTooFar] at h
  refine sa_aload_n C dX5_isTooFar_0 rfl 0 rfl ?_
  refine sa_getR C hh_X5 (k := 0) dX5_isTooFar_1 q_837 (by decide) lr_0 rfl ?_
  refine sa_iconst C dX5_isTooFar_4 ic_0 ?_
  obtain ⟨v1, ev1, h⟩ := sl_b h
  refine sa_iald C dX5_isTooFar_5 lr_1 ev1 ?_
  refine sa_iload_n C dX5_isTooFar_6 rfl 1 rfl ?_
  refine sa_iadd C dX5_isTooFar_7 ?_
  refine sa_sipush C dX5_isTooFar_8 sp_999 ?_
  refine sa_icmp_le C dX5_isTooFar_11 (tgt := 18) (by decide) (fun c2 => ?_) (fun c2 => ?_)
  · replace h := sl_t c2 h
    refine sa_iconst C dX5_isTooFar_18 ic_0 ?_
    exact sa_zret C dX5_isTooFar_19 (Or.inl rfl) (Option.some.inj h) rfl
  · replace h := sl_n c2 h
    refine sa_iconst C dX5_isTooFar_14 ic_1 ?_
    refine sa_goto C dX5_isTooFar_15 (tgt := 19) (by decide) ?_
    exact sa_zret C dX5_isTooFar_19 (Or.inr rfl) (Option.some.inj h) rfl
/-! X5 shade -/
def f5_shade_99 (k53 : Int32 → Int32 → Int32 → sl_M → Option (Int32 × sl_M)) (x1 : Int32) (x2 : Int32) (x3 : Int32) (x6 : Int32) (x7 : Int32) (M : sl_M) : Option (Int32 × sl_M) := k53 x6 x7 (x6 + (1 : Int32)) M
def f5_shade_53 (x1 : Int32) (x2 : Int32) (x3 : Int32) : Nat → Int32 → Int32 → Int32 → sl_M → Option (Int32 × sl_M)
  | 0, _, _, _, _ => none
  | n + 1, x4, x5, x6, M => (if (24 : Int32) ≤ x6 then some (x4, M) else (f5_puts M).bind fun r2 => (f5_sets x6 x2 r2).bind fun r3 => (f5_yearsGo x3 r3).bind fun r4 => (f5_taxOf x1 r4).bind fun r5 => (f5_putsBack r4).bind fun r6 => (if x4 < 0 then f5_shade_99 (f5_shade_53 x1 x2 x3 n) x1 x2 x3 x6 r5 r6 else (if x5 ≤ r5 then f5_shade_53 x1 x2 x3 n x4 x5 (x6 + (1 : Int32)) r6 else f5_shade_99 (f5_shade_53 x1 x2 x3 n) x1 x2 x3 x6 r5 r6)))
def f5_shade (x1 : Int32) (x2 : Int32) (x3 : Int32) (M : sl_M) : Option (Int32 × sl_M) := (f5_isHouse x1 M).bind fun r1 => (if r1 = 0 then (f5_finds (-1000001 : Int32) M).bind fun r3 => some (r3.1, r3.2) else (if (f5_isKind x2) = 0 then (f5_finds (-1000001 : Int32) M).bind fun r5 => some (r5.1, r5.2) else (if (f5_isAhead x3) = 0 then (f5_finds (-1000001 : Int32) M).bind fun r10 => some (r10.1, r10.2) else (f5_isTooFar x3 M).bind fun r7 => (if r7 = 0 then f5_shade_53 x1 x2 x3 400 (-1 : Int32) (0 : Int32) (0 : Int32) M else (f5_finds (-1000005 : Int32) M).bind fun r9 => some (r9.1, r9.2)))))
theorem w5_shade_99 {D : va_G} {cA : ClassId} {g : Nat → Nat} {A : Nat → Prop} {z : sl_K} {l : Launch} {p : Program} {e : Env} {R : Room} {s : State} {m : MethodId} {args : Array Value} {below : List Frame} {meth : Method} {c : Code} (C : sl_C RX5 cX5_shade 8 (some .int) sl_cl LR D cA g A z p s m meth c) (hR : 7 ≤ R.frames ∧ 161 ≤ R.locals) {M : sl_M} {r : Int32 × sl_M} {x1 : Int32} {x2 : Int32} {x3 : Int32} {x6 : Int32} {x7 : Int32} {k53 : Int32 → Int32 → Int32 → sl_M → Option (Int32 × sl_M)} (hk53 : ∀ {x4 : Int32} {x5 : Int32} {x6 : Int32} {M : sl_M}, k53 x4 x5 x6 M = some r → sl_A sl_cl LR D cA g A p l e R s m args below meth c (MQ below (sl_Q sl_cl LR D cA g A (some (.int r.1)) r.2) args s 0 0 A) 8 53 [(0, .ref (g 0)), (1, .int x1), (2, .int x2), (3, .int x3), (4, .int x4), (5, .int x5), (6, .int x6)] [] M) (h : f5_shade_99 k53 x1 x2 x3 x6 x7 M = some r) : sl_A sl_cl LR D cA g A p l e R s m args below meth c (MQ below (sl_Q sl_cl LR D cA g A (some (.int r.1)) r.2) args s 0 0 A) 8 99 [(0, .ref (g 0)), (1, .int x1), (2, .int x2), (3, .int x3), (6, .int x6), (7, .int x7)] [] M := by
  rw [f5_shade_99] at h
  refine sa_iload C dX5_shade_99 4 rfl ?_
  refine sa_istore C dX5_shade_101 (by decide) (lv2 := [(4, .int x6), (0, .ref (g 0)), (1, .int x1), (2, .int x2), (3, .int x3), (6, .int x6), (7, .int x7)]) rfl ?_
  refine sa_iload C dX5_shade_103 6 rfl ?_
  refine sa_istore C dX5_shade_105 (by decide) (lv2 := [(5, .int x7), (4, .int x6), (0, .ref (g 0)), (1, .int x1), (2, .int x2), (3, .int x3), (6, .int x6), (7, .int x7)]) rfl ?_
  refine sa_iinc C dX5_shade_107 6 rfl (v := (x6 + (1 : Int32))) (by rw [ic_1]) (by decide) (lv2 := [(6, .int (x6 + (1 : Int32))), (5, .int x7), (4, .int x6), (0, .ref (g 0)), (1, .int x1), (2, .int x2), (3, .int x3), (7, .int x7)]) rfl ?_
  refine sa_goto C dX5_shade_110 (tgt := 53) (by decide) ?_
  exact sa_sub [3, 4, 5, 6, 2, 1, 0] rfl (hk53 h)
theorem w5_shade_53 {D : va_G} {cA : ClassId} {g : Nat → Nat} {A : Nat → Prop} {z : sl_K} {l : Launch} {p : Program} {e : Env} {R : Room} {s : State} {m : MethodId} {args : Array Value} {below : List Frame} {meth : Method} {c : Code} (C : sl_C RX5 cX5_shade 8 (some .int) sl_cl LR D cA g A z p s m meth c) (hR : 7 ≤ R.frames ∧ 161 ≤ R.locals) {r : Int32 × sl_M} {x1 : Int32} {x2 : Int32} {x3 : Int32} : ∀ (n : Nat) {x4 : Int32} {x5 : Int32} {x6 : Int32} {M : sl_M}, f5_shade_53 x1 x2 x3 n x4 x5 x6 M = some r → sl_A sl_cl LR D cA g A p l e R s m args below meth c (MQ below (sl_Q sl_cl LR D cA g A (some (.int r.1)) r.2) args s 0 0 A) 8 53 [(0, .ref (g 0)), (1, .int x1), (2, .int x2), (3, .int x3), (4, .int x4), (5, .int x5), (6, .int x6)] [] M := by
  intro n
  induction n with
  | zero =>
    intro x4 x5 x6 M h
    exact absurd h.symm (Option.some_ne_none _)
  | succ n ih =>
    intro x4 x5 x6 M h
    rw [f5_shade_53] at h
    refine sa_iload C dX5_shade_53 6 rfl ?_
    refine sa_bipush C dX5_shade_55 bp_24 ?_
    refine sa_icmp_ge C dX5_shade_57 (tgt := 113) (by decide) (fun c1 => ?_) (fun c1 => ?_)
    · replace h := sl_t c1 h
      refine sa_iload C dX5_shade_113 4 rfl ?_
      exact sa_iret C dX5_shade_115 (sl_p1 h) (sl_p2 h)
    · replace h := sl_n c1 h
      refine sa_aload_n C dX5_shade_60 rfl 0 rfl ?_
      obtain ⟨r2, er2, h⟩ := sl_b h
      refine sa_invVv C yy_X5_puts ⟨q_1115, q_75⟩ q_1113 dX5_shade_61 (As := []) (rest := []) rfl ⟨Nat.le_trans (Nat.le_of_ble_eq_true rfl) hR.1, Nat.le_trans (Nat.le_of_ble_eq_true rfl) hR.2⟩ (Nat.le_of_ble_eq_true rfl) hh_X5 lr_0 (cc5_puts er2) rfl ?_
      refine sa_aload_n C dX5_shade_64 rfl 0 rfl ?_
      refine sa_iload C dX5_shade_65 6 rfl ?_
      refine sa_iload_n C dX5_shade_67 rfl 2 rfl ?_
      obtain ⟨r3, er3, h⟩ := sl_b h
      refine sa_invVv C yy_X5_sets ⟨q_929, q_56⟩ q_927 dX5_shade_68 (As := [.int x6, .int x2]) (rest := []) rfl ⟨Nat.le_trans (Nat.le_of_ble_eq_true rfl) hR.1, Nat.le_trans (Nat.le_of_ble_eq_true rfl) hR.2⟩ (Nat.le_of_ble_eq_true rfl) hh_X5 lr_0 (cc5_sets er3) rfl ?_
      refine sa_aload_n C dX5_shade_71 rfl 0 rfl ?_
      refine sa_iload_n C dX5_shade_72 rfl 3 rfl ?_
      obtain ⟨r4, er4, h⟩ := sl_b h
      refine sa_invVv C yy_X5_yearsGo ⟨q_1119, q_76⟩ q_1117 dX5_shade_73 (As := [.int x3]) (rest := []) rfl ⟨Nat.le_trans (Nat.le_of_ble_eq_true rfl) hR.1, Nat.le_trans (Nat.le_of_ble_eq_true rfl) hR.2⟩ (Nat.le_of_ble_eq_true rfl) hh_X5 lr_0 (cc5_yearsGo er4) rfl ?_
      refine sa_aload_n C dX5_shade_76 rfl 0 rfl ?_
      refine sa_iload_n C dX5_shade_77 rfl 1 rfl ?_
      obtain ⟨r5, er5, h⟩ := sl_b h
      refine sa_invVi C yy_X5_taxOf ⟨q_1064, q_71⟩ q_1062 dX5_shade_78 (As := [.int x1]) (rest := []) rfl ⟨Nat.le_trans (Nat.le_of_ble_eq_true rfl) hR.1, Nat.le_trans (Nat.le_of_ble_eq_true rfl) hR.2⟩ (Nat.le_of_ble_eq_true rfl) hh_X5 lr_0 (cc5_taxOf er5) rfl ?_
      refine sa_istore C dX5_shade_81 (by decide) (lv2 := [(7, .int r5), (0, .ref (g 0)), (1, .int x1), (2, .int x2), (3, .int x3), (4, .int x4), (5, .int x5), (6, .int x6)]) rfl ?_
      refine sa_aload_n C dX5_shade_83 rfl 1 rfl ?_
      obtain ⟨r6, er6, h⟩ := sl_b h
      refine sa_invVv C yy_X5_putsBack ⟨q_1127, q_78⟩ q_1125 dX5_shade_84 (As := []) (rest := []) rfl ⟨Nat.le_trans (Nat.le_of_ble_eq_true rfl) hR.1, Nat.le_trans (Nat.le_of_ble_eq_true rfl) hR.2⟩ (Nat.le_of_ble_eq_true rfl) hh_X5 lr_0 (cc5_putsBack er6) rfl ?_
      refine sa_iload C dX5_shade_87 5 rfl ?_
      refine sa_if_lt C dX5_shade_89 (tgt := 99) (by decide) (fun c7 => ?_) (fun c7 => ?_)
      · replace h := sl_t c7 h
        exact sa_sub [1, 2, 3, 4, 7, 0] rfl (w5_shade_99 C hR (fun h => ih h) h)
      · replace h := sl_n c7 h
        refine sa_iload C dX5_shade_92 0 rfl ?_
        refine sa_iload C dX5_shade_94 6 rfl ?_
        refine sa_icmp_ge C dX5_shade_96 (tgt := 107) (by decide) (fun c8 => ?_) (fun c8 => ?_)
        · replace h := sl_t c8 h
          refine sa_iinc C dX5_shade_107 7 rfl (v := (x6 + (1 : Int32))) (by rw [ic_1]) (by decide) (lv2 := [(6, .int (x6 + (1 : Int32))), (7, .int r5), (0, .ref (g 0)), (1, .int x1), (2, .int x2), (3, .int x3), (4, .int x4), (5, .int x5)]) rfl ?_
          refine sa_goto C dX5_shade_110 (tgt := 53) (by decide) ?_
          exact sa_sub [2, 3, 4, 5, 6, 7, 0] rfl (ih h)
        · replace h := sl_n c8 h
          exact sa_sub [1, 2, 3, 4, 7, 0] rfl (w5_shade_99 C hR (fun h => ih h) h)
theorem cc5_shade {D : va_G} {cA : ClassId} {g : Nat → Nat} {A : Nat → Prop} {z : sl_K} {l : Launch} {x1 : Int32} {x2 : Int32} {x3 : Int32} {M : sl_M} {r : Int32 × sl_M} (h : f5_shade x1 x2 x3 M = some r) : sl_N sl_cl LR D cA g A z l yX5_shade cX5_shade 8 (some .int) 7 161 [.ref (g 0), .int x1, .int x2, .int x3] M (some (.int r.1)) r.2 := by
  refine sl_N.of (by decide) (Nat.le_of_ble_eq_true rfl) rfl ?_
  intro p e s m args below meth c C
  replace C : sl_C RX5 cX5_shade 8 (some .int) sl_cl LR D cA g A z p s m meth c := C
  have hR : 7 ≤ (({ frames := 7, cells := 0, slots := 0, locals := 161 } : Room)).frames ∧ 161 ≤ (({ frames := 7, cells := 0, slots := 0, locals := 161 } : Room)).locals := ⟨Nat.le_refl _, Nat.le_refl _⟩
  rw [f5_shade] at h
  refine sa_aload_n C dX5_shade_0 rfl 0 rfl ?_
  refine sa_iload_n C dX5_shade_1 rfl 1 rfl ?_
  obtain ⟨r1, er1, h⟩ := sl_b h
  refine sa_invVi C yy_X5_isHouse ⟨q_971, q_62⟩ q_969 dX5_shade_2 (As := [.int x1]) (rest := []) rfl ⟨Nat.le_trans (Nat.le_of_ble_eq_true rfl) hR.1, Nat.le_trans (Nat.le_of_ble_eq_true rfl) hR.2⟩ (Nat.le_of_ble_eq_true rfl) hh_X5 lr_0 (cc5_isHouse er1) rfl ?_
  refine sa_if_eq C dX5_shade_5 (tgt := 22) (by decide) (fun c2 => ?_) (fun c2 => ?_)
  · replace h := sl_t c2 h
    refine sa_aload_n C dX5_shade_22 rfl 0 rfl ?_
    refine sa_ldc C dX5_shade_23 q_910 ?_
    obtain ⟨r3, er3, h⟩ := sl_b h
    refine sa_invVi C yy_X5_finds ⟨q_913, q_54⟩ q_911 dX5_shade_25 (As := [.int (-1000001 : Int32)]) (rest := []) rfl ⟨Nat.le_trans (Nat.le_of_ble_eq_true rfl) hR.1, Nat.le_trans (Nat.le_of_ble_eq_true rfl) hR.2⟩ (Nat.le_of_ble_eq_true rfl) hh_X5 lr_0 (cc5_finds er3) rfl ?_
    exact sa_iret C dX5_shade_28 (sl_p1 h) (sl_p2 h)
  · replace h := sl_n c2 h
    refine sa_iload_n C dX5_shade_8 rfl 2 rfl ?_
    refine sa_invSi C yy_X5_isKind q_920 q_919 dX5_shade_9 (As := [.int x2]) (rest := []) rfl ⟨Nat.le_trans (Nat.le_of_ble_eq_true rfl) hR.1, Nat.le_trans (Nat.le_of_ble_eq_true rfl) hR.2⟩ (Nat.le_of_ble_eq_true rfl) (cc5_isKind rfl) rfl ?_
    refine sa_if_eq C dX5_shade_12 (tgt := 22) (by decide) (fun c4 => ?_) (fun c4 => ?_)
    · replace h := sl_t c4 h
      refine sa_aload_n C dX5_shade_22 rfl 0 rfl ?_
      refine sa_ldc C dX5_shade_23 q_910 ?_
      obtain ⟨r5, er5, h⟩ := sl_b h
      refine sa_invVi C yy_X5_finds ⟨q_913, q_54⟩ q_911 dX5_shade_25 (As := [.int (-1000001 : Int32)]) (rest := []) rfl ⟨Nat.le_trans (Nat.le_of_ble_eq_true rfl) hR.1, Nat.le_trans (Nat.le_of_ble_eq_true rfl) hR.2⟩ (Nat.le_of_ble_eq_true rfl) hh_X5 lr_0 (cc5_finds er5) rfl ?_
      exact sa_iret C dX5_shade_28 (sl_p1 h) (sl_p2 h)
    · replace h := sl_n c4 h
      refine sa_iload_n C dX5_shade_15 rfl 3 rfl ?_
      refine sa_invSi C yy_X5_isAhead q_1106 q_1105 dX5_shade_16 (As := [.int x3]) (rest := []) rfl ⟨Nat.le_trans (Nat.le_of_ble_eq_true rfl) hR.1, Nat.le_trans (Nat.le_of_ble_eq_true rfl) hR.2⟩ (Nat.le_of_ble_eq_true rfl) (cc5_isAhead rfl) rfl ?_
      refine sa_if_ne C dX5_shade_19 (tgt := 29) (by decide) (fun c6 => ?_) (fun c6 => ?_)
      · replace h := sl_n c6 h
        refine sa_aload_n C dX5_shade_29 rfl 0 rfl ?_
        refine sa_iload_n C dX5_shade_30 rfl 3 rfl ?_
        obtain ⟨r7, er7, h⟩ := sl_b h
        refine sa_invVi C yy_X5_isTooFar ⟨q_1111, q_74⟩ q_1109 dX5_shade_31 (As := [.int x3]) (rest := []) rfl ⟨Nat.le_trans (Nat.le_of_ble_eq_true rfl) hR.1, Nat.le_trans (Nat.le_of_ble_eq_true rfl) hR.2⟩ (Nat.le_of_ble_eq_true rfl) hh_X5 lr_0 (cc5_isTooFar er7) rfl ?_
        refine sa_if_eq C dX5_shade_34 (tgt := 44) (by decide) (fun c8 => ?_) (fun c8 => ?_)
        · replace h := sl_t c8 h
          refine sa_iconst C dX5_shade_44 ic_m1 ?_
          refine sa_istore C dX5_shade_45 (by decide) (lv2 := [(4, .int (-1 : Int32)), (0, .ref (g 0)), (1, .int x1), (2, .int x2), (3, .int x3)]) rfl ?_
          refine sa_iconst C dX5_shade_47 ic_0 ?_
          refine sa_istore C dX5_shade_48 (by decide) (lv2 := [(5, .int (0 : Int32)), (4, .int (-1 : Int32)), (0, .ref (g 0)), (1, .int x1), (2, .int x2), (3, .int x3)]) rfl ?_
          refine sa_iconst C dX5_shade_50 ic_0 ?_
          refine sa_istore C dX5_shade_51 (by decide) (lv2 := [(6, .int (0 : Int32)), (5, .int (0 : Int32)), (4, .int (-1 : Int32)), (0, .ref (g 0)), (1, .int x1), (2, .int x2), (3, .int x3)]) rfl ?_
          exact sa_sub [3, 4, 5, 6, 2, 1, 0] rfl (w5_shade_53 C hR 400 h)
        · replace h := sl_n c8 h
          refine sa_aload_n C dX5_shade_37 rfl 0 rfl ?_
          refine sa_ldc C dX5_shade_38 q_1056 ?_
          obtain ⟨r9, er9, h⟩ := sl_b h
          refine sa_invVi C yy_X5_finds ⟨q_913, q_54⟩ q_911 dX5_shade_40 (As := [.int (-1000005 : Int32)]) (rest := []) rfl ⟨Nat.le_trans (Nat.le_of_ble_eq_true rfl) hR.1, Nat.le_trans (Nat.le_of_ble_eq_true rfl) hR.2⟩ (Nat.le_of_ble_eq_true rfl) hh_X5 lr_0 (cc5_finds er9) rfl ?_
          exact sa_iret C dX5_shade_43 (sl_p1 h) (sl_p2 h)
      · replace h := sl_t c6 h
        refine sa_aload_n C dX5_shade_22 rfl 0 rfl ?_
        refine sa_ldc C dX5_shade_23 q_910 ?_
        obtain ⟨r10, er10, h⟩ := sl_b h
        refine sa_invVi C yy_X5_finds ⟨q_913, q_54⟩ q_911 dX5_shade_25 (As := [.int (-1000001 : Int32)]) (rest := []) rfl ⟨Nat.le_trans (Nat.le_of_ble_eq_true rfl) hR.1, Nat.le_trans (Nat.le_of_ble_eq_true rfl) hR.2⟩ (Nat.le_of_ble_eq_true rfl) hh_X5 lr_0 (cc5_finds er10) rfl ?_
        exact sa_iret C dX5_shade_28 (sl_p1 h) (sl_p2 h)
/-! X5 gains -/
def f5_gains_106 : Nat → Int32 → Int32 → sl_M → Option (Int32 × sl_M)
  | 0, _, _, _ => none
  | n + 1, x4, x5, M => (sl_ld (M 1) 111 (1 : Int32)).bind fun v1 => (if v1 ≤ x5 then (f5_putsBack M).bind fun r3 => some (x4, r3) else (f5_taxOf x5 M).bind fun r4 => (sl_ld (M 5) 8 x5).bind fun v5 => (if v5 ≤ r4 then f5_gains_106 n (x4 ||| (0 : Int32)) (x5 + (1 : Int32)) M else f5_gains_106 n (x4 ||| ((1 : Int32) <<< (x5 &&& 31))) (x5 + (1 : Int32)) M))
def f5_gains_55 (x1 : Int32) (x2 : Int32) (x3 : Int32) : Nat → Int32 → sl_M → Option (Int32 × sl_M)
  | 0, _, _ => none
  | n + 1, x4, M => (sl_ld (M 1) 111 (1 : Int32)).bind fun v1 => (if v1 ≤ x4 then (f5_putsBack M).bind fun r3 => (f5_sets x1 x2 r3).bind fun r4 => (f5_yearsGo x3 r4).bind fun r5 => f5_gains_106 400 (0 : Int32) (0 : Int32) r5 else (f5_taxOf x4 M).bind fun r6 => (sl_st M 5 8 x4 r6).bind fun M7 => f5_gains_55 x1 x2 x3 n (x4 + (1 : Int32)) M7)
def f5_gains (x1 : Int32) (x2 : Int32) (x3 : Int32) (M : sl_M) : Option (Int32 × sl_M) := (if (f5_isCell x1) = 0 then (f5_finds (-1000001 : Int32) M).bind fun r2 => some (r2.1, r2.2) else (if (f5_isKind x2) = 0 then (f5_finds (-1000001 : Int32) M).bind fun r4 => some (r4.1, r4.2) else (if (f5_isAhead x3) = 0 then (f5_finds (-1000001 : Int32) M).bind fun r11 => some (r11.1, r11.2) else (f5_isTooFar x3 M).bind fun r6 => (if r6 = 0 then (f5_puts M).bind fun r8 => (f5_yearsGo x3 r8).bind fun r9 => f5_gains_55 x1 x2 x3 400 (0 : Int32) r9 else (f5_finds (-1000005 : Int32) M).bind fun r10 => some (r10.1, r10.2)))))
theorem w5_gains_106 {D : va_G} {cA : ClassId} {g : Nat → Nat} {A : Nat → Prop} {z : sl_K} {l : Launch} {p : Program} {e : Env} {R : Room} {s : State} {m : MethodId} {args : Array Value} {below : List Frame} {meth : Method} {c : Code} (C : sl_C RX5 cX5_gains 6 (some .int) sl_cl LR D cA g A z p s m meth c) (hR : 7 ≤ R.frames ∧ 161 ≤ R.locals) {r : Int32 × sl_M} : ∀ (n : Nat) {x4 : Int32} {x5 : Int32} {M : sl_M}, f5_gains_106 n x4 x5 M = some r → sl_A sl_cl LR D cA g A p l e R s m args below meth c (MQ below (sl_Q sl_cl LR D cA g A (some (.int r.1)) r.2) args s 0 0 A) 6 106 [(0, .ref (g 0)), (4, .int x4), (5, .int x5)] [] M := by
  intro n
  induction n with
  | zero =>
    intro x4 x5 M h
    exact absurd h.symm (Option.some_ne_none _)
  | succ n ih =>
    intro x4 x5 M h
    rw [f5_gains_106] at h
    refine sa_iload C dX5_gains_106 2 rfl ?_
    refine sa_aload_n C dX5_gains_108 rfl 0 rfl ?_
    refine sa_getR C hh_X5 (k := 0) dX5_gains_109 q_837 (by decide) lr_0 rfl ?_
    refine sa_iconst C dX5_gains_112 ic_1 ?_
    obtain ⟨v1, ev1, h⟩ := sl_b h
    refine sa_iald C dX5_gains_113 lr_1 ev1 ?_
    refine sa_icmp_ge C dX5_gains_114 (tgt := 152) (by decide) (fun c2 => ?_) (fun c2 => ?_)
    · replace h := sl_t c2 h
      refine sa_aload_n C dX5_gains_152 rfl 0 rfl ?_
      obtain ⟨r3, er3, h⟩ := sl_b h
      refine sa_invVv C yy_X5_putsBack ⟨q_1127, q_78⟩ q_1125 dX5_gains_153 (As := []) (rest := []) rfl ⟨Nat.le_trans (Nat.le_of_ble_eq_true rfl) hR.1, Nat.le_trans (Nat.le_of_ble_eq_true rfl) hR.2⟩ (Nat.le_of_ble_eq_true rfl) hh_X5 lr_0 (cc5_putsBack er3) rfl ?_
      refine sa_iload C dX5_gains_156 1 rfl ?_
      exact sa_iret C dX5_gains_158 (sl_p1 h) (sl_p2 h)
    · replace h := sl_n c2 h
      refine sa_iload C dX5_gains_117 1 rfl ?_
      refine sa_aload_n C dX5_gains_119 rfl 0 rfl ?_
      refine sa_iload C dX5_gains_120 2 rfl ?_
      obtain ⟨r4, er4, h⟩ := sl_b h
      refine sa_invVi C yy_X5_taxOf ⟨q_1064, q_71⟩ q_1062 dX5_gains_122 (As := [.int x5]) (rest := [.int x4]) rfl ⟨Nat.le_trans (Nat.le_of_ble_eq_true rfl) hR.1, Nat.le_trans (Nat.le_of_ble_eq_true rfl) hR.2⟩ (Nat.le_of_ble_eq_true rfl) hh_X5 lr_0 (cc5_taxOf er4) rfl ?_
      refine sa_aload_n C dX5_gains_125 rfl 0 rfl ?_
      refine sa_getR C hh_X5 (k := 5) dX5_gains_126 q_842 (by decide) lr_0 rfl ?_
      refine sa_iload C dX5_gains_129 2 rfl ?_
      obtain ⟨v5, ev5, h⟩ := sl_b h
      refine sa_iald C dX5_gains_131 lr_5 ev5 ?_
      refine sa_icmp_ge C dX5_gains_132 (tgt := 142) (by decide) (fun c6 => ?_) (fun c6 => ?_)
      · replace h := sl_t c6 h
        refine sa_iconst C dX5_gains_142 ic_0 ?_
        refine sa_ior C dX5_gains_143 ?_
        refine sa_istore C dX5_gains_144 (by decide) (lv2 := [(4, .int (x4 ||| (0 : Int32))), (0, .ref (g 0)), (5, .int x5)]) rfl ?_
        refine sa_iinc C dX5_gains_146 2 rfl (v := (x5 + (1 : Int32))) (by rw [ic_1]) (by decide) (lv2 := [(5, .int (x5 + (1 : Int32))), (4, .int (x4 ||| (0 : Int32))), (0, .ref (g 0))]) rfl ?_
        refine sa_goto C dX5_gains_149 (tgt := 106) (by decide) ?_
        exact sa_sub [2, 1, 0] rfl (ih h)
      · replace h := sl_n c6 h
        refine sa_iconst C dX5_gains_135 ic_1 ?_
        refine sa_iload C dX5_gains_136 2 rfl ?_
        refine sa_ishl C dX5_gains_138 ?_
        refine sa_goto C dX5_gains_139 (tgt := 143) (by decide) ?_
        refine sa_ior C dX5_gains_143 ?_
        refine sa_istore C dX5_gains_144 (by decide) (lv2 := [(4, .int (x4 ||| ((1 : Int32) <<< (x5 &&& 31)))), (0, .ref (g 0)), (5, .int x5)]) rfl ?_
        refine sa_iinc C dX5_gains_146 2 rfl (v := (x5 + (1 : Int32))) (by rw [ic_1]) (by decide) (lv2 := [(5, .int (x5 + (1 : Int32))), (4, .int (x4 ||| ((1 : Int32) <<< (x5 &&& 31)))), (0, .ref (g 0))]) rfl ?_
        refine sa_goto C dX5_gains_149 (tgt := 106) (by decide) ?_
        exact sa_sub [2, 1, 0] rfl (ih h)
theorem w5_gains_55 {D : va_G} {cA : ClassId} {g : Nat → Nat} {A : Nat → Prop} {z : sl_K} {l : Launch} {p : Program} {e : Env} {R : Room} {s : State} {m : MethodId} {args : Array Value} {below : List Frame} {meth : Method} {c : Code} (C : sl_C RX5 cX5_gains 6 (some .int) sl_cl LR D cA g A z p s m meth c) (hR : 7 ≤ R.frames ∧ 161 ≤ R.locals) {r : Int32 × sl_M} {x1 : Int32} {x2 : Int32} {x3 : Int32} : ∀ (n : Nat) {x4 : Int32} {M : sl_M}, f5_gains_55 x1 x2 x3 n x4 M = some r → sl_A sl_cl LR D cA g A p l e R s m args below meth c (MQ below (sl_Q sl_cl LR D cA g A (some (.int r.1)) r.2) args s 0 0 A) 6 55 [(0, .ref (g 0)), (1, .int x1), (2, .int x2), (3, .int x3), (4, .int x4)] [] M := by
  intro n
  induction n with
  | zero =>
    intro x4 M h
    exact absurd h.symm (Option.some_ne_none _)
  | succ n ih =>
    intro x4 M h
    rw [f5_gains_55] at h
    refine sa_iload C dX5_gains_55 4 rfl ?_
    refine sa_aload_n C dX5_gains_57 rfl 0 rfl ?_
    refine sa_getR C hh_X5 (k := 0) dX5_gains_58 q_837 (by decide) lr_0 rfl ?_
    refine sa_iconst C dX5_gains_61 ic_1 ?_
    obtain ⟨v1, ev1, h⟩ := sl_b h
    refine sa_iald C dX5_gains_62 lr_1 ev1 ?_
    refine sa_icmp_ge C dX5_gains_63 (tgt := 85) (by decide) (fun c2 => ?_) (fun c2 => ?_)
    · replace h := sl_t c2 h
      refine sa_aload_n C dX5_gains_85 rfl 0 rfl ?_
      obtain ⟨r3, er3, h⟩ := sl_b h
      refine sa_invVv C yy_X5_putsBack ⟨q_1127, q_78⟩ q_1125 dX5_gains_86 (As := []) (rest := []) rfl ⟨Nat.le_trans (Nat.le_of_ble_eq_true rfl) hR.1, Nat.le_trans (Nat.le_of_ble_eq_true rfl) hR.2⟩ (Nat.le_of_ble_eq_true rfl) hh_X5 lr_0 (cc5_putsBack er3) rfl ?_
      refine sa_aload_n C dX5_gains_89 rfl 0 rfl ?_
      refine sa_iload_n C dX5_gains_90 rfl 1 rfl ?_
      refine sa_iload_n C dX5_gains_91 rfl 2 rfl ?_
      obtain ⟨r4, er4, h⟩ := sl_b h
      refine sa_invVv C yy_X5_sets ⟨q_929, q_56⟩ q_927 dX5_gains_92 (As := [.int x1, .int x2]) (rest := []) rfl ⟨Nat.le_trans (Nat.le_of_ble_eq_true rfl) hR.1, Nat.le_trans (Nat.le_of_ble_eq_true rfl) hR.2⟩ (Nat.le_of_ble_eq_true rfl) hh_X5 lr_0 (cc5_sets er4) rfl ?_
      refine sa_aload_n C dX5_gains_95 rfl 0 rfl ?_
      refine sa_iload_n C dX5_gains_96 rfl 3 rfl ?_
      obtain ⟨r5, er5, h⟩ := sl_b h
      refine sa_invVv C yy_X5_yearsGo ⟨q_1119, q_76⟩ q_1117 dX5_gains_97 (As := [.int x3]) (rest := []) rfl ⟨Nat.le_trans (Nat.le_of_ble_eq_true rfl) hR.1, Nat.le_trans (Nat.le_of_ble_eq_true rfl) hR.2⟩ (Nat.le_of_ble_eq_true rfl) hh_X5 lr_0 (cc5_yearsGo er5) rfl ?_
      refine sa_iconst C dX5_gains_100 ic_0 ?_
      refine sa_istore C dX5_gains_101 (by decide) (lv2 := [(4, .int (0 : Int32)), (0, .ref (g 0)), (1, .int x1), (2, .int x2), (3, .int x3)]) rfl ?_
      refine sa_iconst C dX5_gains_103 ic_0 ?_
      refine sa_istore C dX5_gains_104 (by decide) (lv2 := [(5, .int (0 : Int32)), (4, .int (0 : Int32)), (0, .ref (g 0)), (1, .int x1), (2, .int x2), (3, .int x3)]) rfl ?_
      exact sa_sub [2, 1, 0] rfl (w5_gains_106 C hR 400 h)
    · replace h := sl_n c2 h
      refine sa_aload_n C dX5_gains_66 rfl 0 rfl ?_
      refine sa_getR C hh_X5 (k := 5) dX5_gains_67 q_842 (by decide) lr_0 rfl ?_
      refine sa_iload C dX5_gains_70 4 rfl ?_
      refine sa_aload_n C dX5_gains_72 rfl 0 rfl ?_
      refine sa_iload C dX5_gains_73 4 rfl ?_
      obtain ⟨r6, er6, h⟩ := sl_b h
      refine sa_invVi C yy_X5_taxOf ⟨q_1064, q_71⟩ q_1062 dX5_gains_75 (As := [.int x4]) (rest := [.int x4, .ref (g 5)]) rfl ⟨Nat.le_trans (Nat.le_of_ble_eq_true rfl) hR.1, Nat.le_trans (Nat.le_of_ble_eq_true rfl) hR.2⟩ (Nat.le_of_ble_eq_true rfl) hh_X5 lr_0 (cc5_taxOf er6) rfl ?_
      obtain ⟨M7, eM7, h⟩ := sl_b h
      refine sa_iast C dX5_gains_78 lr_5 eM7 ?_
      refine sa_iinc C dX5_gains_79 4 rfl (v := (x4 + (1 : Int32))) (by rw [ic_1]) (by decide) (lv2 := [(4, .int (x4 + (1 : Int32))), (0, .ref (g 0)), (1, .int x1), (2, .int x2), (3, .int x3)]) rfl ?_
      refine sa_goto C dX5_gains_82 (tgt := 55) (by decide) ?_
      exact sa_sub [1, 2, 3, 4, 0] rfl (ih h)
theorem cc5_gains {D : va_G} {cA : ClassId} {g : Nat → Nat} {A : Nat → Prop} {z : sl_K} {l : Launch} {x1 : Int32} {x2 : Int32} {x3 : Int32} {M : sl_M} {r : Int32 × sl_M} (h : f5_gains x1 x2 x3 M = some r) : sl_N sl_cl LR D cA g A z l yX5_gains cX5_gains 6 (some .int) 7 161 [.ref (g 0), .int x1, .int x2, .int x3] M (some (.int r.1)) r.2 := by
  refine sl_N.of (by decide) (Nat.le_of_ble_eq_true rfl) rfl ?_
  intro p e s m args below meth c C
  replace C : sl_C RX5 cX5_gains 6 (some .int) sl_cl LR D cA g A z p s m meth c := C
  have hR : 7 ≤ (({ frames := 7, cells := 0, slots := 0, locals := 161 } : Room)).frames ∧ 161 ≤ (({ frames := 7, cells := 0, slots := 0, locals := 161 } : Room)).locals := ⟨Nat.le_refl _, Nat.le_refl _⟩
  rw [f5_gains] at h
  refine sa_iload_n C dX5_gains_0 rfl 1 rfl ?_
  refine sa_invSi C yy_X5_isCell q_903 q_902 dX5_gains_1 (As := [.int x1]) (rest := []) rfl ⟨Nat.le_trans (Nat.le_of_ble_eq_true rfl) hR.1, Nat.le_trans (Nat.le_of_ble_eq_true rfl) hR.2⟩ (Nat.le_of_ble_eq_true rfl) (cc5_isCell rfl) rfl ?_
  refine sa_if_eq C dX5_gains_4 (tgt := 21) (by decide) (fun c1 => ?_) (fun c1 => ?_)
  · replace h := sl_t c1 h
    refine sa_aload_n C dX5_gains_21 rfl 0 rfl ?_
    refine sa_ldc C dX5_gains_22 q_910 ?_
    obtain ⟨r2, er2, h⟩ := sl_b h
    refine sa_invVi C yy_X5_finds ⟨q_913, q_54⟩ q_911 dX5_gains_24 (As := [.int (-1000001 : Int32)]) (rest := []) rfl ⟨Nat.le_trans (Nat.le_of_ble_eq_true rfl) hR.1, Nat.le_trans (Nat.le_of_ble_eq_true rfl) hR.2⟩ (Nat.le_of_ble_eq_true rfl) hh_X5 lr_0 (cc5_finds er2) rfl ?_
    exact sa_iret C dX5_gains_27 (sl_p1 h) (sl_p2 h)
  · replace h := sl_n c1 h
    refine sa_iload_n C dX5_gains_7 rfl 2 rfl ?_
    refine sa_invSi C yy_X5_isKind q_920 q_919 dX5_gains_8 (As := [.int x2]) (rest := []) rfl ⟨Nat.le_trans (Nat.le_of_ble_eq_true rfl) hR.1, Nat.le_trans (Nat.le_of_ble_eq_true rfl) hR.2⟩ (Nat.le_of_ble_eq_true rfl) (cc5_isKind rfl) rfl ?_
    refine sa_if_eq C dX5_gains_11 (tgt := 21) (by decide) (fun c3 => ?_) (fun c3 => ?_)
    · replace h := sl_t c3 h
      refine sa_aload_n C dX5_gains_21 rfl 0 rfl ?_
      refine sa_ldc C dX5_gains_22 q_910 ?_
      obtain ⟨r4, er4, h⟩ := sl_b h
      refine sa_invVi C yy_X5_finds ⟨q_913, q_54⟩ q_911 dX5_gains_24 (As := [.int (-1000001 : Int32)]) (rest := []) rfl ⟨Nat.le_trans (Nat.le_of_ble_eq_true rfl) hR.1, Nat.le_trans (Nat.le_of_ble_eq_true rfl) hR.2⟩ (Nat.le_of_ble_eq_true rfl) hh_X5 lr_0 (cc5_finds er4) rfl ?_
      exact sa_iret C dX5_gains_27 (sl_p1 h) (sl_p2 h)
    · replace h := sl_n c3 h
      refine sa_iload_n C dX5_gains_14 rfl 3 rfl ?_
      refine sa_invSi C yy_X5_isAhead q_1106 q_1105 dX5_gains_15 (As := [.int x3]) (rest := []) rfl ⟨Nat.le_trans (Nat.le_of_ble_eq_true rfl) hR.1, Nat.le_trans (Nat.le_of_ble_eq_true rfl) hR.2⟩ (Nat.le_of_ble_eq_true rfl) (cc5_isAhead rfl) rfl ?_
      refine sa_if_ne C dX5_gains_18 (tgt := 28) (by decide) (fun c5 => ?_) (fun c5 => ?_)
      · replace h := sl_n c5 h
        refine sa_aload_n C dX5_gains_28 rfl 0 rfl ?_
        refine sa_iload_n C dX5_gains_29 rfl 3 rfl ?_
        obtain ⟨r6, er6, h⟩ := sl_b h
        refine sa_invVi C yy_X5_isTooFar ⟨q_1111, q_74⟩ q_1109 dX5_gains_30 (As := [.int x3]) (rest := []) rfl ⟨Nat.le_trans (Nat.le_of_ble_eq_true rfl) hR.1, Nat.le_trans (Nat.le_of_ble_eq_true rfl) hR.2⟩ (Nat.le_of_ble_eq_true rfl) hh_X5 lr_0 (cc5_isTooFar er6) rfl ?_
        refine sa_if_eq C dX5_gains_33 (tgt := 43) (by decide) (fun c7 => ?_) (fun c7 => ?_)
        · replace h := sl_t c7 h
          refine sa_aload_n C dX5_gains_43 rfl 0 rfl ?_
          obtain ⟨r8, er8, h⟩ := sl_b h
          refine sa_invVv C yy_X5_puts ⟨q_1115, q_75⟩ q_1113 dX5_gains_44 (As := []) (rest := []) rfl ⟨Nat.le_trans (Nat.le_of_ble_eq_true rfl) hR.1, Nat.le_trans (Nat.le_of_ble_eq_true rfl) hR.2⟩ (Nat.le_of_ble_eq_true rfl) hh_X5 lr_0 (cc5_puts er8) rfl ?_
          refine sa_aload_n C dX5_gains_47 rfl 0 rfl ?_
          refine sa_iload_n C dX5_gains_48 rfl 3 rfl ?_
          obtain ⟨r9, er9, h⟩ := sl_b h
          refine sa_invVv C yy_X5_yearsGo ⟨q_1119, q_76⟩ q_1117 dX5_gains_49 (As := [.int x3]) (rest := []) rfl ⟨Nat.le_trans (Nat.le_of_ble_eq_true rfl) hR.1, Nat.le_trans (Nat.le_of_ble_eq_true rfl) hR.2⟩ (Nat.le_of_ble_eq_true rfl) hh_X5 lr_0 (cc5_yearsGo er9) rfl ?_
          refine sa_iconst C dX5_gains_52 ic_0 ?_
          refine sa_istore C dX5_gains_53 (by decide) (lv2 := [(4, .int (0 : Int32)), (0, .ref (g 0)), (1, .int x1), (2, .int x2), (3, .int x3)]) rfl ?_
          exact sa_sub [1, 2, 3, 4, 0] rfl (w5_gains_55 C hR 400 h)
        · replace h := sl_n c7 h
          refine sa_aload_n C dX5_gains_36 rfl 0 rfl ?_
          refine sa_ldc C dX5_gains_37 q_1056 ?_
          obtain ⟨r10, er10, h⟩ := sl_b h
          refine sa_invVi C yy_X5_finds ⟨q_913, q_54⟩ q_911 dX5_gains_39 (As := [.int (-1000005 : Int32)]) (rest := []) rfl ⟨Nat.le_trans (Nat.le_of_ble_eq_true rfl) hR.1, Nat.le_trans (Nat.le_of_ble_eq_true rfl) hR.2⟩ (Nat.le_of_ble_eq_true rfl) hh_X5 lr_0 (cc5_finds er10) rfl ?_
          exact sa_iret C dX5_gains_42 (sl_p1 h) (sl_p2 h)
      · replace h := sl_t c5 h
        refine sa_aload_n C dX5_gains_21 rfl 0 rfl ?_
        refine sa_ldc C dX5_gains_22 q_910 ?_
        obtain ⟨r11, er11, h⟩ := sl_b h
        refine sa_invVi C yy_X5_finds ⟨q_913, q_54⟩ q_911 dX5_gains_24 (As := [.int (-1000001 : Int32)]) (rest := []) rfl ⟨Nat.le_trans (Nat.le_of_ble_eq_true rfl) hR.1, Nat.le_trans (Nat.le_of_ble_eq_true rfl) hR.2⟩ (Nat.le_of_ble_eq_true rfl) hh_X5 lr_0 (cc5_finds er11) rfl ?_
        exact sa_iret C dX5_gains_27 (sl_p1 h) (sl_p2 h)
/-! X5 plant -/
def f5_plant_59 (k25 : Int32 → Int32 → Int32 → sl_M → Option (Int32 × sl_M)) (x1 : Int32) (x4 : Int32) (x5 : Int32) (M : sl_M) : Option (Int32 × sl_M) := k25 x4 x5 (x4 + (1 : Int32)) M
def f5_plant_25 (x1 : Int32) : Nat → Int32 → Int32 → Int32 → sl_M → Option (Int32 × sl_M)
  | 0, _, _, _, _ => none
  | n + 1, x2, x3, x4, M => (if (24 : Int32) ≤ x4 then some (x2, M) else (f5_sets x4 x1 M).bind fun r2 => (f5_allTax r2).bind fun r3 => (f5_putsBack r2).bind fun r4 => (if x2 < 0 then f5_plant_59 (f5_plant_25 x1 n) x1 x4 r3 r4 else (if r3 ≤ x3 then f5_plant_25 x1 n x2 x3 (x4 + (1 : Int32)) r4 else f5_plant_59 (f5_plant_25 x1 n) x1 x4 r3 r4)))
def f5_plant (x1 : Int32) (M : sl_M) : Option (Int32 × sl_M) := (if (f5_isKind x1) = 0 then (f5_finds (-1000001 : Int32) M).bind fun r3 => some (r3.1, r3.2) else (f5_puts M).bind fun r2 => f5_plant_25 x1 400 (-1 : Int32) (0 : Int32) (0 : Int32) r2)
theorem w5_plant_59 {D : va_G} {cA : ClassId} {g : Nat → Nat} {A : Nat → Prop} {z : sl_K} {l : Launch} {p : Program} {e : Env} {R : Room} {s : State} {m : MethodId} {args : Array Value} {below : List Frame} {meth : Method} {c : Code} (C : sl_C RX5 cX5_plant 6 (some .int) sl_cl LR D cA g A z p s m meth c) (hR : 8 ≤ R.frames ∧ 183 ≤ R.locals) {M : sl_M} {r : Int32 × sl_M} {x1 : Int32} {x4 : Int32} {x5 : Int32} {k25 : Int32 → Int32 → Int32 → sl_M → Option (Int32 × sl_M)} (hk25 : ∀ {x2 : Int32} {x3 : Int32} {x4 : Int32} {M : sl_M}, k25 x2 x3 x4 M = some r → sl_A sl_cl LR D cA g A p l e R s m args below meth c (MQ below (sl_Q sl_cl LR D cA g A (some (.int r.1)) r.2) args s 0 0 A) 6 25 [(0, .ref (g 0)), (1, .int x1), (2, .int x2), (3, .int x3), (4, .int x4)] [] M) (h : f5_plant_59 k25 x1 x4 x5 M = some r) : sl_A sl_cl LR D cA g A p l e R s m args below meth c (MQ below (sl_Q sl_cl LR D cA g A (some (.int r.1)) r.2) args s 0 0 A) 6 59 [(0, .ref (g 0)), (1, .int x1), (4, .int x4), (5, .int x5)] [] M := by
  rw [f5_plant_59] at h
  refine sa_iload C dX5_plant_59 2 rfl ?_
  refine sa_istore_n C dX5_plant_61 rfl (by decide) (lv2 := [(2, .int x4), (0, .ref (g 0)), (1, .int x1), (4, .int x4), (5, .int x5)]) rfl ?_
  refine sa_iload C dX5_plant_62 4 rfl ?_
  refine sa_istore_n C dX5_plant_64 rfl (by decide) (lv2 := [(3, .int x5), (2, .int x4), (0, .ref (g 0)), (1, .int x1), (4, .int x4), (5, .int x5)]) rfl ?_
  refine sa_iinc C dX5_plant_65 4 rfl (v := (x4 + (1 : Int32))) (by rw [ic_1]) (by decide) (lv2 := [(4, .int (x4 + (1 : Int32))), (3, .int x5), (2, .int x4), (0, .ref (g 0)), (1, .int x1), (5, .int x5)]) rfl ?_
  refine sa_goto C dX5_plant_68 (tgt := 25) (by decide) ?_
  exact sa_sub [3, 4, 2, 1, 0] rfl (hk25 h)
theorem w5_plant_25 {D : va_G} {cA : ClassId} {g : Nat → Nat} {A : Nat → Prop} {z : sl_K} {l : Launch} {p : Program} {e : Env} {R : Room} {s : State} {m : MethodId} {args : Array Value} {below : List Frame} {meth : Method} {c : Code} (C : sl_C RX5 cX5_plant 6 (some .int) sl_cl LR D cA g A z p s m meth c) (hR : 8 ≤ R.frames ∧ 183 ≤ R.locals) {r : Int32 × sl_M} {x1 : Int32} : ∀ (n : Nat) {x2 : Int32} {x3 : Int32} {x4 : Int32} {M : sl_M}, f5_plant_25 x1 n x2 x3 x4 M = some r → sl_A sl_cl LR D cA g A p l e R s m args below meth c (MQ below (sl_Q sl_cl LR D cA g A (some (.int r.1)) r.2) args s 0 0 A) 6 25 [(0, .ref (g 0)), (1, .int x1), (2, .int x2), (3, .int x3), (4, .int x4)] [] M := by
  intro n
  induction n with
  | zero =>
    intro x2 x3 x4 M h
    exact absurd h.symm (Option.some_ne_none _)
  | succ n ih =>
    intro x2 x3 x4 M h
    rw [f5_plant_25] at h
    refine sa_iload C dX5_plant_25 4 rfl ?_
    refine sa_bipush C dX5_plant_27 bp_24 ?_
    refine sa_icmp_ge C dX5_plant_29 (tgt := 71) (by decide) (fun c1 => ?_) (fun c1 => ?_)
    · replace h := sl_t c1 h
      refine sa_iload_n C dX5_plant_71 rfl 2 rfl ?_
      exact sa_iret C dX5_plant_72 (sl_p1 h) (sl_p2 h)
    · replace h := sl_n c1 h
      refine sa_aload_n C dX5_plant_32 rfl 0 rfl ?_
      refine sa_iload C dX5_plant_33 4 rfl ?_
      refine sa_iload_n C dX5_plant_35 rfl 1 rfl ?_
      obtain ⟨r2, er2, h⟩ := sl_b h
      refine sa_invVv C yy_X5_sets ⟨q_929, q_56⟩ q_927 dX5_plant_36 (As := [.int x4, .int x1]) (rest := []) rfl ⟨Nat.le_trans (Nat.le_of_ble_eq_true rfl) hR.1, Nat.le_trans (Nat.le_of_ble_eq_true rfl) hR.2⟩ (Nat.le_of_ble_eq_true rfl) hh_X5 lr_0 (cc5_sets er2) rfl ?_
      refine sa_aload_n C dX5_plant_39 rfl 0 rfl ?_
      obtain ⟨r3, er3, h⟩ := sl_b h
      refine sa_invVi C yy_X5_allTax ⟨q_1072, q_72⟩ q_1070 dX5_plant_40 (As := []) (rest := []) rfl ⟨Nat.le_trans (Nat.le_of_ble_eq_true rfl) hR.1, Nat.le_trans (Nat.le_of_ble_eq_true rfl) hR.2⟩ (Nat.le_of_ble_eq_true rfl) hh_X5 lr_0 (cc5_allTax er3) rfl ?_
      refine sa_istore C dX5_plant_43 (by decide) (lv2 := [(5, .int r3), (0, .ref (g 0)), (1, .int x1), (2, .int x2), (3, .int x3), (4, .int x4)]) rfl ?_
      refine sa_aload_n C dX5_plant_45 rfl 1 rfl ?_
      obtain ⟨r4, er4, h⟩ := sl_b h
      refine sa_invVv C yy_X5_putsBack ⟨q_1127, q_78⟩ q_1125 dX5_plant_46 (As := []) (rest := []) rfl ⟨Nat.le_trans (Nat.le_of_ble_eq_true rfl) hR.1, Nat.le_trans (Nat.le_of_ble_eq_true rfl) hR.2⟩ (Nat.le_of_ble_eq_true rfl) hh_X5 lr_0 (cc5_putsBack er4) rfl ?_
      refine sa_iload_n C dX5_plant_49 rfl 3 rfl ?_
      refine sa_if_lt C dX5_plant_50 (tgt := 59) (by decide) (fun c5 => ?_) (fun c5 => ?_)
      · replace h := sl_t c5 h
        exact sa_sub [1, 2, 5, 0] rfl (w5_plant_59 C hR (fun h => ih h) h)
      · replace h := sl_n c5 h
        refine sa_iload C dX5_plant_53 0 rfl ?_
        refine sa_iload_n C dX5_plant_55 rfl 4 rfl ?_
        refine sa_icmp_le C dX5_plant_56 (tgt := 65) (by decide) (fun c6 => ?_) (fun c6 => ?_)
        · replace h := sl_t c6 h
          refine sa_iinc C dX5_plant_65 5 rfl (v := (x4 + (1 : Int32))) (by rw [ic_1]) (by decide) (lv2 := [(4, .int (x4 + (1 : Int32))), (5, .int r3), (0, .ref (g 0)), (1, .int x1), (2, .int x2), (3, .int x3)]) rfl ?_
          refine sa_goto C dX5_plant_68 (tgt := 25) (by decide) ?_
          exact sa_sub [2, 3, 4, 5, 0] rfl (ih h)
        · replace h := sl_n c6 h
          exact sa_sub [1, 2, 5, 0] rfl (w5_plant_59 C hR (fun h => ih h) h)
theorem cc5_plant {D : va_G} {cA : ClassId} {g : Nat → Nat} {A : Nat → Prop} {z : sl_K} {l : Launch} {x1 : Int32} {M : sl_M} {r : Int32 × sl_M} (h : f5_plant x1 M = some r) : sl_N sl_cl LR D cA g A z l yX5_plant cX5_plant 6 (some .int) 8 183 [.ref (g 0), .int x1] M (some (.int r.1)) r.2 := by
  refine sl_N.of (by decide) (Nat.le_of_ble_eq_true rfl) rfl ?_
  intro p e s m args below meth c C
  replace C : sl_C RX5 cX5_plant 6 (some .int) sl_cl LR D cA g A z p s m meth c := C
  have hR : 8 ≤ (({ frames := 8, cells := 0, slots := 0, locals := 183 } : Room)).frames ∧ 183 ≤ (({ frames := 8, cells := 0, slots := 0, locals := 183 } : Room)).locals := ⟨Nat.le_refl _, Nat.le_refl _⟩
  rw [f5_plant] at h
  refine sa_iload_n C dX5_plant_0 rfl 1 rfl ?_
  refine sa_invSi C yy_X5_isKind q_920 q_919 dX5_plant_1 (As := [.int x1]) (rest := []) rfl ⟨Nat.le_trans (Nat.le_of_ble_eq_true rfl) hR.1, Nat.le_trans (Nat.le_of_ble_eq_true rfl) hR.2⟩ (Nat.le_of_ble_eq_true rfl) (cc5_isKind rfl) rfl ?_
  refine sa_if_ne C dX5_plant_4 (tgt := 14) (by decide) (fun c1 => ?_) (fun c1 => ?_)
  · replace h := sl_n c1 h
    refine sa_iconst C dX5_plant_14 ic_m1 ?_
    refine sa_istore_n C dX5_plant_15 rfl (by decide) (lv2 := [(2, .int (-1 : Int32)), (0, .ref (g 0)), (1, .int x1)]) rfl ?_
    refine sa_iconst C dX5_plant_16 ic_0 ?_
    refine sa_istore_n C dX5_plant_17 rfl (by decide) (lv2 := [(3, .int (0 : Int32)), (2, .int (-1 : Int32)), (0, .ref (g 0)), (1, .int x1)]) rfl ?_
    refine sa_aload_n C dX5_plant_18 rfl 2 rfl ?_
    obtain ⟨r2, er2, h⟩ := sl_b h
    refine sa_invVv C yy_X5_puts ⟨q_1115, q_75⟩ q_1113 dX5_plant_19 (As := []) (rest := []) rfl ⟨Nat.le_trans (Nat.le_of_ble_eq_true rfl) hR.1, Nat.le_trans (Nat.le_of_ble_eq_true rfl) hR.2⟩ (Nat.le_of_ble_eq_true rfl) hh_X5 lr_0 (cc5_puts er2) rfl ?_
    refine sa_iconst C dX5_plant_22 ic_0 ?_
    refine sa_istore C dX5_plant_23 (by decide) (lv2 := [(4, .int (0 : Int32)), (3, .int (0 : Int32)), (2, .int (-1 : Int32)), (0, .ref (g 0)), (1, .int x1)]) rfl ?_
    exact sa_sub [3, 4, 2, 1, 0] rfl (w5_plant_25 C hR 400 h)
  · replace h := sl_t c1 h
    refine sa_aload_n C dX5_plant_7 rfl 0 rfl ?_
    refine sa_ldc C dX5_plant_8 q_910 ?_
    obtain ⟨r3, er3, h⟩ := sl_b h
    refine sa_invVi C yy_X5_finds ⟨q_913, q_54⟩ q_911 dX5_plant_10 (As := [.int (-1000001 : Int32)]) (rest := []) rfl ⟨Nat.le_trans (Nat.le_of_ble_eq_true rfl) hR.1, Nat.le_trans (Nat.le_of_ble_eq_true rfl) hR.2⟩ (Nat.le_of_ble_eq_true rfl) hh_X5 lr_0 (cc5_finds er3) rfl ?_
    exact sa_iret C dX5_plant_13 (sl_p1 h) (sl_p2 h)
/-! X5 two -/
def f5_two_79 (k25 : Int32 → Int32 → Int32 → sl_M → Option (Int32 × sl_M)) (k38 : Int32 → Int32 → Int32 → sl_M → Option (Int32 × sl_M)) (x1 : Int32) (x4 : Int32) (x5 : Int32) (x6 : Int32) (M : sl_M) : Option (Int32 × sl_M) := k38 (((100 : Int32) * x4) + x5) x6 (x5 + (1 : Int32)) M
def f5_two_38 (k25 : Int32 → Int32 → Int32 → sl_M → Option (Int32 × sl_M)) (x1 : Int32) (x4 : Int32) : Nat → Int32 → Int32 → Int32 → sl_M → Option (Int32 × sl_M)
  | 0, _, _, _, _ => none
  | n + 1, x2, x3, x5, M => (if (24 : Int32) ≤ x5 then k25 x2 x3 (x4 + (1 : Int32)) M else (f5_sets x4 x1 M).bind fun r2 => (f5_sets x5 x1 r2).bind fun r3 => (f5_allTax r3).bind fun r4 => (f5_putsBack r3).bind fun r5 => (if x2 < 0 then f5_two_79 k25 (f5_two_38 k25 x1 x4 n) x1 x4 x5 r4 r5 else (if x3 ≤ r4 then f5_two_38 k25 x1 x4 n x2 x3 (x5 + (1 : Int32)) r5 else f5_two_79 k25 (f5_two_38 k25 x1 x4 n) x1 x4 x5 r4 r5)))
def f5_two_25 (x1 : Int32) : Nat → Int32 → Int32 → Int32 → sl_M → Option (Int32 × sl_M)
  | 0, _, _, _, _ => none
  | n + 1, x2, x3, x4, M => (if (24 : Int32) ≤ x4 then some (x2, M) else f5_two_38 (f5_two_25 x1 n) x1 x4 400 x2 x3 (x4 + (1 : Int32)) M)
def f5_two (x1 : Int32) (M : sl_M) : Option (Int32 × sl_M) := (if (f5_isKind x1) = 0 then (f5_finds (-1000001 : Int32) M).bind fun r3 => some (r3.1, r3.2) else (f5_puts M).bind fun r2 => f5_two_25 x1 400 (-1 : Int32) (0 : Int32) (0 : Int32) r2)
theorem w5_two_79 {D : va_G} {cA : ClassId} {g : Nat → Nat} {A : Nat → Prop} {z : sl_K} {l : Launch} {p : Program} {e : Env} {R : Room} {s : State} {m : MethodId} {args : Array Value} {below : List Frame} {meth : Method} {c : Code} (C : sl_C RX5 cX5_two 7 (some .int) sl_cl LR D cA g A z p s m meth c) (hR : 8 ≤ R.frames ∧ 183 ≤ R.locals) {M : sl_M} {r : Int32 × sl_M} {x1 : Int32} {x4 : Int32} {x5 : Int32} {x6 : Int32} {k25 : Int32 → Int32 → Int32 → sl_M → Option (Int32 × sl_M)} {k38 : Int32 → Int32 → Int32 → sl_M → Option (Int32 × sl_M)} (hk25 : ∀ {x2 : Int32} {x3 : Int32} {x4 : Int32} {M : sl_M}, k25 x2 x3 x4 M = some r → sl_A sl_cl LR D cA g A p l e R s m args below meth c (MQ below (sl_Q sl_cl LR D cA g A (some (.int r.1)) r.2) args s 0 0 A) 7 25 [(0, .ref (g 0)), (1, .int x1), (2, .int x2), (3, .int x3), (4, .int x4)] [] M) (hk38 : ∀ {x2 : Int32} {x3 : Int32} {x5 : Int32} {M : sl_M}, k38 x2 x3 x5 M = some r → sl_A sl_cl LR D cA g A p l e R s m args below meth c (MQ below (sl_Q sl_cl LR D cA g A (some (.int r.1)) r.2) args s 0 0 A) 7 38 [(0, .ref (g 0)), (1, .int x1), (2, .int x2), (3, .int x3), (4, .int x4), (5, .int x5)] [] M) (h : f5_two_79 k25 k38 x1 x4 x5 x6 M = some r) : sl_A sl_cl LR D cA g A p l e R s m args below meth c (MQ below (sl_Q sl_cl LR D cA g A (some (.int r.1)) r.2) args s 0 0 A) 7 79 [(0, .ref (g 0)), (1, .int x1), (4, .int x4), (5, .int x5), (6, .int x6)] [] M := by
  rw [f5_two_79] at h
  refine sa_bipush C dX5_two_79 bp_100 ?_
  refine sa_iload C dX5_two_81 2 rfl ?_
  refine sa_imul C dX5_two_83 ?_
  refine sa_iload C dX5_two_84 3 rfl ?_
  refine sa_iadd C dX5_two_86 ?_
  refine sa_istore_n C dX5_two_87 rfl (by decide) (lv2 := [(2, .int (((100 : Int32) * x4) + x5)), (0, .ref (g 0)), (1, .int x1), (4, .int x4), (5, .int x5), (6, .int x6)]) rfl ?_
  refine sa_iload C dX5_two_88 5 rfl ?_
  refine sa_istore_n C dX5_two_90 rfl (by decide) (lv2 := [(3, .int x6), (2, .int (((100 : Int32) * x4) + x5)), (0, .ref (g 0)), (1, .int x1), (4, .int x4), (5, .int x5), (6, .int x6)]) rfl ?_
  refine sa_iinc C dX5_two_91 5 rfl (v := (x5 + (1 : Int32))) (by rw [ic_1]) (by decide) (lv2 := [(5, .int (x5 + (1 : Int32))), (3, .int x6), (2, .int (((100 : Int32) * x4) + x5)), (0, .ref (g 0)), (1, .int x1), (4, .int x4), (6, .int x6)]) rfl ?_
  refine sa_goto C dX5_two_94 (tgt := 38) (by decide) ?_
  exact sa_sub [3, 4, 2, 1, 5, 0] rfl (hk38 h)
theorem w5_two_38 {D : va_G} {cA : ClassId} {g : Nat → Nat} {A : Nat → Prop} {z : sl_K} {l : Launch} {p : Program} {e : Env} {R : Room} {s : State} {m : MethodId} {args : Array Value} {below : List Frame} {meth : Method} {c : Code} (C : sl_C RX5 cX5_two 7 (some .int) sl_cl LR D cA g A z p s m meth c) (hR : 8 ≤ R.frames ∧ 183 ≤ R.locals) {r : Int32 × sl_M} {x1 : Int32} {x4 : Int32} {k25 : Int32 → Int32 → Int32 → sl_M → Option (Int32 × sl_M)} (hk25 : ∀ {x2 : Int32} {x3 : Int32} {x4 : Int32} {M : sl_M}, k25 x2 x3 x4 M = some r → sl_A sl_cl LR D cA g A p l e R s m args below meth c (MQ below (sl_Q sl_cl LR D cA g A (some (.int r.1)) r.2) args s 0 0 A) 7 25 [(0, .ref (g 0)), (1, .int x1), (2, .int x2), (3, .int x3), (4, .int x4)] [] M) : ∀ (n : Nat) {x2 : Int32} {x3 : Int32} {x5 : Int32} {M : sl_M}, f5_two_38 k25 x1 x4 n x2 x3 x5 M = some r → sl_A sl_cl LR D cA g A p l e R s m args below meth c (MQ below (sl_Q sl_cl LR D cA g A (some (.int r.1)) r.2) args s 0 0 A) 7 38 [(0, .ref (g 0)), (1, .int x1), (2, .int x2), (3, .int x3), (4, .int x4), (5, .int x5)] [] M := by
  intro n
  induction n with
  | zero =>
    intro x2 x3 x5 M h
    exact absurd h.symm (Option.some_ne_none _)
  | succ n ih =>
    intro x2 x3 x5 M h
    rw [f5_two_38] at h
    refine sa_iload C dX5_two_38 5 rfl ?_
    refine sa_bipush C dX5_two_40 bp_24 ?_
    refine sa_icmp_ge C dX5_two_42 (tgt := 97) (by decide) (fun c1 => ?_) (fun c1 => ?_)
    · replace h := sl_t c1 h
      refine sa_iinc C dX5_two_97 4 rfl (v := (x4 + (1 : Int32))) (by rw [ic_1]) (by decide) (lv2 := [(4, .int (x4 + (1 : Int32))), (0, .ref (g 0)), (1, .int x1), (2, .int x2), (3, .int x3), (5, .int x5)]) rfl ?_
      refine sa_goto C dX5_two_100 (tgt := 25) (by decide) ?_
      exact sa_sub [1, 2, 3, 4, 0] rfl (hk25 h)
    · replace h := sl_n c1 h
      refine sa_aload_n C dX5_two_45 rfl 0 rfl ?_
      refine sa_iload C dX5_two_46 4 rfl ?_
      refine sa_iload_n C dX5_two_48 rfl 1 rfl ?_
      obtain ⟨r2, er2, h⟩ := sl_b h
      refine sa_invVv C yy_X5_sets ⟨q_929, q_56⟩ q_927 dX5_two_49 (As := [.int x4, .int x1]) (rest := []) rfl ⟨Nat.le_trans (Nat.le_of_ble_eq_true rfl) hR.1, Nat.le_trans (Nat.le_of_ble_eq_true rfl) hR.2⟩ (Nat.le_of_ble_eq_true rfl) hh_X5 lr_0 (cc5_sets er2) rfl ?_
      refine sa_aload_n C dX5_two_52 rfl 0 rfl ?_
      refine sa_iload C dX5_two_53 5 rfl ?_
      refine sa_iload_n C dX5_two_55 rfl 1 rfl ?_
      obtain ⟨r3, er3, h⟩ := sl_b h
      refine sa_invVv C yy_X5_sets ⟨q_929, q_56⟩ q_927 dX5_two_56 (As := [.int x5, .int x1]) (rest := []) rfl ⟨Nat.le_trans (Nat.le_of_ble_eq_true rfl) hR.1, Nat.le_trans (Nat.le_of_ble_eq_true rfl) hR.2⟩ (Nat.le_of_ble_eq_true rfl) hh_X5 lr_0 (cc5_sets er3) rfl ?_
      refine sa_aload_n C dX5_two_59 rfl 0 rfl ?_
      obtain ⟨r4, er4, h⟩ := sl_b h
      refine sa_invVi C yy_X5_allTax ⟨q_1072, q_72⟩ q_1070 dX5_two_60 (As := []) (rest := []) rfl ⟨Nat.le_trans (Nat.le_of_ble_eq_true rfl) hR.1, Nat.le_trans (Nat.le_of_ble_eq_true rfl) hR.2⟩ (Nat.le_of_ble_eq_true rfl) hh_X5 lr_0 (cc5_allTax er4) rfl ?_
      refine sa_istore C dX5_two_63 (by decide) (lv2 := [(6, .int r4), (0, .ref (g 0)), (1, .int x1), (2, .int x2), (3, .int x3), (4, .int x4), (5, .int x5)]) rfl ?_
      refine sa_aload_n C dX5_two_65 rfl 1 rfl ?_
      obtain ⟨r5, er5, h⟩ := sl_b h
      refine sa_invVv C yy_X5_putsBack ⟨q_1127, q_78⟩ q_1125 dX5_two_66 (As := []) (rest := []) rfl ⟨Nat.le_trans (Nat.le_of_ble_eq_true rfl) hR.1, Nat.le_trans (Nat.le_of_ble_eq_true rfl) hR.2⟩ (Nat.le_of_ble_eq_true rfl) hh_X5 lr_0 (cc5_putsBack er5) rfl ?_
      refine sa_iload_n C dX5_two_69 rfl 3 rfl ?_
      refine sa_if_lt C dX5_two_70 (tgt := 79) (by decide) (fun c6 => ?_) (fun c6 => ?_)
      · replace h := sl_t c6 h
        exact sa_sub [1, 2, 5, 6, 0] rfl (w5_two_79 C hR (fun h => hk25 h) (fun h => ih h) h)
      · replace h := sl_n c6 h
        refine sa_iload C dX5_two_73 0 rfl ?_
        refine sa_iload_n C dX5_two_75 rfl 4 rfl ?_
        refine sa_icmp_ge C dX5_two_76 (tgt := 91) (by decide) (fun c7 => ?_) (fun c7 => ?_)
        · replace h := sl_t c7 h
          refine sa_iinc C dX5_two_91 6 rfl (v := (x5 + (1 : Int32))) (by rw [ic_1]) (by decide) (lv2 := [(5, .int (x5 + (1 : Int32))), (6, .int r4), (0, .ref (g 0)), (1, .int x1), (2, .int x2), (3, .int x3), (4, .int x4)]) rfl ?_
          refine sa_goto C dX5_two_94 (tgt := 38) (by decide) ?_
          exact sa_sub [2, 3, 4, 5, 6, 0] rfl (ih h)
        · replace h := sl_n c7 h
          exact sa_sub [1, 2, 5, 6, 0] rfl (w5_two_79 C hR (fun h => hk25 h) (fun h => ih h) h)
theorem w5_two_25 {D : va_G} {cA : ClassId} {g : Nat → Nat} {A : Nat → Prop} {z : sl_K} {l : Launch} {p : Program} {e : Env} {R : Room} {s : State} {m : MethodId} {args : Array Value} {below : List Frame} {meth : Method} {c : Code} (C : sl_C RX5 cX5_two 7 (some .int) sl_cl LR D cA g A z p s m meth c) (hR : 8 ≤ R.frames ∧ 183 ≤ R.locals) {r : Int32 × sl_M} {x1 : Int32} : ∀ (n : Nat) {x2 : Int32} {x3 : Int32} {x4 : Int32} {M : sl_M}, f5_two_25 x1 n x2 x3 x4 M = some r → sl_A sl_cl LR D cA g A p l e R s m args below meth c (MQ below (sl_Q sl_cl LR D cA g A (some (.int r.1)) r.2) args s 0 0 A) 7 25 [(0, .ref (g 0)), (1, .int x1), (2, .int x2), (3, .int x3), (4, .int x4)] [] M := by
  intro n
  induction n with
  | zero =>
    intro x2 x3 x4 M h
    exact absurd h.symm (Option.some_ne_none _)
  | succ n ih =>
    intro x2 x3 x4 M h
    rw [f5_two_25] at h
    refine sa_iload C dX5_two_25 4 rfl ?_
    refine sa_bipush C dX5_two_27 bp_24 ?_
    refine sa_icmp_ge C dX5_two_29 (tgt := 103) (by decide) (fun c1 => ?_) (fun c1 => ?_)
    · replace h := sl_t c1 h
      refine sa_iload_n C dX5_two_103 rfl 2 rfl ?_
      exact sa_iret C dX5_two_104 (sl_p1 h) (sl_p2 h)
    · replace h := sl_n c1 h
      refine sa_iload C dX5_two_32 4 rfl ?_
      refine sa_iconst C dX5_two_34 ic_1 ?_
      refine sa_iadd C dX5_two_35 ?_
      refine sa_istore C dX5_two_36 (by decide) (lv2 := [(5, .int (x4 + (1 : Int32))), (0, .ref (g 0)), (1, .int x1), (2, .int x2), (3, .int x3), (4, .int x4)]) rfl ?_
      exact sa_sub [1, 2, 3, 4, 5, 0] rfl (w5_two_38 C hR (fun h => ih h) 400 h)
theorem cc5_two {D : va_G} {cA : ClassId} {g : Nat → Nat} {A : Nat → Prop} {z : sl_K} {l : Launch} {x1 : Int32} {M : sl_M} {r : Int32 × sl_M} (h : f5_two x1 M = some r) : sl_N sl_cl LR D cA g A z l yX5_two cX5_two 7 (some .int) 8 183 [.ref (g 0), .int x1] M (some (.int r.1)) r.2 := by
  refine sl_N.of (by decide) (Nat.le_of_ble_eq_true rfl) rfl ?_
  intro p e s m args below meth c C
  replace C : sl_C RX5 cX5_two 7 (some .int) sl_cl LR D cA g A z p s m meth c := C
  have hR : 8 ≤ (({ frames := 8, cells := 0, slots := 0, locals := 183 } : Room)).frames ∧ 183 ≤ (({ frames := 8, cells := 0, slots := 0, locals := 183 } : Room)).locals := ⟨Nat.le_refl _, Nat.le_refl _⟩
  rw [f5_two] at h
  refine sa_iload_n C dX5_two_0 rfl 1 rfl ?_
  refine sa_invSi C yy_X5_isKind q_920 q_919 dX5_two_1 (As := [.int x1]) (rest := []) rfl ⟨Nat.le_trans (Nat.le_of_ble_eq_true rfl) hR.1, Nat.le_trans (Nat.le_of_ble_eq_true rfl) hR.2⟩ (Nat.le_of_ble_eq_true rfl) (cc5_isKind rfl) rfl ?_
  refine sa_if_ne C dX5_two_4 (tgt := 14) (by decide) (fun c1 => ?_) (fun c1 => ?_)
  · replace h := sl_n c1 h
    refine sa_iconst C dX5_two_14 ic_m1 ?_
    refine sa_istore_n C dX5_two_15 rfl (by decide) (lv2 := [(2, .int (-1 : Int32)), (0, .ref (g 0)), (1, .int x1)]) rfl ?_
    refine sa_iconst C dX5_two_16 ic_0 ?_
    refine sa_istore_n C dX5_two_17 rfl (by decide) (lv2 := [(3, .int (0 : Int32)), (2, .int (-1 : Int32)), (0, .ref (g 0)), (1, .int x1)]) rfl ?_
    refine sa_aload_n C dX5_two_18 rfl 2 rfl ?_
    obtain ⟨r2, er2, h⟩ := sl_b h
    refine sa_invVv C yy_X5_puts ⟨q_1115, q_75⟩ q_1113 dX5_two_19 (As := []) (rest := []) rfl ⟨Nat.le_trans (Nat.le_of_ble_eq_true rfl) hR.1, Nat.le_trans (Nat.le_of_ble_eq_true rfl) hR.2⟩ (Nat.le_of_ble_eq_true rfl) hh_X5 lr_0 (cc5_puts er2) rfl ?_
    refine sa_iconst C dX5_two_22 ic_0 ?_
    refine sa_istore C dX5_two_23 (by decide) (lv2 := [(4, .int (0 : Int32)), (3, .int (0 : Int32)), (2, .int (-1 : Int32)), (0, .ref (g 0)), (1, .int x1)]) rfl ?_
    exact sa_sub [3, 4, 2, 1, 0] rfl (w5_two_25 C hR 400 h)
  · replace h := sl_t c1 h
    refine sa_aload_n C dX5_two_7 rfl 0 rfl ?_
    refine sa_ldc C dX5_two_8 q_910 ?_
    obtain ⟨r3, er3, h⟩ := sl_b h
    refine sa_invVi C yy_X5_finds ⟨q_913, q_54⟩ q_911 dX5_two_10 (As := [.int (-1000001 : Int32)]) (rest := []) rfl ⟨Nat.le_trans (Nat.le_of_ble_eq_true rfl) hR.1, Nat.le_trans (Nat.le_of_ble_eq_true rfl) hR.2⟩ (Nat.le_of_ble_eq_true rfl) hh_X5 lr_0 (cc5_finds er3) rfl ?_
    exact sa_iret C dX5_two_13 (sl_p1 h) (sl_p2 h)
/-! X5 restless -/
def f5_restless_73 (k4 : Int32 → Int32 → sl_M → Option (Int32 × sl_M)) (x2 : Int32) (x3 : Int32) (t0 : Int32) (t1 : Int32) (M : sl_M) : Option (Int32 × sl_M) := (sl_st M 1 111 (((77 : Int32) + ((3 : Int32) * x2)) + (1 : Int32)) x3).bind fun M1 => k4 (t1 + t0) (x2 + (1 : Int32)) M1
def f5_restless_4 : Nat → Int32 → Int32 → sl_M → Option (Int32 × sl_M)
  | 0, _, _, _ => none
  | n + 1, x1, x2, M => (sl_ld (M 1) 111 (1 : Int32)).bind fun v1 => (if v1 ≤ x2 then some (x1, M) else (sl_ld (M 1) 111 (((77 : Int32) + ((3 : Int32) * x2)) + (1 : Int32))).bind fun v3 => (f5_taxOf x2 M).bind fun r4 => (f5_leastFloor x2 M).bind fun r5 => (sl_st r5.2 1 111 (((77 : Int32) + ((3 : Int32) * x2)) + (1 : Int32)) r5.1).bind fun M6 => (f5_taxOf x2 M6).bind fun r7 => (if r4 ≤ r7 then f5_restless_73 (f5_restless_4 n) x2 v3 (0 : Int32) x1 M6 else f5_restless_73 (f5_restless_4 n) x2 v3 (1 : Int32) x1 M6))
def f5_restless (M : sl_M) : Option (Int32 × sl_M) := f5_restless_4 400 (0 : Int32) (0 : Int32) M
theorem w5_restless_73 {D : va_G} {cA : ClassId} {g : Nat → Nat} {A : Nat → Prop} {z : sl_K} {l : Launch} {p : Program} {e : Env} {R : Room} {s : State} {m : MethodId} {args : Array Value} {below : List Frame} {meth : Method} {c : Code} (C : sl_C RX5 cX5_restless 6 (some .int) sl_cl LR D cA g A z p s m meth c) (hR : 8 ≤ R.frames ∧ 187 ≤ R.locals) {M : sl_M} {r : Int32 × sl_M} {x2 : Int32} {x3 : Int32} {t0 : Int32} {t1 : Int32} {k4 : Int32 → Int32 → sl_M → Option (Int32 × sl_M)} (hk4 : ∀ {x1 : Int32} {x2 : Int32} {M : sl_M}, k4 x1 x2 M = some r → sl_A sl_cl LR D cA g A p l e R s m args below meth c (MQ below (sl_Q sl_cl LR D cA g A (some (.int r.1)) r.2) args s 0 0 A) 6 4 [(0, .ref (g 0)), (1, .int x1), (2, .int x2)] [] M) (h : f5_restless_73 k4 x2 x3 t0 t1 M = some r) : sl_A sl_cl LR D cA g A p l e R s m args below meth c (MQ below (sl_Q sl_cl LR D cA g A (some (.int r.1)) r.2) args s 0 0 A) 6 73 [(0, .ref (g 0)), (2, .int x2), (3, .int x3)] [.int t0, .int t1] M := by
  rw [f5_restless_73] at h
  refine sa_iadd C dX5_restless_73 ?_
  refine sa_istore_n C dX5_restless_74 rfl (by decide) (lv2 := [(1, .int (t1 + t0)), (0, .ref (g 0)), (2, .int x2), (3, .int x3)]) rfl ?_
  refine sa_aload_n C dX5_restless_75 rfl 1 rfl ?_
  refine sa_getR C hh_X5 (k := 0) dX5_restless_76 q_837 (by decide) lr_0 rfl ?_
  refine sa_bipush C dX5_restless_79 bp_77 ?_
  refine sa_iconst C dX5_restless_81 ic_3 ?_
  refine sa_iload_n C dX5_restless_82 rfl 2 rfl ?_
  refine sa_imul C dX5_restless_83 ?_
  refine sa_iadd C dX5_restless_84 ?_
  refine sa_iconst C dX5_restless_85 ic_1 ?_
  refine sa_iadd C dX5_restless_86 ?_
  refine sa_iload_n C dX5_restless_87 rfl 3 rfl ?_
  obtain ⟨M1, eM1, h⟩ := sl_b h
  refine sa_iast C dX5_restless_88 lr_1 eM1 ?_
  refine sa_iinc C dX5_restless_89 2 rfl (v := (x2 + (1 : Int32))) (by rw [ic_1]) (by decide) (lv2 := [(2, .int (x2 + (1 : Int32))), (1, .int (t1 + t0)), (0, .ref (g 0)), (3, .int x3)]) rfl ?_
  refine sa_goto C dX5_restless_92 (tgt := 4) (by decide) ?_
  exact sa_sub [2, 1, 0] rfl (hk4 h)
theorem w5_restless_4 {D : va_G} {cA : ClassId} {g : Nat → Nat} {A : Nat → Prop} {z : sl_K} {l : Launch} {p : Program} {e : Env} {R : Room} {s : State} {m : MethodId} {args : Array Value} {below : List Frame} {meth : Method} {c : Code} (C : sl_C RX5 cX5_restless 6 (some .int) sl_cl LR D cA g A z p s m meth c) (hR : 8 ≤ R.frames ∧ 187 ≤ R.locals) {r : Int32 × sl_M} : ∀ (n : Nat) {x1 : Int32} {x2 : Int32} {M : sl_M}, f5_restless_4 n x1 x2 M = some r → sl_A sl_cl LR D cA g A p l e R s m args below meth c (MQ below (sl_Q sl_cl LR D cA g A (some (.int r.1)) r.2) args s 0 0 A) 6 4 [(0, .ref (g 0)), (1, .int x1), (2, .int x2)] [] M := by
  intro n
  induction n with
  | zero =>
    intro x1 x2 M h
    exact absurd h.symm (Option.some_ne_none _)
  | succ n ih =>
    intro x1 x2 M h
    rw [f5_restless_4] at h
    refine sa_iload_n C dX5_restless_4 rfl 2 rfl ?_
    refine sa_aload_n C dX5_restless_5 rfl 0 rfl ?_
    refine sa_getR C hh_X5 (k := 0) dX5_restless_6 q_837 (by decide) lr_0 rfl ?_
    refine sa_iconst C dX5_restless_9 ic_1 ?_
    obtain ⟨v1, ev1, h⟩ := sl_b h
    refine sa_iald C dX5_restless_10 lr_1 ev1 ?_
    refine sa_icmp_ge C dX5_restless_11 (tgt := 95) (by decide) (fun c2 => ?_) (fun c2 => ?_)
    · replace h := sl_t c2 h
      refine sa_iload_n C dX5_restless_95 rfl 1 rfl ?_
      exact sa_iret C dX5_restless_96 (sl_p1 h) (sl_p2 h)
    · replace h := sl_n c2 h
      refine sa_aload_n C dX5_restless_14 rfl 0 rfl ?_
      refine sa_getR C hh_X5 (k := 0) dX5_restless_15 q_837 (by decide) lr_0 rfl ?_
      refine sa_bipush C dX5_restless_18 bp_77 ?_
      refine sa_iconst C dX5_restless_20 ic_3 ?_
      refine sa_iload_n C dX5_restless_21 rfl 2 rfl ?_
      refine sa_imul C dX5_restless_22 ?_
      refine sa_iadd C dX5_restless_23 ?_
      refine sa_iconst C dX5_restless_24 ic_1 ?_
      refine sa_iadd C dX5_restless_25 ?_
      obtain ⟨v3, ev3, h⟩ := sl_b h
      refine sa_iald C dX5_restless_26 lr_1 ev3 ?_
      refine sa_istore_n C dX5_restless_27 rfl (by decide) (lv2 := [(3, .int v3), (0, .ref (g 0)), (1, .int x1), (2, .int x2)]) rfl ?_
      refine sa_aload_n C dX5_restless_28 rfl 1 rfl ?_
      refine sa_iload_n C dX5_restless_29 rfl 3 rfl ?_
      obtain ⟨r4, er4, h⟩ := sl_b h
      refine sa_invVi C yy_X5_taxOf ⟨q_1064, q_71⟩ q_1062 dX5_restless_30 (As := [.int x2]) (rest := []) rfl ⟨Nat.le_trans (Nat.le_of_ble_eq_true rfl) hR.1, Nat.le_trans (Nat.le_of_ble_eq_true rfl) hR.2⟩ (Nat.le_of_ble_eq_true rfl) hh_X5 lr_0 (cc5_taxOf er4) rfl ?_
      refine sa_istore C dX5_restless_33 (by decide) (lv2 := [(4, .int r4), (3, .int v3), (0, .ref (g 0)), (1, .int x1), (2, .int x2)]) rfl ?_
      refine sa_aload_n C dX5_restless_35 rfl 2 rfl ?_
      refine sa_iload_n C dX5_restless_36 rfl 4 rfl ?_
      obtain ⟨r5, er5, h⟩ := sl_b h
      refine sa_invVi C yy_X5_leastFloor ⟨q_1080, q_73⟩ q_1078 dX5_restless_37 (As := [.int x2]) (rest := []) rfl ⟨Nat.le_trans (Nat.le_of_ble_eq_true rfl) hR.1, Nat.le_trans (Nat.le_of_ble_eq_true rfl) hR.2⟩ (Nat.le_of_ble_eq_true rfl) hh_X5 lr_0 (cc5_leastFloor er5) rfl ?_
      refine sa_istore C dX5_restless_40 (by decide) (lv2 := [(5, .int r5.1), (4, .int r4), (3, .int v3), (0, .ref (g 0)), (1, .int x1), (2, .int x2)]) rfl ?_
      refine sa_aload_n C dX5_restless_42 rfl 3 rfl ?_
      refine sa_getR C hh_X5 (k := 0) dX5_restless_43 q_837 (by decide) lr_0 rfl ?_
      refine sa_bipush C dX5_restless_46 bp_77 ?_
      refine sa_iconst C dX5_restless_48 ic_3 ?_
      refine sa_iload_n C dX5_restless_49 rfl 5 rfl ?_
      refine sa_imul C dX5_restless_50 ?_
      refine sa_iadd C dX5_restless_51 ?_
      refine sa_iconst C dX5_restless_52 ic_1 ?_
      refine sa_iadd C dX5_restless_53 ?_
      refine sa_iload C dX5_restless_54 0 rfl ?_
      obtain ⟨M6, eM6, h⟩ := sl_b h
      refine sa_iast C dX5_restless_56 lr_1 eM6 ?_
      refine sa_iload_n C dX5_restless_57 rfl 4 rfl ?_
      refine sa_aload_n C dX5_restless_58 rfl 3 rfl ?_
      refine sa_iload_n C dX5_restless_59 rfl 5 rfl ?_
      obtain ⟨r7, er7, h⟩ := sl_b h
      refine sa_invVi C yy_X5_taxOf ⟨q_1064, q_71⟩ q_1062 dX5_restless_60 (As := [.int x2]) (rest := [.int x1]) rfl ⟨Nat.le_trans (Nat.le_of_ble_eq_true rfl) hR.1, Nat.le_trans (Nat.le_of_ble_eq_true rfl) hR.2⟩ (Nat.le_of_ble_eq_true rfl) hh_X5 lr_0 (cc5_taxOf er7) rfl ?_
      refine sa_iload C dX5_restless_63 1 rfl ?_
      refine sa_icmp_ge C dX5_restless_65 (tgt := 72) (by decide) (fun c8 => ?_) (fun c8 => ?_)
      · replace h := sl_t c8 h
        refine sa_iconst C dX5_restless_72 ic_0 ?_
        exact sa_sub [3, 5, 2] rfl (w5_restless_73 C hR (fun h => ih h) h)
      · replace h := sl_n c8 h
        refine sa_iconst C dX5_restless_68 ic_1 ?_
        refine sa_goto C dX5_restless_69 (tgt := 73) (by decide) ?_
        exact sa_sub [3, 5, 2] rfl (w5_restless_73 C hR (fun h => ih h) h)
theorem cc5_restless {D : va_G} {cA : ClassId} {g : Nat → Nat} {A : Nat → Prop} {z : sl_K} {l : Launch} {M : sl_M} {r : Int32 × sl_M} (h : f5_restless M = some r) : sl_N sl_cl LR D cA g A z l yX5_restless cX5_restless 6 (some .int) 8 187 [.ref (g 0)] M (some (.int r.1)) r.2 := by
  refine sl_N.of (by decide) (Nat.le_of_ble_eq_true rfl) rfl ?_
  intro p e s m args below meth c C
  replace C : sl_C RX5 cX5_restless 6 (some .int) sl_cl LR D cA g A z p s m meth c := C
  have hR : 8 ≤ (({ frames := 8, cells := 0, slots := 0, locals := 187 } : Room)).frames ∧ 187 ≤ (({ frames := 8, cells := 0, slots := 0, locals := 187 } : Room)).locals := ⟨Nat.le_refl _, Nat.le_refl _⟩
  rw [f5_restless] at h
  refine sa_iconst C dX5_restless_0 ic_0 ?_
  refine sa_istore_n C dX5_restless_1 rfl (by decide) (lv2 := [(1, .int (0 : Int32)), (0, .ref (g 0))]) rfl ?_
  refine sa_iconst C dX5_restless_2 ic_0 ?_
  refine sa_istore_n C dX5_restless_3 rfl (by decide) (lv2 := [(2, .int (0 : Int32)), (1, .int (0 : Int32)), (0, .ref (g 0))]) rfl ?_
  exact sa_sub [2, 1, 0] rfl (w5_restless_4 C hR 400 h)
/-! X5 findSights -/
def f5_findSights_4 : Nat → Int32 → Int32 → sl_M → Option (Int32 × sl_M)
  | 0, _, _, _ => none
  | n + 1, x1, x2, M => (sl_ld (M 1) 111 (1 : Int32)).bind fun v1 => (if v1 ≤ x2 then some (x1, M) else (f5_sightOf x2 M).bind fun r3 => (sl_st M 6 8 x2 r3).bind fun M4 => (sl_ld (M4 6) 8 x2).bind fun v5 => f5_findSights_4 n (x1 ||| v5) (x2 + (1 : Int32)) M4)
def f5_findSights (M : sl_M) : Option (Int32 × sl_M) := f5_findSights_4 400 (0 : Int32) (0 : Int32) M
theorem w5_findSights_4 {D : va_G} {cA : ClassId} {g : Nat → Nat} {A : Nat → Prop} {z : sl_K} {l : Launch} {p : Program} {e : Env} {R : Room} {s : State} {m : MethodId} {args : Array Value} {below : List Frame} {meth : Method} {c : Code} (C : sl_C RX5 cX5_findSights 3 (some .int) sl_cl LR D cA g A z p s m meth c) (hR : 6 ≤ R.frames ∧ 137 ≤ R.locals) {r : Int32 × sl_M} : ∀ (n : Nat) {x1 : Int32} {x2 : Int32} {M : sl_M}, f5_findSights_4 n x1 x2 M = some r → sl_A sl_cl LR D cA g A p l e R s m args below meth c (MQ below (sl_Q sl_cl LR D cA g A (some (.int r.1)) r.2) args s 0 0 A) 3 4 [(0, .ref (g 0)), (1, .int x1), (2, .int x2)] [] M := by
  intro n
  induction n with
  | zero =>
    intro x1 x2 M h
    exact absurd h.symm (Option.some_ne_none _)
  | succ n ih =>
    intro x1 x2 M h
    rw [f5_findSights_4] at h
    refine sa_iload_n C dX5_findSights_4 rfl 2 rfl ?_
    refine sa_aload_n C dX5_findSights_5 rfl 0 rfl ?_
    refine sa_getR C hh_X5 (k := 0) dX5_findSights_6 q_837 (by decide) lr_0 rfl ?_
    refine sa_iconst C dX5_findSights_9 ic_1 ?_
    obtain ⟨v1, ev1, h⟩ := sl_b h
    refine sa_iald C dX5_findSights_10 lr_1 ev1 ?_
    refine sa_icmp_ge C dX5_findSights_11 (tgt := 40) (by decide) (fun c2 => ?_) (fun c2 => ?_)
    · replace h := sl_t c2 h
      refine sa_iload_n C dX5_findSights_40 rfl 1 rfl ?_
      exact sa_iret C dX5_findSights_41 (sl_p1 h) (sl_p2 h)
    · replace h := sl_n c2 h
      refine sa_aload_n C dX5_findSights_14 rfl 0 rfl ?_
      refine sa_getR C hh_X5 (k := 6) dX5_findSights_15 q_843 (by decide) lr_0 rfl ?_
      refine sa_iload_n C dX5_findSights_18 rfl 2 rfl ?_
      refine sa_aload_n C dX5_findSights_19 rfl 0 rfl ?_
      refine sa_iload_n C dX5_findSights_20 rfl 2 rfl ?_
      obtain ⟨r3, er3, h⟩ := sl_b h
      refine sa_invVi C yy_X5_sightOf ⟨q_1020, q_67⟩ q_1018 dX5_findSights_21 (As := [.int x2]) (rest := [.int x2, .ref (g 6)]) rfl ⟨Nat.le_trans (Nat.le_of_ble_eq_true rfl) hR.1, Nat.le_trans (Nat.le_of_ble_eq_true rfl) hR.2⟩ (Nat.le_of_ble_eq_true rfl) hh_X5 lr_0 (cc5_sightOf er3) rfl ?_
      obtain ⟨M4, eM4, h⟩ := sl_b h
      refine sa_iast C dX5_findSights_24 lr_6 eM4 ?_
      refine sa_iload_n C dX5_findSights_25 rfl 1 rfl ?_
      refine sa_aload_n C dX5_findSights_26 rfl 0 rfl ?_
      refine sa_getR C hh_X5 (k := 6) dX5_findSights_27 q_843 (by decide) lr_0 rfl ?_
      refine sa_iload_n C dX5_findSights_30 rfl 2 rfl ?_
      obtain ⟨v5, ev5, h⟩ := sl_b h
      refine sa_iald C dX5_findSights_31 lr_6 ev5 ?_
      refine sa_ior C dX5_findSights_32 ?_
      refine sa_istore_n C dX5_findSights_33 rfl (by decide) (lv2 := [(1, .int (x1 ||| v5)), (0, .ref (g 0)), (2, .int x2)]) rfl ?_
      refine sa_iinc C dX5_findSights_34 2 rfl (v := (x2 + (1 : Int32))) (by rw [ic_1]) (by decide) (lv2 := [(2, .int (x2 + (1 : Int32))), (1, .int (x1 ||| v5)), (0, .ref (g 0))]) rfl ?_
      refine sa_goto C dX5_findSights_37 (tgt := 4) (by decide) ?_
      exact sa_sub [2, 1, 0] rfl (ih h)
theorem cc5_findSights {D : va_G} {cA : ClassId} {g : Nat → Nat} {A : Nat → Prop} {z : sl_K} {l : Launch} {M : sl_M} {r : Int32 × sl_M} (h : f5_findSights M = some r) : sl_N sl_cl LR D cA g A z l yX5_findSights cX5_findSights 3 (some .int) 6 137 [.ref (g 0)] M (some (.int r.1)) r.2 := by
  refine sl_N.of (by decide) (Nat.le_of_ble_eq_true rfl) rfl ?_
  intro p e s m args below meth c C
  replace C : sl_C RX5 cX5_findSights 3 (some .int) sl_cl LR D cA g A z p s m meth c := C
  have hR : 6 ≤ (({ frames := 6, cells := 0, slots := 0, locals := 137 } : Room)).frames ∧ 137 ≤ (({ frames := 6, cells := 0, slots := 0, locals := 137 } : Room)).locals := ⟨Nat.le_refl _, Nat.le_refl _⟩
  rw [f5_findSights] at h
  refine sa_iconst C dX5_findSights_0 ic_0 ?_
  refine sa_istore_n C dX5_findSights_1 rfl (by decide) (lv2 := [(1, .int (0 : Int32)), (0, .ref (g 0))]) rfl ?_
  refine sa_iconst C dX5_findSights_2 ic_0 ?_
  refine sa_istore_n C dX5_findSights_3 rfl (by decide) (lv2 := [(2, .int (0 : Int32)), (1, .int (0 : Int32)), (0, .ref (g 0))]) rfl ?_
  exact sa_sub [2, 1, 0] rfl (w5_findSights_4 C hR 400 h)
/-! X5 walk -/
def f5_walk_90 (k9 : Int32 → Int32 → sl_M → Option (Int32 × sl_M)) (x1 : Int32) (x3 : Int32) (M : sl_M) : Option (Int32 × sl_M) := k9 x3 (x3 + (1 : Int32)) M
def f5_walk_27 (k9 : Int32 → Int32 → sl_M → Option (Int32 × sl_M)) (x1 : Int32) (x2 : Int32) (x3 : Int32) : Nat → Int32 → Int32 → sl_M → Option (Int32 × sl_M)
  | 0, _, _, _ => none
  | n + 1, x4, x5, M => (sl_ld (M 1) 111 (1 : Int32)).bind fun v1 => (if v1 ≤ x5 then (if x4 = x1 then (if x2 < 0 then f5_walk_90 k9 x1 x3 M else (f5_ones x3).bind fun r5 => (f5_ones x2).bind fun r6 => (if r6 ≤ r5 then k9 x2 (x3 + (1 : Int32)) M else f5_walk_90 k9 x1 x3 M)) else k9 x2 (x3 + (1 : Int32)) M) else (if (f5_has x3 x5) = 0 then f5_walk_27 k9 x1 x2 x3 n (x4 ||| (0 : Int32)) (x5 + (1 : Int32)) M else (sl_ld (M 6) 8 x5).bind fun v9 => f5_walk_27 k9 x1 x2 x3 n (x4 ||| v9) (x5 + (1 : Int32)) M))
def f5_walk_9 (x1 : Int32) : Nat → Int32 → Int32 → sl_M → Option (Int32 × sl_M)
  | 0, _, _, _ => none
  | n + 1, x2, x3, M => (sl_ld (M 1) 111 (1 : Int32)).bind fun v1 => (if ((1 : Int32) <<< (v1 &&& 31)) ≤ x3 then some (x2, M) else f5_walk_27 (f5_walk_9 x1 n) x1 x2 x3 400 (0 : Int32) (0 : Int32) M)
def f5_walk (M : sl_M) : Option (Int32 × sl_M) := (f5_findSights M).bind fun r1 => f5_walk_9 r1.1 400 (-1 : Int32) (0 : Int32) r1.2
theorem w5_walk_90 {D : va_G} {cA : ClassId} {g : Nat → Nat} {A : Nat → Prop} {z : sl_K} {l : Launch} {p : Program} {e : Env} {R : Room} {s : State} {m : MethodId} {args : Array Value} {below : List Frame} {meth : Method} {c : Code} (C : sl_C RX5 cX5_walk 6 (some .int) sl_cl LR D cA g A z p s m meth c) (hR : 7 ≤ R.frames ∧ 159 ≤ R.locals) {M : sl_M} {r : Int32 × sl_M} {x1 : Int32} {x3 : Int32} {k9 : Int32 → Int32 → sl_M → Option (Int32 × sl_M)} (hk9 : ∀ {x2 : Int32} {x3 : Int32} {M : sl_M}, k9 x2 x3 M = some r → sl_A sl_cl LR D cA g A p l e R s m args below meth c (MQ below (sl_Q sl_cl LR D cA g A (some (.int r.1)) r.2) args s 0 0 A) 6 9 [(0, .ref (g 0)), (1, .int x1), (2, .int x2), (3, .int x3)] [] M) (h : f5_walk_90 k9 x1 x3 M = some r) : sl_A sl_cl LR D cA g A p l e R s m args below meth c (MQ below (sl_Q sl_cl LR D cA g A (some (.int r.1)) r.2) args s 0 0 A) 6 90 [(0, .ref (g 0)), (1, .int x1), (3, .int x3)] [] M := by
  rw [f5_walk_90] at h
  refine sa_iload_n C dX5_walk_90 rfl 2 rfl ?_
  refine sa_goto C dX5_walk_91 (tgt := 95) (by decide) ?_
  refine sa_istore_n C dX5_walk_95 rfl (by decide) (lv2 := [(2, .int x3), (0, .ref (g 0)), (1, .int x1), (3, .int x3)]) rfl ?_
  refine sa_iinc C dX5_walk_96 3 rfl (v := (x3 + (1 : Int32))) (by rw [ic_1]) (by decide) (lv2 := [(3, .int (x3 + (1 : Int32))), (2, .int x3), (0, .ref (g 0)), (1, .int x1)]) rfl ?_
  refine sa_goto C dX5_walk_99 (tgt := 9) (by decide) ?_
  exact sa_sub [2, 3, 1, 0] rfl (hk9 h)
theorem w5_walk_27 {D : va_G} {cA : ClassId} {g : Nat → Nat} {A : Nat → Prop} {z : sl_K} {l : Launch} {p : Program} {e : Env} {R : Room} {s : State} {m : MethodId} {args : Array Value} {below : List Frame} {meth : Method} {c : Code} (C : sl_C RX5 cX5_walk 6 (some .int) sl_cl LR D cA g A z p s m meth c) (hR : 7 ≤ R.frames ∧ 159 ≤ R.locals) {r : Int32 × sl_M} {x1 : Int32} {x2 : Int32} {x3 : Int32} {k9 : Int32 → Int32 → sl_M → Option (Int32 × sl_M)} (hk9 : ∀ {x2 : Int32} {x3 : Int32} {M : sl_M}, k9 x2 x3 M = some r → sl_A sl_cl LR D cA g A p l e R s m args below meth c (MQ below (sl_Q sl_cl LR D cA g A (some (.int r.1)) r.2) args s 0 0 A) 6 9 [(0, .ref (g 0)), (1, .int x1), (2, .int x2), (3, .int x3)] [] M) : ∀ (n : Nat) {x4 : Int32} {x5 : Int32} {M : sl_M}, f5_walk_27 k9 x1 x2 x3 n x4 x5 M = some r → sl_A sl_cl LR D cA g A p l e R s m args below meth c (MQ below (sl_Q sl_cl LR D cA g A (some (.int r.1)) r.2) args s 0 0 A) 6 27 [(0, .ref (g 0)), (1, .int x1), (2, .int x2), (3, .int x3), (4, .int x4), (5, .int x5)] [] M := by
  intro n
  induction n with
  | zero =>
    intro x4 x5 M h
    exact absurd h.symm (Option.some_ne_none _)
  | succ n ih =>
    intro x4 x5 M h
    rw [f5_walk_27] at h
    refine sa_iload C dX5_walk_27 5 rfl ?_
    refine sa_aload_n C dX5_walk_29 rfl 0 rfl ?_
    refine sa_getR C hh_X5 (k := 0) dX5_walk_30 q_837 (by decide) lr_0 rfl ?_
    refine sa_iconst C dX5_walk_33 ic_1 ?_
    obtain ⟨v1, ev1, h⟩ := sl_b h
    refine sa_iald C dX5_walk_34 lr_1 ev1 ?_
    refine sa_icmp_ge C dX5_walk_35 (tgt := 69) (by decide) (fun c2 => ?_) (fun c2 => ?_)
    · replace h := sl_t c2 h
      refine sa_iload C dX5_walk_69 4 rfl ?_
      refine sa_iload_n C dX5_walk_71 rfl 1 rfl ?_
      refine sa_icmp_ne C dX5_walk_72 (tgt := 94) (by decide) (fun c3 => ?_) (fun c3 => ?_)
      · replace h := sl_n c3 h
        refine sa_iload_n C dX5_walk_94 rfl 2 rfl ?_
        refine sa_istore_n C dX5_walk_95 rfl (by decide) (lv2 := [(2, .int x2), (0, .ref (g 0)), (1, .int x1), (3, .int x3), (4, .int x4), (5, .int x5)]) rfl ?_
        refine sa_iinc C dX5_walk_96 3 rfl (v := (x3 + (1 : Int32))) (by rw [ic_1]) (by decide) (lv2 := [(3, .int (x3 + (1 : Int32))), (2, .int x2), (0, .ref (g 0)), (1, .int x1), (4, .int x4), (5, .int x5)]) rfl ?_
        refine sa_goto C dX5_walk_99 (tgt := 9) (by decide) ?_
        exact sa_sub [2, 3, 1, 0] rfl (hk9 h)
      · replace h := sl_t c3 h
        refine sa_iload_n C dX5_walk_75 rfl 2 rfl ?_
        refine sa_if_lt C dX5_walk_76 (tgt := 90) (by decide) (fun c4 => ?_) (fun c4 => ?_)
        · replace h := sl_t c4 h
          exact sa_sub [0, 1, 3] rfl (w5_walk_90 C hR (fun h => hk9 h) h)
        · replace h := sl_n c4 h
          refine sa_iload_n C dX5_walk_79 rfl 3 rfl ?_
          obtain ⟨r5, er5, h⟩ := sl_b h
          refine sa_invSi C yy_X5_ones q_1087 q_1086 dX5_walk_80 (As := [.int x3]) (rest := []) rfl ⟨Nat.le_trans (Nat.le_of_ble_eq_true rfl) hR.1, Nat.le_trans (Nat.le_of_ble_eq_true rfl) hR.2⟩ (Nat.le_of_ble_eq_true rfl) (cc5_ones er5) rfl ?_
          refine sa_iload_n C dX5_walk_83 rfl 2 rfl ?_
          obtain ⟨r6, er6, h⟩ := sl_b h
          refine sa_invSi C yy_X5_ones q_1087 q_1086 dX5_walk_84 (As := [.int x2]) (rest := [.int r5]) rfl ⟨Nat.le_trans (Nat.le_of_ble_eq_true rfl) hR.1, Nat.le_trans (Nat.le_of_ble_eq_true rfl) hR.2⟩ (Nat.le_of_ble_eq_true rfl) (cc5_ones er6) rfl ?_
          refine sa_icmp_ge C dX5_walk_87 (tgt := 94) (by decide) (fun c7 => ?_) (fun c7 => ?_)
          · replace h := sl_t c7 h
            refine sa_iload_n C dX5_walk_94 rfl 2 rfl ?_
            refine sa_istore_n C dX5_walk_95 rfl (by decide) (lv2 := [(2, .int x2), (0, .ref (g 0)), (1, .int x1), (3, .int x3), (4, .int x4), (5, .int x5)]) rfl ?_
            refine sa_iinc C dX5_walk_96 3 rfl (v := (x3 + (1 : Int32))) (by rw [ic_1]) (by decide) (lv2 := [(3, .int (x3 + (1 : Int32))), (2, .int x2), (0, .ref (g 0)), (1, .int x1), (4, .int x4), (5, .int x5)]) rfl ?_
            refine sa_goto C dX5_walk_99 (tgt := 9) (by decide) ?_
            exact sa_sub [2, 3, 1, 0] rfl (hk9 h)
          · replace h := sl_n c7 h
            exact sa_sub [0, 1, 3] rfl (w5_walk_90 C hR (fun h => hk9 h) h)
    · replace h := sl_n c2 h
      refine sa_iload C dX5_walk_38 4 rfl ?_
      refine sa_iload_n C dX5_walk_40 rfl 3 rfl ?_
      refine sa_iload C dX5_walk_41 5 rfl ?_
      refine sa_invSi C yy_X5_has q_1030 q_1029 dX5_walk_43 (As := [.int x3, .int x5]) (rest := [.int x4]) rfl ⟨Nat.le_trans (Nat.le_of_ble_eq_true rfl) hR.1, Nat.le_trans (Nat.le_of_ble_eq_true rfl) hR.2⟩ (Nat.le_of_ble_eq_true rfl) (cc5_has rfl) rfl ?_
      refine sa_if_eq C dX5_walk_46 (tgt := 59) (by decide) (fun c8 => ?_) (fun c8 => ?_)
      · replace h := sl_t c8 h
        refine sa_iconst C dX5_walk_59 ic_0 ?_
        refine sa_ior C dX5_walk_60 ?_
        refine sa_istore C dX5_walk_61 (by decide) (lv2 := [(4, .int (x4 ||| (0 : Int32))), (0, .ref (g 0)), (1, .int x1), (2, .int x2), (3, .int x3), (5, .int x5)]) rfl ?_
        refine sa_iinc C dX5_walk_63 5 rfl (v := (x5 + (1 : Int32))) (by rw [ic_1]) (by decide) (lv2 := [(5, .int (x5 + (1 : Int32))), (4, .int (x4 ||| (0 : Int32))), (0, .ref (g 0)), (1, .int x1), (2, .int x2), (3, .int x3)]) rfl ?_
        refine sa_goto C dX5_walk_66 (tgt := 27) (by decide) ?_
        exact sa_sub [2, 3, 4, 5, 1, 0] rfl (ih h)
      · replace h := sl_n c8 h
        refine sa_aload_n C dX5_walk_49 rfl 0 rfl ?_
        refine sa_getR C hh_X5 (k := 6) dX5_walk_50 q_843 (by decide) lr_0 rfl ?_
        refine sa_iload C dX5_walk_53 5 rfl ?_
        obtain ⟨v9, ev9, h⟩ := sl_b h
        refine sa_iald C dX5_walk_55 lr_6 ev9 ?_
        refine sa_goto C dX5_walk_56 (tgt := 60) (by decide) ?_
        refine sa_ior C dX5_walk_60 ?_
        refine sa_istore C dX5_walk_61 (by decide) (lv2 := [(4, .int (x4 ||| v9)), (0, .ref (g 0)), (1, .int x1), (2, .int x2), (3, .int x3), (5, .int x5)]) rfl ?_
        refine sa_iinc C dX5_walk_63 5 rfl (v := (x5 + (1 : Int32))) (by rw [ic_1]) (by decide) (lv2 := [(5, .int (x5 + (1 : Int32))), (4, .int (x4 ||| v9)), (0, .ref (g 0)), (1, .int x1), (2, .int x2), (3, .int x3)]) rfl ?_
        refine sa_goto C dX5_walk_66 (tgt := 27) (by decide) ?_
        exact sa_sub [2, 3, 4, 5, 1, 0] rfl (ih h)
theorem w5_walk_9 {D : va_G} {cA : ClassId} {g : Nat → Nat} {A : Nat → Prop} {z : sl_K} {l : Launch} {p : Program} {e : Env} {R : Room} {s : State} {m : MethodId} {args : Array Value} {below : List Frame} {meth : Method} {c : Code} (C : sl_C RX5 cX5_walk 6 (some .int) sl_cl LR D cA g A z p s m meth c) (hR : 7 ≤ R.frames ∧ 159 ≤ R.locals) {r : Int32 × sl_M} {x1 : Int32} : ∀ (n : Nat) {x2 : Int32} {x3 : Int32} {M : sl_M}, f5_walk_9 x1 n x2 x3 M = some r → sl_A sl_cl LR D cA g A p l e R s m args below meth c (MQ below (sl_Q sl_cl LR D cA g A (some (.int r.1)) r.2) args s 0 0 A) 6 9 [(0, .ref (g 0)), (1, .int x1), (2, .int x2), (3, .int x3)] [] M := by
  intro n
  induction n with
  | zero =>
    intro x2 x3 M h
    exact absurd h.symm (Option.some_ne_none _)
  | succ n ih =>
    intro x2 x3 M h
    rw [f5_walk_9] at h
    refine sa_iload_n C dX5_walk_9 rfl 3 rfl ?_
    refine sa_iconst C dX5_walk_10 ic_1 ?_
    refine sa_aload_n C dX5_walk_11 rfl 0 rfl ?_
    refine sa_getR C hh_X5 (k := 0) dX5_walk_12 q_837 (by decide) lr_0 rfl ?_
    refine sa_iconst C dX5_walk_15 ic_1 ?_
    obtain ⟨v1, ev1, h⟩ := sl_b h
    refine sa_iald C dX5_walk_16 lr_1 ev1 ?_
    refine sa_ishl C dX5_walk_17 ?_
    refine sa_icmp_ge C dX5_walk_18 (tgt := 102) (by decide) (fun c2 => ?_) (fun c2 => ?_)
    · replace h := sl_t c2 h
      refine sa_iload_n C dX5_walk_102 rfl 2 rfl ?_
      exact sa_iret C dX5_walk_103 (sl_p1 h) (sl_p2 h)
    · replace h := sl_n c2 h
      refine sa_iconst C dX5_walk_21 ic_0 ?_
      refine sa_istore C dX5_walk_22 (by decide) (lv2 := [(4, .int (0 : Int32)), (0, .ref (g 0)), (1, .int x1), (2, .int x2), (3, .int x3)]) rfl ?_
      refine sa_iconst C dX5_walk_24 ic_0 ?_
      refine sa_istore C dX5_walk_25 (by decide) (lv2 := [(5, .int (0 : Int32)), (4, .int (0 : Int32)), (0, .ref (g 0)), (1, .int x1), (2, .int x2), (3, .int x3)]) rfl ?_
      exact sa_sub [2, 3, 4, 5, 1, 0] rfl (w5_walk_27 C hR (fun h => ih h) 400 h)
theorem cc5_walk {D : va_G} {cA : ClassId} {g : Nat → Nat} {A : Nat → Prop} {z : sl_K} {l : Launch} {M : sl_M} {r : Int32 × sl_M} (h : f5_walk M = some r) : sl_N sl_cl LR D cA g A z l yX5_walk cX5_walk 6 (some .int) 7 159 [.ref (g 0)] M (some (.int r.1)) r.2 := by
  refine sl_N.of (by decide) (Nat.le_of_ble_eq_true rfl) rfl ?_
  intro p e s m args below meth c C
  replace C : sl_C RX5 cX5_walk 6 (some .int) sl_cl LR D cA g A z p s m meth c := C
  have hR : 7 ≤ (({ frames := 7, cells := 0, slots := 0, locals := 159 } : Room)).frames ∧ 159 ≤ (({ frames := 7, cells := 0, slots := 0, locals := 159 } : Room)).locals := ⟨Nat.le_refl _, Nat.le_refl _⟩
  rw [f5_walk] at h
  refine sa_aload_n C dX5_walk_0 rfl 0 rfl ?_
  obtain ⟨r1, er1, h⟩ := sl_b h
  refine sa_invVi C yy_X5_findSights ⟨q_1151, q_79⟩ q_1149 dX5_walk_1 (As := []) (rest := []) rfl ⟨Nat.le_trans (Nat.le_of_ble_eq_true rfl) hR.1, Nat.le_trans (Nat.le_of_ble_eq_true rfl) hR.2⟩ (Nat.le_of_ble_eq_true rfl) hh_X5 lr_0 (cc5_findSights er1) rfl ?_
  refine sa_istore_n C dX5_walk_4 rfl (by decide) (lv2 := [(1, .int r1.1), (0, .ref (g 0))]) rfl ?_
  refine sa_iconst C dX5_walk_5 ic_m1 ?_
  refine sa_istore_n C dX5_walk_6 rfl (by decide) (lv2 := [(2, .int (-1 : Int32)), (1, .int r1.1), (0, .ref (g 0))]) rfl ?_
  refine sa_iconst C dX5_walk_7 ic_0 ?_
  refine sa_istore_n C dX5_walk_8 rfl (by decide) (lv2 := [(3, .int (0 : Int32)), (2, .int (-1 : Int32)), (1, .int r1.1), (0, .ref (g 0))]) rfl ?_
  exact sa_sub [3, 2, 1, 0] rfl (w5_walk_9 C hR 400 h)
/-! X5 blind -/
def f5_blind (M : sl_M) : Option (Int32 × sl_M) := (f5_findSights M).bind fun r1 => some (((16777215 : Int32) &&& (r1.1 ^^^ (-1 : Int32))), r1.2)
theorem cc5_blind {D : va_G} {cA : ClassId} {g : Nat → Nat} {A : Nat → Prop} {z : sl_K} {l : Launch} {M : sl_M} {r : Int32 × sl_M} (h : f5_blind M = some r) : sl_N sl_cl LR D cA g A z l yX5_blind cX5_blind 1 (some .int) 7 159 [.ref (g 0)] M (some (.int r.1)) r.2 := by
  refine sl_N.of (by decide) (Nat.le_of_ble_eq_true rfl) rfl ?_
  intro p e s m args below meth c C
  replace C : sl_C RX5 cX5_blind 1 (some .int) sl_cl LR D cA g A z p s m meth c := C
  have hR : 7 ≤ (({ frames := 7, cells := 0, slots := 0, locals := 159 } : Room)).frames ∧ 159 ≤ (({ frames := 7, cells := 0, slots := 0, locals := 159 } : Room)).locals := ⟨Nat.le_refl _, Nat.le_refl _⟩
  rw [f5_blind] at h
  refine sa_ldc C dX5_blind_0 q_1157 ?_
  refine sa_aload_n C dX5_blind_2 rfl 0 rfl ?_
  obtain ⟨r1, er1, h⟩ := sl_b h
  refine sa_invVi C yy_X5_findSights ⟨q_1151, q_79⟩ q_1149 dX5_blind_3 (As := []) (rest := [.int (16777215 : Int32)]) rfl ⟨Nat.le_trans (Nat.le_of_ble_eq_true rfl) hR.1, Nat.le_trans (Nat.le_of_ble_eq_true rfl) hR.2⟩ (Nat.le_of_ble_eq_true rfl) hh_X5 lr_0 (cc5_findSights er1) rfl ?_
  refine sa_iconst C dX5_blind_6 ic_m1 ?_
  refine sa_ixor C dX5_blind_7 ?_
  refine sa_iand C dX5_blind_8 ?_
  exact sa_iret C dX5_blind_9 (sl_p1 h) (sl_p2 h)
/-! X5 findHeights -/
def f5_findHeights_82 (k25 : Int32 → sl_M → Option sl_M) (x1 : Int32) (x2 : Int32) (x3 : Int32) (x4 : Int32) (x5 : Int32) (t0 : Int32) (M : sl_M) : Option sl_M := k25 (x5 + (1 : Int32)) (sl_up (sl_up M 0 8 t0) 0 9 x5)
def f5_findHeights_25 (x1 : Int32) (x2 : Int32) (x3 : Int32) (x4 : Int32) : Nat → Int32 → sl_M → Option sl_M
  | 0, _, _ => none
  | n + 1, x5, M => (if (100 : Int32) ≤ x5 then (sl_st M 1 111 (((5 : Int32) + ((3 : Int32) * x1)) + (1 : Int32)) x4).bind fun M2 => some M2 else (sl_st M 1 111 (((5 : Int32) + ((3 : Int32) * x1)) + (1 : Int32)) x5).bind fun M3 => (f5_taxOf x2 M3).bind fun r4 => (if r4 = x3 then (if 0 ≤ ((sl_up M3 0 7 ((M3 0 7) + (1 : Int32))) 0 8) then f5_findHeights_82 (f5_findHeights_25 x1 x2 x3 x4 n) x1 x2 x3 x4 x5 ((sl_up M3 0 7 ((M3 0 7) + (1 : Int32))) 0 8) (sl_up M3 0 7 ((M3 0 7) + (1 : Int32))) else f5_findHeights_82 (f5_findHeights_25 x1 x2 x3 x4 n) x1 x2 x3 x4 x5 x5 (sl_up M3 0 7 ((M3 0 7) + (1 : Int32)))) else f5_findHeights_25 x1 x2 x3 x4 n (x5 + (1 : Int32)) M3))
def f5_findHeights (x1 : Int32) (x2 : Int32) (x3 : Int32) (M : sl_M) : Option sl_M := (f5_heightOf x1 M).bind fun r1 => f5_findHeights_25 x1 x2 x3 r1 400 (0 : Int32) (sl_up (sl_up (sl_up M 0 7 (0 : Int32)) 0 8 (-1 : Int32)) 0 9 (-1 : Int32))
theorem w5_findHeights_82 {D : va_G} {cA : ClassId} {g : Nat → Nat} {A : Nat → Prop} {z : sl_K} {l : Launch} {p : Program} {e : Env} {R : Room} {s : State} {m : MethodId} {args : Array Value} {below : List Frame} {meth : Method} {c : Code} (C : sl_C RX5 cX5_findHeights 6 none sl_cl LR D cA g A z p s m meth c) (hR : 7 ≤ R.frames ∧ 161 ≤ R.locals) {M : sl_M} {r : sl_M} {x1 : Int32} {x2 : Int32} {x3 : Int32} {x4 : Int32} {x5 : Int32} {t0 : Int32} {k25 : Int32 → sl_M → Option sl_M} (hk25 : ∀ {x5 : Int32} {M : sl_M}, k25 x5 M = some r → sl_A sl_cl LR D cA g A p l e R s m args below meth c (MQ below (sl_Q sl_cl LR D cA g A none r) args s 0 0 A) 6 25 [(0, .ref (g 0)), (1, .int x1), (2, .int x2), (3, .int x3), (4, .int x4), (5, .int x5)] [] M) (h : f5_findHeights_82 k25 x1 x2 x3 x4 x5 t0 M = some r) : sl_A sl_cl LR D cA g A p l e R s m args below meth c (MQ below (sl_Q sl_cl LR D cA g A none r) args s 0 0 A) 6 82 [(0, .ref (g 0)), (1, .int x1), (2, .int x2), (3, .int x3), (4, .int x4), (5, .int x5)] [.int t0, .ref (g 0)] M := by
  rw [f5_findHeights_82] at h
  refine sa_put C hh_X5 (k := 8) dX5_findHeights_82 q_845 (by decide) rfl (fty := .int) (by decide) rfl rfl lr_0 rfl ?_
  refine sa_aload_n C dX5_findHeights_85 rfl 0 rfl ?_
  refine sa_iload C dX5_findHeights_86 5 rfl ?_
  refine sa_put C hh_X5 (k := 9) dX5_findHeights_88 q_846 (by decide) rfl (fty := .int) (by decide) rfl rfl lr_0 rfl ?_
  refine sa_iinc C dX5_findHeights_91 5 rfl (v := (x5 + (1 : Int32))) (by rw [ic_1]) (by decide) (lv2 := [(5, .int (x5 + (1 : Int32))), (0, .ref (g 0)), (1, .int x1), (2, .int x2), (3, .int x3), (4, .int x4)]) rfl ?_
  refine sa_goto C dX5_findHeights_94 (tgt := 25) (by decide) ?_
  exact sa_sub [1, 2, 3, 4, 5, 0] rfl (hk25 h)
theorem w5_findHeights_25 {D : va_G} {cA : ClassId} {g : Nat → Nat} {A : Nat → Prop} {z : sl_K} {l : Launch} {p : Program} {e : Env} {R : Room} {s : State} {m : MethodId} {args : Array Value} {below : List Frame} {meth : Method} {c : Code} (C : sl_C RX5 cX5_findHeights 6 none sl_cl LR D cA g A z p s m meth c) (hR : 7 ≤ R.frames ∧ 161 ≤ R.locals) {r : sl_M} {x1 : Int32} {x2 : Int32} {x3 : Int32} {x4 : Int32} : ∀ (n : Nat) {x5 : Int32} {M : sl_M}, f5_findHeights_25 x1 x2 x3 x4 n x5 M = some r → sl_A sl_cl LR D cA g A p l e R s m args below meth c (MQ below (sl_Q sl_cl LR D cA g A none r) args s 0 0 A) 6 25 [(0, .ref (g 0)), (1, .int x1), (2, .int x2), (3, .int x3), (4, .int x4), (5, .int x5)] [] M := by
  intro n
  induction n with
  | zero =>
    intro x5 M h
    exact absurd h.symm (Option.some_ne_none _)
  | succ n ih =>
    intro x5 M h
    rw [f5_findHeights_25] at h
    refine sa_iload C dX5_findHeights_25 5 rfl ?_
    refine sa_bipush C dX5_findHeights_27 bp_100 ?_
    refine sa_icmp_ge C dX5_findHeights_29 (tgt := 97) (by decide) (fun c1 => ?_) (fun c1 => ?_)
    · replace h := sl_t c1 h
      refine sa_aload_n C dX5_findHeights_97 rfl 0 rfl ?_
      refine sa_getR C hh_X5 (k := 0) dX5_findHeights_98 q_837 (by decide) lr_0 rfl ?_
      refine sa_iconst C dX5_findHeights_101 ic_5 ?_
      refine sa_iconst C dX5_findHeights_102 ic_3 ?_
      refine sa_iload_n C dX5_findHeights_103 rfl 1 rfl ?_
      refine sa_imul C dX5_findHeights_104 ?_
      refine sa_iadd C dX5_findHeights_105 ?_
      refine sa_iconst C dX5_findHeights_106 ic_1 ?_
      refine sa_iadd C dX5_findHeights_107 ?_
      refine sa_iload C dX5_findHeights_108 4 rfl ?_
      obtain ⟨M2, eM2, h⟩ := sl_b h
      refine sa_iast C dX5_findHeights_110 lr_1 eM2 ?_
      exact sa_vret C dX5_findHeights_111 (Option.some.inj h)
    · replace h := sl_n c1 h
      refine sa_aload_n C dX5_findHeights_32 rfl 0 rfl ?_
      refine sa_getR C hh_X5 (k := 0) dX5_findHeights_33 q_837 (by decide) lr_0 rfl ?_
      refine sa_iconst C dX5_findHeights_36 ic_5 ?_
      refine sa_iconst C dX5_findHeights_37 ic_3 ?_
      refine sa_iload_n C dX5_findHeights_38 rfl 1 rfl ?_
      refine sa_imul C dX5_findHeights_39 ?_
      refine sa_iadd C dX5_findHeights_40 ?_
      refine sa_iconst C dX5_findHeights_41 ic_1 ?_
      refine sa_iadd C dX5_findHeights_42 ?_
      refine sa_iload C dX5_findHeights_43 5 rfl ?_
      obtain ⟨M3, eM3, h⟩ := sl_b h
      refine sa_iast C dX5_findHeights_45 lr_1 eM3 ?_
      refine sa_aload_n C dX5_findHeights_46 rfl 0 rfl ?_
      refine sa_iload_n C dX5_findHeights_47 rfl 2 rfl ?_
      obtain ⟨r4, er4, h⟩ := sl_b h
      refine sa_invVi C yy_X5_taxOf ⟨q_1064, q_71⟩ q_1062 dX5_findHeights_48 (As := [.int x2]) (rest := []) rfl ⟨Nat.le_trans (Nat.le_of_ble_eq_true rfl) hR.1, Nat.le_trans (Nat.le_of_ble_eq_true rfl) hR.2⟩ (Nat.le_of_ble_eq_true rfl) hh_X5 lr_0 (cc5_taxOf er4) rfl ?_
      refine sa_iload_n C dX5_findHeights_51 rfl 3 rfl ?_
      refine sa_icmp_ne C dX5_findHeights_52 (tgt := 91) (by decide) (fun c5 => ?_) (fun c5 => ?_)
      · replace h := sl_n c5 h
        refine sa_iinc C dX5_findHeights_91 5 rfl (v := (x5 + (1 : Int32))) (by rw [ic_1]) (by decide) (lv2 := [(5, .int (x5 + (1 : Int32))), (0, .ref (g 0)), (1, .int x1), (2, .int x2), (3, .int x3), (4, .int x4)]) rfl ?_
        refine sa_goto C dX5_findHeights_94 (tgt := 25) (by decide) ?_
        exact sa_sub [1, 2, 3, 4, 5, 0] rfl (ih h)
      · replace h := sl_t c5 h
        refine sa_aload_n C dX5_findHeights_55 rfl 0 rfl ?_
        refine sa_dup C dX5_findHeights_56 rfl ?_
        refine sa_getI C hh_X5 (k := 7) dX5_findHeights_57 q_844 (by decide) lr_0 rfl ?_
        refine sa_iconst C dX5_findHeights_60 ic_1 ?_
        refine sa_iadd C dX5_findHeights_61 ?_
        refine sa_put C hh_X5 (k := 7) dX5_findHeights_62 q_844 (by decide) rfl (fty := .int) (by decide) rfl rfl lr_0 rfl ?_
        refine sa_aload_n C dX5_findHeights_65 rfl 0 rfl ?_
        refine sa_aload_n C dX5_findHeights_66 rfl 0 rfl ?_
        refine sa_getI C hh_X5 (k := 8) dX5_findHeights_67 q_845 (by decide) lr_0 rfl ?_
        refine sa_if_ge C dX5_findHeights_70 (tgt := 78) (by decide) (fun c6 => ?_) (fun c6 => ?_)
        · replace h := sl_t c6 h
          refine sa_aload_n C dX5_findHeights_78 rfl 0 rfl ?_
          refine sa_getI C hh_X5 (k := 8) dX5_findHeights_79 q_845 (by decide) lr_0 rfl ?_
          exact sa_sub [0, 1, 2, 3, 4, 5] rfl (w5_findHeights_82 C hR (fun h => ih h) h)
        · replace h := sl_n c6 h
          refine sa_iload C dX5_findHeights_73 5 rfl ?_
          refine sa_goto C dX5_findHeights_75 (tgt := 82) (by decide) ?_
          exact sa_sub [0, 1, 2, 3, 4, 5] rfl (w5_findHeights_82 C hR (fun h => ih h) h)
theorem cc5_findHeights {D : va_G} {cA : ClassId} {g : Nat → Nat} {A : Nat → Prop} {z : sl_K} {l : Launch} {x1 : Int32} {x2 : Int32} {x3 : Int32} {M : sl_M} {r : sl_M} (h : f5_findHeights x1 x2 x3 M = some r) : sl_N sl_cl LR D cA g A z l yX5_findHeights cX5_findHeights 6 none 7 161 [.ref (g 0), .int x1, .int x2, .int x3] M none r := by
  refine sl_N.of (by decide) (Nat.le_of_ble_eq_true rfl) rfl ?_
  intro p e s m args below meth c C
  replace C : sl_C RX5 cX5_findHeights 6 none sl_cl LR D cA g A z p s m meth c := C
  have hR : 7 ≤ (({ frames := 7, cells := 0, slots := 0, locals := 161 } : Room)).frames ∧ 161 ≤ (({ frames := 7, cells := 0, slots := 0, locals := 161 } : Room)).locals := ⟨Nat.le_refl _, Nat.le_refl _⟩
  rw [f5_findHeights] at h
  refine sa_aload_n C dX5_findHeights_0 rfl 0 rfl ?_
  refine sa_iload_n C dX5_findHeights_1 rfl 1 rfl ?_
  obtain ⟨r1, er1, h⟩ := sl_b h
  refine sa_invVi C yy_X5_heightOf ⟨q_946, q_59⟩ q_944 dX5_findHeights_2 (As := [.int x1]) (rest := []) rfl ⟨Nat.le_trans (Nat.le_of_ble_eq_true rfl) hR.1, Nat.le_trans (Nat.le_of_ble_eq_true rfl) hR.2⟩ (Nat.le_of_ble_eq_true rfl) hh_X5 lr_0 (cc5_heightOf er1) rfl ?_
  refine sa_istore C dX5_findHeights_5 (by decide) (lv2 := [(4, .int r1), (0, .ref (g 0)), (1, .int x1), (2, .int x2), (3, .int x3)]) rfl ?_
  refine sa_aload_n C dX5_findHeights_7 rfl 1 rfl ?_
  refine sa_iconst C dX5_findHeights_8 ic_0 ?_
  refine sa_put C hh_X5 (k := 7) dX5_findHeights_9 q_844 (by decide) rfl (fty := .int) (by decide) rfl rfl lr_0 rfl ?_
  refine sa_aload_n C dX5_findHeights_12 rfl 1 rfl ?_
  refine sa_iconst C dX5_findHeights_13 ic_m1 ?_
  refine sa_put C hh_X5 (k := 8) dX5_findHeights_14 q_845 (by decide) rfl (fty := .int) (by decide) rfl rfl lr_0 rfl ?_
  refine sa_aload_n C dX5_findHeights_17 rfl 1 rfl ?_
  refine sa_iconst C dX5_findHeights_18 ic_m1 ?_
  refine sa_put C hh_X5 (k := 9) dX5_findHeights_19 q_846 (by decide) rfl (fty := .int) (by decide) rfl rfl lr_0 rfl ?_
  refine sa_iconst C dX5_findHeights_22 ic_0 ?_
  refine sa_istore C dX5_findHeights_23 (by decide) (lv2 := [(5, .int (0 : Int32)), (4, .int r1), (0, .ref (g 0)), (1, .int x1), (2, .int x2), (3, .int x3)]) rfl ?_
  exact sa_sub [2, 3, 4, 5, 1, 0] rfl (w5_findHeights_25 C hR 400 h)
/-! X5 heights -/
def f5_heights (x1 : Int32) (x2 : Int32) (x3 : Int32) (M : sl_M) : Option (Int32 × sl_M) := (if (f5_isCell x1) = 0 then (f5_finds (-1000001 : Int32) M).bind fun r2 => some (r2.1, r2.2) else (f5_isHouse x2 M).bind fun r3 => (if r3 = 0 then (f5_finds (-1000001 : Int32) M).bind fun r5 => some (r5.1, r5.2) else (if (f5_isTax x3) = 0 then (f5_finds (-1000001 : Int32) M).bind fun r8 => some (r8.1, r8.2) else (f5_findHeights x1 x2 x3 M).bind fun r7 => some ((r7 0 7), r7))))
theorem cc5_heights {D : va_G} {cA : ClassId} {g : Nat → Nat} {A : Nat → Prop} {z : sl_K} {l : Launch} {x1 : Int32} {x2 : Int32} {x3 : Int32} {M : sl_M} {r : Int32 × sl_M} (h : f5_heights x1 x2 x3 M = some r) : sl_N sl_cl LR D cA g A z l yX5_heights cX5_heights 4 (some .int) 8 186 [.ref (g 0), .int x1, .int x2, .int x3] M (some (.int r.1)) r.2 := by
  refine sl_N.of (by decide) (Nat.le_of_ble_eq_true rfl) rfl ?_
  intro p e s m args below meth c C
  replace C : sl_C RX5 cX5_heights 4 (some .int) sl_cl LR D cA g A z p s m meth c := C
  have hR : 8 ≤ (({ frames := 8, cells := 0, slots := 0, locals := 186 } : Room)).frames ∧ 186 ≤ (({ frames := 8, cells := 0, slots := 0, locals := 186 } : Room)).locals := ⟨Nat.le_refl _, Nat.le_refl _⟩
  rw [f5_heights] at h
  refine sa_iload_n C dX5_heights_0 rfl 1 rfl ?_
  refine sa_invSi C yy_X5_isCell q_903 q_902 dX5_heights_1 (As := [.int x1]) (rest := []) rfl ⟨Nat.le_trans (Nat.le_of_ble_eq_true rfl) hR.1, Nat.le_trans (Nat.le_of_ble_eq_true rfl) hR.2⟩ (Nat.le_of_ble_eq_true rfl) (cc5_isCell rfl) rfl ?_
  refine sa_if_eq C dX5_heights_4 (tgt := 22) (by decide) (fun c1 => ?_) (fun c1 => ?_)
  · replace h := sl_t c1 h
    refine sa_aload_n C dX5_heights_22 rfl 0 rfl ?_
    refine sa_ldc C dX5_heights_23 q_910 ?_
    obtain ⟨r2, er2, h⟩ := sl_b h
    refine sa_invVi C yy_X5_finds ⟨q_913, q_54⟩ q_911 dX5_heights_25 (As := [.int (-1000001 : Int32)]) (rest := []) rfl ⟨Nat.le_trans (Nat.le_of_ble_eq_true rfl) hR.1, Nat.le_trans (Nat.le_of_ble_eq_true rfl) hR.2⟩ (Nat.le_of_ble_eq_true rfl) hh_X5 lr_0 (cc5_finds er2) rfl ?_
    exact sa_iret C dX5_heights_28 (sl_p1 h) (sl_p2 h)
  · replace h := sl_n c1 h
    refine sa_aload_n C dX5_heights_7 rfl 0 rfl ?_
    refine sa_iload_n C dX5_heights_8 rfl 2 rfl ?_
    obtain ⟨r3, er3, h⟩ := sl_b h
    refine sa_invVi C yy_X5_isHouse ⟨q_971, q_62⟩ q_969 dX5_heights_9 (As := [.int x2]) (rest := []) rfl ⟨Nat.le_trans (Nat.le_of_ble_eq_true rfl) hR.1, Nat.le_trans (Nat.le_of_ble_eq_true rfl) hR.2⟩ (Nat.le_of_ble_eq_true rfl) hh_X5 lr_0 (cc5_isHouse er3) rfl ?_
    refine sa_if_eq C dX5_heights_12 (tgt := 22) (by decide) (fun c4 => ?_) (fun c4 => ?_)
    · replace h := sl_t c4 h
      refine sa_aload_n C dX5_heights_22 rfl 0 rfl ?_
      refine sa_ldc C dX5_heights_23 q_910 ?_
      obtain ⟨r5, er5, h⟩ := sl_b h
      refine sa_invVi C yy_X5_finds ⟨q_913, q_54⟩ q_911 dX5_heights_25 (As := [.int (-1000001 : Int32)]) (rest := []) rfl ⟨Nat.le_trans (Nat.le_of_ble_eq_true rfl) hR.1, Nat.le_trans (Nat.le_of_ble_eq_true rfl) hR.2⟩ (Nat.le_of_ble_eq_true rfl) hh_X5 lr_0 (cc5_finds er5) rfl ?_
      exact sa_iret C dX5_heights_28 (sl_p1 h) (sl_p2 h)
    · replace h := sl_n c4 h
      refine sa_iload_n C dX5_heights_15 rfl 3 rfl ?_
      refine sa_invSi C yy_X5_isTax q_1098 q_1097 dX5_heights_16 (As := [.int x3]) (rest := []) rfl ⟨Nat.le_trans (Nat.le_of_ble_eq_true rfl) hR.1, Nat.le_trans (Nat.le_of_ble_eq_true rfl) hR.2⟩ (Nat.le_of_ble_eq_true rfl) (cc5_isTax rfl) rfl ?_
      refine sa_if_ne C dX5_heights_19 (tgt := 29) (by decide) (fun c6 => ?_) (fun c6 => ?_)
      · replace h := sl_n c6 h
        refine sa_aload_n C dX5_heights_29 rfl 0 rfl ?_
        refine sa_iload_n C dX5_heights_30 rfl 1 rfl ?_
        refine sa_iload_n C dX5_heights_31 rfl 2 rfl ?_
        refine sa_iload_n C dX5_heights_32 rfl 3 rfl ?_
        obtain ⟨r7, er7, h⟩ := sl_b h
        refine sa_invVv C yy_X5_findHeights ⟨q_1164, q_80⟩ q_1162 dX5_heights_33 (As := [.int x1, .int x2, .int x3]) (rest := []) rfl ⟨Nat.le_trans (Nat.le_of_ble_eq_true rfl) hR.1, Nat.le_trans (Nat.le_of_ble_eq_true rfl) hR.2⟩ (Nat.le_of_ble_eq_true rfl) hh_X5 lr_0 (cc5_findHeights er7) rfl ?_
        refine sa_aload_n C dX5_heights_36 rfl 0 rfl ?_
        refine sa_getI C hh_X5 (k := 7) dX5_heights_37 q_844 (by decide) lr_0 rfl ?_
        exact sa_iret C dX5_heights_40 (sl_p1 h) (sl_p2 h)
      · replace h := sl_t c6 h
        refine sa_aload_n C dX5_heights_22 rfl 0 rfl ?_
        refine sa_ldc C dX5_heights_23 q_910 ?_
        obtain ⟨r8, er8, h⟩ := sl_b h
        refine sa_invVi C yy_X5_finds ⟨q_913, q_54⟩ q_911 dX5_heights_25 (As := [.int (-1000001 : Int32)]) (rest := []) rfl ⟨Nat.le_trans (Nat.le_of_ble_eq_true rfl) hR.1, Nat.le_trans (Nat.le_of_ble_eq_true rfl) hR.2⟩ (Nat.le_of_ble_eq_true rfl) hh_X5 lr_0 (cc5_finds er8) rfl ?_
        exact sa_iret C dX5_heights_28 (sl_p1 h) (sl_p2 h)
/-! X5 height -/
def f5_height (x1 : Int32) (x2 : Int32) (x3 : Int32) (x4 : Int32) (M : sl_M) : Option (Int32 × sl_M) := (if (f5_isCell x1) = 0 then (f5_finds (-1000001 : Int32) M).bind fun r2 => some (r2.1, r2.2) else (f5_isHouse x2 M).bind fun r3 => (if r3 = 0 then (f5_finds (-1000001 : Int32) M).bind fun r5 => some (r5.1, r5.2) else (if (f5_isTax x3) = 0 then (f5_finds (-1000001 : Int32) M).bind fun r7 => some (r7.1, r7.2) else (if (f5_in x4.toInt64 (0 : Int64) (1 : Int64)) = 0 then (f5_finds (-1000001 : Int32) M).bind fun r13 => some (r13.1, r13.2) else (f5_findHeights x1 x2 x3 M).bind fun r9 => (if (r9 0 7) = 0 then (f5_finds (-1000004 : Int32) r9).bind fun r12 => some (r12.1, r12.2) else (if x4 = 0 then some ((r9 0 8), r9) else some ((r9 0 9), r9)))))))
theorem cc5_height {D : va_G} {cA : ClassId} {g : Nat → Nat} {A : Nat → Prop} {z : sl_K} {l : Launch} {x1 : Int32} {x2 : Int32} {x3 : Int32} {x4 : Int32} {M : sl_M} {r : Int32 × sl_M} (h : f5_height x1 x2 x3 x4 M = some r) : sl_N sl_cl LR D cA g A z l yX5_height cX5_height 5 (some .int) 8 186 [.ref (g 0), .int x1, .int x2, .int x3, .int x4] M (some (.int r.1)) r.2 := by
  refine sl_N.of (by decide) (Nat.le_of_ble_eq_true rfl) rfl ?_
  intro p e s m args below meth c C
  replace C : sl_C RX5 cX5_height 5 (some .int) sl_cl LR D cA g A z p s m meth c := C
  have hR : 8 ≤ (({ frames := 8, cells := 0, slots := 0, locals := 186 } : Room)).frames ∧ 186 ≤ (({ frames := 8, cells := 0, slots := 0, locals := 186 } : Room)).locals := ⟨Nat.le_refl _, Nat.le_refl _⟩
  rw [f5_height] at h
  refine sa_iload_n C dX5_height_0 rfl 1 rfl ?_
  refine sa_invSi C yy_X5_isCell q_903 q_902 dX5_height_1 (As := [.int x1]) (rest := []) rfl ⟨Nat.le_trans (Nat.le_of_ble_eq_true rfl) hR.1, Nat.le_trans (Nat.le_of_ble_eq_true rfl) hR.2⟩ (Nat.le_of_ble_eq_true rfl) (cc5_isCell rfl) rfl ?_
  refine sa_if_eq C dX5_height_4 (tgt := 33) (by decide) (fun c1 => ?_) (fun c1 => ?_)
  · replace h := sl_t c1 h
    refine sa_aload_n C dX5_height_33 rfl 0 rfl ?_
    refine sa_ldc C dX5_height_34 q_910 ?_
    obtain ⟨r2, er2, h⟩ := sl_b h
    refine sa_invVi C yy_X5_finds ⟨q_913, q_54⟩ q_911 dX5_height_36 (As := [.int (-1000001 : Int32)]) (rest := []) rfl ⟨Nat.le_trans (Nat.le_of_ble_eq_true rfl) hR.1, Nat.le_trans (Nat.le_of_ble_eq_true rfl) hR.2⟩ (Nat.le_of_ble_eq_true rfl) hh_X5 lr_0 (cc5_finds er2) rfl ?_
    exact sa_iret C dX5_height_39 (sl_p1 h) (sl_p2 h)
  · replace h := sl_n c1 h
    refine sa_aload_n C dX5_height_7 rfl 0 rfl ?_
    refine sa_iload_n C dX5_height_8 rfl 2 rfl ?_
    obtain ⟨r3, er3, h⟩ := sl_b h
    refine sa_invVi C yy_X5_isHouse ⟨q_971, q_62⟩ q_969 dX5_height_9 (As := [.int x2]) (rest := []) rfl ⟨Nat.le_trans (Nat.le_of_ble_eq_true rfl) hR.1, Nat.le_trans (Nat.le_of_ble_eq_true rfl) hR.2⟩ (Nat.le_of_ble_eq_true rfl) hh_X5 lr_0 (cc5_isHouse er3) rfl ?_
    refine sa_if_eq C dX5_height_12 (tgt := 33) (by decide) (fun c4 => ?_) (fun c4 => ?_)
    · replace h := sl_t c4 h
      refine sa_aload_n C dX5_height_33 rfl 0 rfl ?_
      refine sa_ldc C dX5_height_34 q_910 ?_
      obtain ⟨r5, er5, h⟩ := sl_b h
      refine sa_invVi C yy_X5_finds ⟨q_913, q_54⟩ q_911 dX5_height_36 (As := [.int (-1000001 : Int32)]) (rest := []) rfl ⟨Nat.le_trans (Nat.le_of_ble_eq_true rfl) hR.1, Nat.le_trans (Nat.le_of_ble_eq_true rfl) hR.2⟩ (Nat.le_of_ble_eq_true rfl) hh_X5 lr_0 (cc5_finds er5) rfl ?_
      exact sa_iret C dX5_height_39 (sl_p1 h) (sl_p2 h)
    · replace h := sl_n c4 h
      refine sa_iload_n C dX5_height_15 rfl 3 rfl ?_
      refine sa_invSi C yy_X5_isTax q_1098 q_1097 dX5_height_16 (As := [.int x3]) (rest := []) rfl ⟨Nat.le_trans (Nat.le_of_ble_eq_true rfl) hR.1, Nat.le_trans (Nat.le_of_ble_eq_true rfl) hR.2⟩ (Nat.le_of_ble_eq_true rfl) (cc5_isTax rfl) rfl ?_
      refine sa_if_eq C dX5_height_19 (tgt := 33) (by decide) (fun c6 => ?_) (fun c6 => ?_)
      · replace h := sl_t c6 h
        refine sa_aload_n C dX5_height_33 rfl 0 rfl ?_
        refine sa_ldc C dX5_height_34 q_910 ?_
        obtain ⟨r7, er7, h⟩ := sl_b h
        refine sa_invVi C yy_X5_finds ⟨q_913, q_54⟩ q_911 dX5_height_36 (As := [.int (-1000001 : Int32)]) (rest := []) rfl ⟨Nat.le_trans (Nat.le_of_ble_eq_true rfl) hR.1, Nat.le_trans (Nat.le_of_ble_eq_true rfl) hR.2⟩ (Nat.le_of_ble_eq_true rfl) hh_X5 lr_0 (cc5_finds er7) rfl ?_
        exact sa_iret C dX5_height_39 (sl_p1 h) (sl_p2 h)
      · replace h := sl_n c6 h
        refine sa_iload C dX5_height_22 4 rfl ?_
        refine sa_i2l C dX5_height_24 ?_
        refine sa_lconst C dX5_height_25 (v := 0) rfl ?_
        refine sa_lconst C dX5_height_26 (v := 1) rfl ?_
        refine sa_invSi C yy_X5_in q_907 q_906 dX5_height_27 (As := [.long x4.toInt64, .long (0 : Int64), .long (1 : Int64)]) (rest := []) rfl ⟨Nat.le_trans (Nat.le_of_ble_eq_true rfl) hR.1, Nat.le_trans (Nat.le_of_ble_eq_true rfl) hR.2⟩ (Nat.le_of_ble_eq_true rfl) (cc5_in rfl) rfl ?_
        refine sa_if_ne C dX5_height_30 (tgt := 40) (by decide) (fun c8 => ?_) (fun c8 => ?_)
        · replace h := sl_n c8 h
          refine sa_aload_n C dX5_height_40 rfl 0 rfl ?_
          refine sa_iload_n C dX5_height_41 rfl 1 rfl ?_
          refine sa_iload_n C dX5_height_42 rfl 2 rfl ?_
          refine sa_iload_n C dX5_height_43 rfl 3 rfl ?_
          obtain ⟨r9, er9, h⟩ := sl_b h
          refine sa_invVv C yy_X5_findHeights ⟨q_1164, q_80⟩ q_1162 dX5_height_44 (As := [.int x1, .int x2, .int x3]) (rest := []) rfl ⟨Nat.le_trans (Nat.le_of_ble_eq_true rfl) hR.1, Nat.le_trans (Nat.le_of_ble_eq_true rfl) hR.2⟩ (Nat.le_of_ble_eq_true rfl) hh_X5 lr_0 (cc5_findHeights er9) rfl ?_
          refine sa_aload_n C dX5_height_47 rfl 0 rfl ?_
          refine sa_getI C hh_X5 (k := 7) dX5_height_48 q_844 (by decide) lr_0 rfl ?_
          refine sa_if_ne C dX5_height_51 (tgt := 63) (by decide) (fun c10 => ?_) (fun c10 => ?_)
          · replace h := sl_n c10 h
            refine sa_iload C dX5_height_63 4 rfl ?_
            refine sa_if_ne C dX5_height_65 (tgt := 75) (by decide) (fun c11 => ?_) (fun c11 => ?_)
            · replace h := sl_n c11 h
              refine sa_aload_n C dX5_height_75 rfl 0 rfl ?_
              refine sa_getI C hh_X5 (k := 9) dX5_height_76 q_846 (by decide) lr_0 rfl ?_
              exact sa_iret C dX5_height_79 (sl_p1 h) (sl_p2 h)
            · replace h := sl_t c11 h
              refine sa_aload_n C dX5_height_68 rfl 0 rfl ?_
              refine sa_getI C hh_X5 (k := 8) dX5_height_69 q_845 (by decide) lr_0 rfl ?_
              refine sa_goto C dX5_height_72 (tgt := 79) (by decide) ?_
              exact sa_iret C dX5_height_79 (sl_p1 h) (sl_p2 h)
          · replace h := sl_t c10 h
            refine sa_aload_n C dX5_height_54 rfl 0 rfl ?_
            refine sa_ldc C dX5_height_55 q_1057 ?_
            obtain ⟨r12, er12, h⟩ := sl_b h
            refine sa_invVi C yy_X5_finds ⟨q_913, q_54⟩ q_911 dX5_height_57 (As := [.int (-1000004 : Int32)]) (rest := []) rfl ⟨Nat.le_trans (Nat.le_of_ble_eq_true rfl) hR.1, Nat.le_trans (Nat.le_of_ble_eq_true rfl) hR.2⟩ (Nat.le_of_ble_eq_true rfl) hh_X5 lr_0 (cc5_finds er12) rfl ?_
            refine sa_goto C dX5_height_60 (tgt := 79) (by decide) ?_
            exact sa_iret C dX5_height_79 (sl_p1 h) (sl_p2 h)
        · replace h := sl_t c8 h
          refine sa_aload_n C dX5_height_33 rfl 0 rfl ?_
          refine sa_ldc C dX5_height_34 q_910 ?_
          obtain ⟨r13, er13, h⟩ := sl_b h
          refine sa_invVi C yy_X5_finds ⟨q_913, q_54⟩ q_911 dX5_height_36 (As := [.int (-1000001 : Int32)]) (rest := []) rfl ⟨Nat.le_trans (Nat.le_of_ble_eq_true rfl) hR.1, Nat.le_trans (Nat.le_of_ble_eq_true rfl) hR.2⟩ (Nat.le_of_ble_eq_true rfl) hh_X5 lr_0 (cc5_finds er13) rfl ?_
          exact sa_iret C dX5_height_39 (sl_p1 h) (sl_p2 h)
/-! X5 which -/
def f5_which_99 (x3 : Int32) (M : sl_M) : Option (Int32 × sl_M) := (if 0 ≤ x3 then some (x3, M) else (f5_finds (-1000004 : Int32) M).bind fun r2 => some (r2.1, r2.2))
def f5_which_78 (k26 : Int32 → Int32 → sl_M → Option (Int32 × sl_M)) (x1 : Int32) (x2 : Int32) (x4 : Int32) (x5 : Int32) (t0 : Int32) (M : sl_M) : Option (Int32 × sl_M) := (sl_st M 1 111 ((77 : Int32) + ((3 : Int32) * x4)) x5).bind fun M1 => k26 t0 (x4 + (1 : Int32)) M1
def f5_which_26 (x1 : Int32) (x2 : Int32) : Nat → Int32 → Int32 → sl_M → Option (Int32 × sl_M)
  | 0, _, _, _ => none
  | n + 1, x3, x4, M => (sl_ld (M 1) 111 (1 : Int32)).bind fun v1 => (if v1 ≤ x4 then f5_which_99 x3 M else (if 0 ≤ x3 then f5_which_99 x3 M else (f5_cellAt x4 M).bind fun r4 => (sl_st M 1 111 ((77 : Int32) + ((3 : Int32) * x4)) x1).bind fun M5 => (f5_taxOf x4 M5).bind fun r6 => (if r6 = x2 then f5_which_78 (f5_which_26 x1 x2 n) x1 x2 x4 r4 x4 M5 else f5_which_78 (f5_which_26 x1 x2 n) x1 x2 x4 r4 (-1 : Int32) M5)))
def f5_which (x1 : Int32) (x2 : Int32) (M : sl_M) : Option (Int32 × sl_M) := (if (f5_isCell x1) = 0 then (f5_finds (-1000001 : Int32) M).bind fun r2 => some (r2.1, r2.2) else (if (f5_isTax x2) = 0 then (f5_finds (-1000001 : Int32) M).bind fun r4 => some (r4.1, r4.2) else f5_which_26 x1 x2 400 (-1 : Int32) (0 : Int32) M))
theorem w5_which_99 {D : va_G} {cA : ClassId} {g : Nat → Nat} {A : Nat → Prop} {z : sl_K} {l : Launch} {p : Program} {e : Env} {R : Room} {s : State} {m : MethodId} {args : Array Value} {below : List Frame} {meth : Method} {c : Code} (C : sl_C RX5 cX5_which 6 (some .int) sl_cl LR D cA g A z p s m meth c) (hR : 7 ≤ R.frames ∧ 161 ≤ R.locals) {M : sl_M} {r : Int32 × sl_M} {x3 : Int32} (h : f5_which_99 x3 M = some r) : sl_A sl_cl LR D cA g A p l e R s m args below meth c (MQ below (sl_Q sl_cl LR D cA g A (some (.int r.1)) r.2) args s 0 0 A) 6 99 [(0, .ref (g 0)), (3, .int x3)] [] M := by
  rw [f5_which_99] at h
  refine sa_iload_n C dX5_which_99 rfl 1 rfl ?_
  refine sa_if_ge C dX5_which_100 (tgt := 112) (by decide) (fun c1 => ?_) (fun c1 => ?_)
  · replace h := sl_t c1 h
    refine sa_iload_n C dX5_which_112 rfl 1 rfl ?_
    exact sa_iret C dX5_which_113 (sl_p1 h) (sl_p2 h)
  · replace h := sl_n c1 h
    refine sa_aload_n C dX5_which_103 rfl 0 rfl ?_
    refine sa_ldc C dX5_which_104 q_1057 ?_
    obtain ⟨r2, er2, h⟩ := sl_b h
    refine sa_invVi C yy_X5_finds ⟨q_913, q_54⟩ q_911 dX5_which_106 (As := [.int (-1000004 : Int32)]) (rest := []) rfl ⟨Nat.le_trans (Nat.le_of_ble_eq_true rfl) hR.1, Nat.le_trans (Nat.le_of_ble_eq_true rfl) hR.2⟩ (Nat.le_of_ble_eq_true rfl) hh_X5 lr_0 (cc5_finds er2) rfl ?_
    refine sa_goto C dX5_which_109 (tgt := 113) (by decide) ?_
    exact sa_iret C dX5_which_113 (sl_p1 h) (sl_p2 h)
theorem w5_which_78 {D : va_G} {cA : ClassId} {g : Nat → Nat} {A : Nat → Prop} {z : sl_K} {l : Launch} {p : Program} {e : Env} {R : Room} {s : State} {m : MethodId} {args : Array Value} {below : List Frame} {meth : Method} {c : Code} (C : sl_C RX5 cX5_which 6 (some .int) sl_cl LR D cA g A z p s m meth c) (hR : 7 ≤ R.frames ∧ 161 ≤ R.locals) {M : sl_M} {r : Int32 × sl_M} {x1 : Int32} {x2 : Int32} {x4 : Int32} {x5 : Int32} {t0 : Int32} {k26 : Int32 → Int32 → sl_M → Option (Int32 × sl_M)} (hk26 : ∀ {x3 : Int32} {x4 : Int32} {M : sl_M}, k26 x3 x4 M = some r → sl_A sl_cl LR D cA g A p l e R s m args below meth c (MQ below (sl_Q sl_cl LR D cA g A (some (.int r.1)) r.2) args s 0 0 A) 6 26 [(0, .ref (g 0)), (1, .int x1), (2, .int x2), (3, .int x3), (4, .int x4)] [] M) (h : f5_which_78 k26 x1 x2 x4 x5 t0 M = some r) : sl_A sl_cl LR D cA g A p l e R s m args below meth c (MQ below (sl_Q sl_cl LR D cA g A (some (.int r.1)) r.2) args s 0 0 A) 6 78 [(0, .ref (g 0)), (1, .int x1), (2, .int x2), (4, .int x4), (5, .int x5)] [.int t0] M := by
  rw [f5_which_78] at h
  refine sa_istore_n C dX5_which_78 rfl (by decide) (lv2 := [(3, .int t0), (0, .ref (g 0)), (1, .int x1), (2, .int x2), (4, .int x4), (5, .int x5)]) rfl ?_
  refine sa_aload_n C dX5_which_79 rfl 1 rfl ?_
  refine sa_getR C hh_X5 (k := 0) dX5_which_80 q_837 (by decide) lr_0 rfl ?_
  refine sa_bipush C dX5_which_83 bp_77 ?_
  refine sa_iconst C dX5_which_85 ic_3 ?_
  refine sa_iload C dX5_which_86 4 rfl ?_
  refine sa_imul C dX5_which_88 ?_
  refine sa_iadd C dX5_which_89 ?_
  refine sa_iload C dX5_which_90 5 rfl ?_
  obtain ⟨M1, eM1, h⟩ := sl_b h
  refine sa_iast C dX5_which_92 lr_1 eM1 ?_
  refine sa_iinc C dX5_which_93 4 rfl (v := (x4 + (1 : Int32))) (by rw [ic_1]) (by decide) (lv2 := [(4, .int (x4 + (1 : Int32))), (3, .int t0), (0, .ref (g 0)), (1, .int x1), (2, .int x2), (5, .int x5)]) rfl ?_
  refine sa_goto C dX5_which_96 (tgt := 26) (by decide) ?_
  exact sa_sub [2, 3, 4, 1, 0] rfl (hk26 h)
theorem w5_which_26 {D : va_G} {cA : ClassId} {g : Nat → Nat} {A : Nat → Prop} {z : sl_K} {l : Launch} {p : Program} {e : Env} {R : Room} {s : State} {m : MethodId} {args : Array Value} {below : List Frame} {meth : Method} {c : Code} (C : sl_C RX5 cX5_which 6 (some .int) sl_cl LR D cA g A z p s m meth c) (hR : 7 ≤ R.frames ∧ 161 ≤ R.locals) {r : Int32 × sl_M} {x1 : Int32} {x2 : Int32} : ∀ (n : Nat) {x3 : Int32} {x4 : Int32} {M : sl_M}, f5_which_26 x1 x2 n x3 x4 M = some r → sl_A sl_cl LR D cA g A p l e R s m args below meth c (MQ below (sl_Q sl_cl LR D cA g A (some (.int r.1)) r.2) args s 0 0 A) 6 26 [(0, .ref (g 0)), (1, .int x1), (2, .int x2), (3, .int x3), (4, .int x4)] [] M := by
  intro n
  induction n with
  | zero =>
    intro x3 x4 M h
    exact absurd h.symm (Option.some_ne_none _)
  | succ n ih =>
    intro x3 x4 M h
    rw [f5_which_26] at h
    refine sa_iload C dX5_which_26 4 rfl ?_
    refine sa_aload_n C dX5_which_28 rfl 0 rfl ?_
    refine sa_getR C hh_X5 (k := 0) dX5_which_29 q_837 (by decide) lr_0 rfl ?_
    refine sa_iconst C dX5_which_32 ic_1 ?_
    obtain ⟨v1, ev1, h⟩ := sl_b h
    refine sa_iald C dX5_which_33 lr_1 ev1 ?_
    refine sa_icmp_ge C dX5_which_34 (tgt := 99) (by decide) (fun c2 => ?_) (fun c2 => ?_)
    · replace h := sl_t c2 h
      exact sa_sub [0, 3] rfl (w5_which_99 C hR h)
    · replace h := sl_n c2 h
      refine sa_iload_n C dX5_which_37 rfl 3 rfl ?_
      refine sa_if_ge C dX5_which_38 (tgt := 99) (by decide) (fun c3 => ?_) (fun c3 => ?_)
      · replace h := sl_t c3 h
        exact sa_sub [0, 3] rfl (w5_which_99 C hR h)
      · replace h := sl_n c3 h
        refine sa_aload_n C dX5_which_41 rfl 0 rfl ?_
        refine sa_iload C dX5_which_42 4 rfl ?_
        obtain ⟨r4, er4, h⟩ := sl_b h
        refine sa_invVi C yy_X5_cellAt ⟨q_980, q_64⟩ q_978 dX5_which_44 (As := [.int x4]) (rest := []) rfl ⟨Nat.le_trans (Nat.le_of_ble_eq_true rfl) hR.1, Nat.le_trans (Nat.le_of_ble_eq_true rfl) hR.2⟩ (Nat.le_of_ble_eq_true rfl) hh_X5 lr_0 (cc5_cellAt er4) rfl ?_
        refine sa_istore C dX5_which_47 (by decide) (lv2 := [(5, .int r4), (0, .ref (g 0)), (1, .int x1), (2, .int x2), (3, .int x3), (4, .int x4)]) rfl ?_
        refine sa_aload_n C dX5_which_49 rfl 1 rfl ?_
        refine sa_getR C hh_X5 (k := 0) dX5_which_50 q_837 (by decide) lr_0 rfl ?_
        refine sa_bipush C dX5_which_53 bp_77 ?_
        refine sa_iconst C dX5_which_55 ic_3 ?_
        refine sa_iload C dX5_which_56 5 rfl ?_
        refine sa_imul C dX5_which_58 ?_
        refine sa_iadd C dX5_which_59 ?_
        refine sa_iload_n C dX5_which_60 rfl 2 rfl ?_
        obtain ⟨M5, eM5, h⟩ := sl_b h
        refine sa_iast C dX5_which_61 lr_1 eM5 ?_
        refine sa_aload_n C dX5_which_62 rfl 1 rfl ?_
        refine sa_iload C dX5_which_63 5 rfl ?_
        obtain ⟨r6, er6, h⟩ := sl_b h
        refine sa_invVi C yy_X5_taxOf ⟨q_1064, q_71⟩ q_1062 dX5_which_65 (As := [.int x4]) (rest := []) rfl ⟨Nat.le_trans (Nat.le_of_ble_eq_true rfl) hR.1, Nat.le_trans (Nat.le_of_ble_eq_true rfl) hR.2⟩ (Nat.le_of_ble_eq_true rfl) hh_X5 lr_0 (cc5_taxOf er6) rfl ?_
        refine sa_iload_n C dX5_which_68 rfl 3 rfl ?_
        refine sa_icmp_ne C dX5_which_69 (tgt := 77) (by decide) (fun c7 => ?_) (fun c7 => ?_)
        · replace h := sl_n c7 h
          refine sa_iconst C dX5_which_77 ic_m1 ?_
          exact sa_sub [1, 2, 3, 5, 0] rfl (w5_which_78 C hR (fun h => ih h) h)
        · replace h := sl_t c7 h
          refine sa_iload C dX5_which_72 5 rfl ?_
          refine sa_goto C dX5_which_74 (tgt := 78) (by decide) ?_
          exact sa_sub [1, 2, 3, 5, 0] rfl (w5_which_78 C hR (fun h => ih h) h)
theorem cc5_which {D : va_G} {cA : ClassId} {g : Nat → Nat} {A : Nat → Prop} {z : sl_K} {l : Launch} {x1 : Int32} {x2 : Int32} {M : sl_M} {r : Int32 × sl_M} (h : f5_which x1 x2 M = some r) : sl_N sl_cl LR D cA g A z l yX5_which cX5_which 6 (some .int) 7 161 [.ref (g 0), .int x1, .int x2] M (some (.int r.1)) r.2 := by
  refine sl_N.of (by decide) (Nat.le_of_ble_eq_true rfl) rfl ?_
  intro p e s m args below meth c C
  replace C : sl_C RX5 cX5_which 6 (some .int) sl_cl LR D cA g A z p s m meth c := C
  have hR : 7 ≤ (({ frames := 7, cells := 0, slots := 0, locals := 161 } : Room)).frames ∧ 161 ≤ (({ frames := 7, cells := 0, slots := 0, locals := 161 } : Room)).locals := ⟨Nat.le_refl _, Nat.le_refl _⟩
  rw [f5_which] at h
  refine sa_iload_n C dX5_which_0 rfl 1 rfl ?_
  refine sa_invSi C yy_X5_isCell q_903 q_902 dX5_which_1 (As := [.int x1]) (rest := []) rfl ⟨Nat.le_trans (Nat.le_of_ble_eq_true rfl) hR.1, Nat.le_trans (Nat.le_of_ble_eq_true rfl) hR.2⟩ (Nat.le_of_ble_eq_true rfl) (cc5_isCell rfl) rfl ?_
  refine sa_if_eq C dX5_which_4 (tgt := 14) (by decide) (fun c1 => ?_) (fun c1 => ?_)
  · replace h := sl_t c1 h
    refine sa_aload_n C dX5_which_14 rfl 0 rfl ?_
    refine sa_ldc C dX5_which_15 q_910 ?_
    obtain ⟨r2, er2, h⟩ := sl_b h
    refine sa_invVi C yy_X5_finds ⟨q_913, q_54⟩ q_911 dX5_which_17 (As := [.int (-1000001 : Int32)]) (rest := []) rfl ⟨Nat.le_trans (Nat.le_of_ble_eq_true rfl) hR.1, Nat.le_trans (Nat.le_of_ble_eq_true rfl) hR.2⟩ (Nat.le_of_ble_eq_true rfl) hh_X5 lr_0 (cc5_finds er2) rfl ?_
    exact sa_iret C dX5_which_20 (sl_p1 h) (sl_p2 h)
  · replace h := sl_n c1 h
    refine sa_iload_n C dX5_which_7 rfl 2 rfl ?_
    refine sa_invSi C yy_X5_isTax q_1098 q_1097 dX5_which_8 (As := [.int x2]) (rest := []) rfl ⟨Nat.le_trans (Nat.le_of_ble_eq_true rfl) hR.1, Nat.le_trans (Nat.le_of_ble_eq_true rfl) hR.2⟩ (Nat.le_of_ble_eq_true rfl) (cc5_isTax rfl) rfl ?_
    refine sa_if_ne C dX5_which_11 (tgt := 21) (by decide) (fun c3 => ?_) (fun c3 => ?_)
    · replace h := sl_n c3 h
      refine sa_iconst C dX5_which_21 ic_m1 ?_
      refine sa_istore_n C dX5_which_22 rfl (by decide) (lv2 := [(3, .int (-1 : Int32)), (0, .ref (g 0)), (1, .int x1), (2, .int x2)]) rfl ?_
      refine sa_iconst C dX5_which_23 ic_0 ?_
      refine sa_istore C dX5_which_24 (by decide) (lv2 := [(4, .int (0 : Int32)), (3, .int (-1 : Int32)), (0, .ref (g 0)), (1, .int x1), (2, .int x2)]) rfl ?_
      exact sa_sub [2, 3, 4, 1, 0] rfl (w5_which_26 C hR 400 h)
    · replace h := sl_t c3 h
      refine sa_aload_n C dX5_which_14 rfl 0 rfl ?_
      refine sa_ldc C dX5_which_15 q_910 ?_
      obtain ⟨r4, er4, h⟩ := sl_b h
      refine sa_invVi C yy_X5_finds ⟨q_913, q_54⟩ q_911 dX5_which_17 (As := [.int (-1000001 : Int32)]) (rest := []) rfl ⟨Nat.le_trans (Nat.le_of_ble_eq_true rfl) hR.1, Nat.le_trans (Nat.le_of_ble_eq_true rfl) hR.2⟩ (Nat.le_of_ble_eq_true rfl) hh_X5 lr_0 (cc5_finds er4) rfl ?_
      exact sa_iret C dX5_which_20 (sl_p1 h) (sl_p2 h)
/-! X5 years -/
def f5_years (x1 : Int32) (M : sl_M) : Option (Int32 × sl_M) := (if (f5_in x1.toInt64 (1 : Int64) (60 : Int64)) = 0 then (f5_finds (-1000001 : Int32) M).bind fun r7 => some (r7.1, r7.2) else (f5_isTooFar x1 M).bind fun r2 => (if r2 = 0 then (f5_yearsGo x1 M).bind fun r4 => (sl_ld (r4 1) 111 (0 : Int32)).bind fun v5 => some (v5, r4) else (f5_finds (-1000005 : Int32) M).bind fun r6 => some (r6.1, r6.2)))
theorem cc5_years {D : va_G} {cA : ClassId} {g : Nat → Nat} {A : Nat → Prop} {z : sl_K} {l : Launch} {x1 : Int32} {M : sl_M} {r : Int32 × sl_M} (h : f5_years x1 M = some r) : sl_N sl_cl LR D cA g A z l yX5_years cX5_years 2 (some .int) 3 64 [.ref (g 0), .int x1] M (some (.int r.1)) r.2 := by
  refine sl_N.of (by decide) (Nat.le_of_ble_eq_true rfl) rfl ?_
  intro p e s m args below meth c C
  replace C : sl_C RX5 cX5_years 2 (some .int) sl_cl LR D cA g A z p s m meth c := C
  have hR : 3 ≤ (({ frames := 3, cells := 0, slots := 0, locals := 64 } : Room)).frames ∧ 64 ≤ (({ frames := 3, cells := 0, slots := 0, locals := 64 } : Room)).locals := ⟨Nat.le_refl _, Nat.le_refl _⟩
  rw [f5_years] at h
  refine sa_iload_n C dX5_years_0 rfl 1 rfl ?_
  refine sa_i2l C dX5_years_1 ?_
  refine sa_lconst C dX5_years_2 (v := 1) rfl ?_
  refine sa_ldc2 C dX5_years_3 q_1108 ?_
  refine sa_invSi C yy_X5_in q_907 q_906 dX5_years_6 (As := [.long x1.toInt64, .long (1 : Int64), .long (60 : Int64)]) (rest := []) rfl ⟨Nat.le_trans (Nat.le_of_ble_eq_true rfl) hR.1, Nat.le_trans (Nat.le_of_ble_eq_true rfl) hR.2⟩ (Nat.le_of_ble_eq_true rfl) (cc5_in rfl) rfl ?_
  refine sa_if_ne C dX5_years_9 (tgt := 19) (by decide) (fun c1 => ?_) (fun c1 => ?_)
  · replace h := sl_n c1 h
    refine sa_aload_n C dX5_years_19 rfl 0 rfl ?_
    refine sa_iload_n C dX5_years_20 rfl 1 rfl ?_
    obtain ⟨r2, er2, h⟩ := sl_b h
    refine sa_invVi C yy_X5_isTooFar ⟨q_1111, q_74⟩ q_1109 dX5_years_21 (As := [.int x1]) (rest := []) rfl ⟨Nat.le_trans (Nat.le_of_ble_eq_true rfl) hR.1, Nat.le_trans (Nat.le_of_ble_eq_true rfl) hR.2⟩ (Nat.le_of_ble_eq_true rfl) hh_X5 lr_0 (cc5_isTooFar er2) rfl ?_
    refine sa_if_eq C dX5_years_24 (tgt := 34) (by decide) (fun c3 => ?_) (fun c3 => ?_)
    · replace h := sl_t c3 h
      refine sa_aload_n C dX5_years_34 rfl 0 rfl ?_
      refine sa_iload_n C dX5_years_35 rfl 1 rfl ?_
      obtain ⟨r4, er4, h⟩ := sl_b h
      refine sa_invVv C yy_X5_yearsGo ⟨q_1119, q_76⟩ q_1117 dX5_years_36 (As := [.int x1]) (rest := []) rfl ⟨Nat.le_trans (Nat.le_of_ble_eq_true rfl) hR.1, Nat.le_trans (Nat.le_of_ble_eq_true rfl) hR.2⟩ (Nat.le_of_ble_eq_true rfl) hh_X5 lr_0 (cc5_yearsGo er4) rfl ?_
      refine sa_aload_n C dX5_years_39 rfl 0 rfl ?_
      refine sa_getR C hh_X5 (k := 0) dX5_years_40 q_837 (by decide) lr_0 rfl ?_
      refine sa_iconst C dX5_years_43 ic_0 ?_
      obtain ⟨v5, ev5, h⟩ := sl_b h
      refine sa_iald C dX5_years_44 lr_1 ev5 ?_
      exact sa_iret C dX5_years_45 (sl_p1 h) (sl_p2 h)
    · replace h := sl_n c3 h
      refine sa_aload_n C dX5_years_27 rfl 0 rfl ?_
      refine sa_ldc C dX5_years_28 q_1056 ?_
      obtain ⟨r6, er6, h⟩ := sl_b h
      refine sa_invVi C yy_X5_finds ⟨q_913, q_54⟩ q_911 dX5_years_30 (As := [.int (-1000005 : Int32)]) (rest := []) rfl ⟨Nat.le_trans (Nat.le_of_ble_eq_true rfl) hR.1, Nat.le_trans (Nat.le_of_ble_eq_true rfl) hR.2⟩ (Nat.le_of_ble_eq_true rfl) hh_X5 lr_0 (cc5_finds er6) rfl ?_
      exact sa_iret C dX5_years_33 (sl_p1 h) (sl_p2 h)
  · replace h := sl_t c1 h
    refine sa_aload_n C dX5_years_12 rfl 0 rfl ?_
    refine sa_ldc C dX5_years_13 q_910 ?_
    obtain ⟨r7, er7, h⟩ := sl_b h
    refine sa_invVi C yy_X5_finds ⟨q_913, q_54⟩ q_911 dX5_years_15 (As := [.int (-1000001 : Int32)]) (rest := []) rfl ⟨Nat.le_trans (Nat.le_of_ble_eq_true rfl) hR.1, Nat.le_trans (Nat.le_of_ble_eq_true rfl) hR.2⟩ (Nat.le_of_ble_eq_true rfl) hh_X5 lr_0 (cc5_finds er7) rfl ?_
    exact sa_iret C dX5_years_18 (sl_p1 h) (sl_p2 h)
/-! X5 ahead -/
def f5_ahead_72 (t0 : Int32) (M : sl_M) : Option (Int32 × sl_M) := (f5_putsBack M).bind fun r1 => some (t0, r1)
def f5_ahead (x1 : Int32) (x2 : Int32) (M : sl_M) : Option (Int32 × sl_M) := (if (f5_isAhead x1) = 0 then (f5_finds (-1000001 : Int32) M).bind fun r2 => some (r2.1, r2.2) else (sl_ld (M 1) 111 (1 : Int32)).bind fun v3 => (if (f5_in x2.toInt64 (0 : Int64) v3.toInt64) = 0 then (f5_finds (-1000001 : Int32) M).bind fun r13 => some (r13.1, r13.2) else (f5_isTooFar x1 M).bind fun r5 => (if r5 = 0 then (f5_puts M).bind fun r7 => (f5_yearsGo x1 r7).bind fun r8 => (if x2 = 0 then (f5_allTax r8).bind fun r11 => f5_ahead_72 r11 r8 else (f5_taxOf (x2 - (1 : Int32)) r8).bind fun r10 => f5_ahead_72 r10 r8) else (f5_finds (-1000005 : Int32) M).bind fun r12 => some (r12.1, r12.2))))
theorem w5_ahead_72 {D : va_G} {cA : ClassId} {g : Nat → Nat} {A : Nat → Prop} {z : sl_K} {l : Launch} {p : Program} {e : Env} {R : Room} {s : State} {m : MethodId} {args : Array Value} {below : List Frame} {meth : Method} {c : Code} (C : sl_C RX5 cX5_ahead 4 (some .int) sl_cl LR D cA g A z p s m meth c) (hR : 8 ≤ R.frames ∧ 183 ≤ R.locals) {M : sl_M} {r : Int32 × sl_M} {t0 : Int32} (h : f5_ahead_72 t0 M = some r) : sl_A sl_cl LR D cA g A p l e R s m args below meth c (MQ below (sl_Q sl_cl LR D cA g A (some (.int r.1)) r.2) args s 0 0 A) 4 72 [(0, .ref (g 0))] [.int t0] M := by
  rw [f5_ahead_72] at h
  refine sa_istore_n C dX5_ahead_72 rfl (by decide) (lv2 := [(3, .int t0), (0, .ref (g 0))]) rfl ?_
  refine sa_aload_n C dX5_ahead_73 rfl 1 rfl ?_
  obtain ⟨r1, er1, h⟩ := sl_b h
  refine sa_invVv C yy_X5_putsBack ⟨q_1127, q_78⟩ q_1125 dX5_ahead_74 (As := []) (rest := []) rfl ⟨Nat.le_trans (Nat.le_of_ble_eq_true rfl) hR.1, Nat.le_trans (Nat.le_of_ble_eq_true rfl) hR.2⟩ (Nat.le_of_ble_eq_true rfl) hh_X5 lr_0 (cc5_putsBack er1) rfl ?_
  refine sa_iload_n C dX5_ahead_77 rfl 0 rfl ?_
  exact sa_iret C dX5_ahead_78 (sl_p1 h) (sl_p2 h)
theorem cc5_ahead {D : va_G} {cA : ClassId} {g : Nat → Nat} {A : Nat → Prop} {z : sl_K} {l : Launch} {x1 : Int32} {x2 : Int32} {M : sl_M} {r : Int32 × sl_M} (h : f5_ahead x1 x2 M = some r) : sl_N sl_cl LR D cA g A z l yX5_ahead cX5_ahead 4 (some .int) 8 183 [.ref (g 0), .int x1, .int x2] M (some (.int r.1)) r.2 := by
  refine sl_N.of (by decide) (Nat.le_of_ble_eq_true rfl) rfl ?_
  intro p e s m args below meth c C
  replace C : sl_C RX5 cX5_ahead 4 (some .int) sl_cl LR D cA g A z p s m meth c := C
  have hR : 8 ≤ (({ frames := 8, cells := 0, slots := 0, locals := 183 } : Room)).frames ∧ 183 ≤ (({ frames := 8, cells := 0, slots := 0, locals := 183 } : Room)).locals := ⟨Nat.le_refl _, Nat.le_refl _⟩
  rw [f5_ahead] at h
  refine sa_iload_n C dX5_ahead_0 rfl 1 rfl ?_
  refine sa_invSi C yy_X5_isAhead q_1106 q_1105 dX5_ahead_1 (As := [.int x1]) (rest := []) rfl ⟨Nat.le_trans (Nat.le_of_ble_eq_true rfl) hR.1, Nat.le_trans (Nat.le_of_ble_eq_true rfl) hR.2⟩ (Nat.le_of_ble_eq_true rfl) (cc5_isAhead rfl) rfl ?_
  refine sa_if_eq C dX5_ahead_4 (tgt := 23) (by decide) (fun c1 => ?_) (fun c1 => ?_)
  · replace h := sl_t c1 h
    refine sa_aload_n C dX5_ahead_23 rfl 0 rfl ?_
    refine sa_ldc C dX5_ahead_24 q_910 ?_
    obtain ⟨r2, er2, h⟩ := sl_b h
    refine sa_invVi C yy_X5_finds ⟨q_913, q_54⟩ q_911 dX5_ahead_26 (As := [.int (-1000001 : Int32)]) (rest := []) rfl ⟨Nat.le_trans (Nat.le_of_ble_eq_true rfl) hR.1, Nat.le_trans (Nat.le_of_ble_eq_true rfl) hR.2⟩ (Nat.le_of_ble_eq_true rfl) hh_X5 lr_0 (cc5_finds er2) rfl ?_
    exact sa_iret C dX5_ahead_29 (sl_p1 h) (sl_p2 h)
  · replace h := sl_n c1 h
    refine sa_iload_n C dX5_ahead_7 rfl 2 rfl ?_
    refine sa_i2l C dX5_ahead_8 ?_
    refine sa_lconst C dX5_ahead_9 (v := 0) rfl ?_
    refine sa_aload_n C dX5_ahead_10 rfl 0 rfl ?_
    refine sa_getR C hh_X5 (k := 0) dX5_ahead_11 q_837 (by decide) lr_0 rfl ?_
    refine sa_iconst C dX5_ahead_14 ic_1 ?_
    obtain ⟨v3, ev3, h⟩ := sl_b h
    refine sa_iald C dX5_ahead_15 lr_1 ev3 ?_
    refine sa_i2l C dX5_ahead_16 ?_
    refine sa_invSi C yy_X5_in q_907 q_906 dX5_ahead_17 (As := [.long x2.toInt64, .long (0 : Int64), .long v3.toInt64]) (rest := []) rfl ⟨Nat.le_trans (Nat.le_of_ble_eq_true rfl) hR.1, Nat.le_trans (Nat.le_of_ble_eq_true rfl) hR.2⟩ (Nat.le_of_ble_eq_true rfl) (cc5_in rfl) rfl ?_
    refine sa_if_ne C dX5_ahead_20 (tgt := 30) (by decide) (fun c4 => ?_) (fun c4 => ?_)
    · replace h := sl_n c4 h
      refine sa_aload_n C dX5_ahead_30 rfl 0 rfl ?_
      refine sa_iload_n C dX5_ahead_31 rfl 1 rfl ?_
      obtain ⟨r5, er5, h⟩ := sl_b h
      refine sa_invVi C yy_X5_isTooFar ⟨q_1111, q_74⟩ q_1109 dX5_ahead_32 (As := [.int x1]) (rest := []) rfl ⟨Nat.le_trans (Nat.le_of_ble_eq_true rfl) hR.1, Nat.le_trans (Nat.le_of_ble_eq_true rfl) hR.2⟩ (Nat.le_of_ble_eq_true rfl) hh_X5 lr_0 (cc5_isTooFar er5) rfl ?_
      refine sa_if_eq C dX5_ahead_35 (tgt := 45) (by decide) (fun c6 => ?_) (fun c6 => ?_)
      · replace h := sl_t c6 h
        refine sa_aload_n C dX5_ahead_45 rfl 0 rfl ?_
        obtain ⟨r7, er7, h⟩ := sl_b h
        refine sa_invVv C yy_X5_puts ⟨q_1115, q_75⟩ q_1113 dX5_ahead_46 (As := []) (rest := []) rfl ⟨Nat.le_trans (Nat.le_of_ble_eq_true rfl) hR.1, Nat.le_trans (Nat.le_of_ble_eq_true rfl) hR.2⟩ (Nat.le_of_ble_eq_true rfl) hh_X5 lr_0 (cc5_puts er7) rfl ?_
        refine sa_aload_n C dX5_ahead_49 rfl 0 rfl ?_
        refine sa_iload_n C dX5_ahead_50 rfl 1 rfl ?_
        obtain ⟨r8, er8, h⟩ := sl_b h
        refine sa_invVv C yy_X5_yearsGo ⟨q_1119, q_76⟩ q_1117 dX5_ahead_51 (As := [.int x1]) (rest := []) rfl ⟨Nat.le_trans (Nat.le_of_ble_eq_true rfl) hR.1, Nat.le_trans (Nat.le_of_ble_eq_true rfl) hR.2⟩ (Nat.le_of_ble_eq_true rfl) hh_X5 lr_0 (cc5_yearsGo er8) rfl ?_
        refine sa_iload_n C dX5_ahead_54 rfl 2 rfl ?_
        refine sa_if_ne C dX5_ahead_55 (tgt := 65) (by decide) (fun c9 => ?_) (fun c9 => ?_)
        · replace h := sl_n c9 h
          refine sa_aload_n C dX5_ahead_65 rfl 0 rfl ?_
          refine sa_iload_n C dX5_ahead_66 rfl 2 rfl ?_
          refine sa_iconst C dX5_ahead_67 ic_1 ?_
          refine sa_isub C dX5_ahead_68 ?_
          obtain ⟨r10, er10, h⟩ := sl_b h
          refine sa_invVi C yy_X5_taxOf ⟨q_1064, q_71⟩ q_1062 dX5_ahead_69 (As := [.int (x2 - (1 : Int32))]) (rest := []) rfl ⟨Nat.le_trans (Nat.le_of_ble_eq_true rfl) hR.1, Nat.le_trans (Nat.le_of_ble_eq_true rfl) hR.2⟩ (Nat.le_of_ble_eq_true rfl) hh_X5 lr_0 (cc5_taxOf er10) rfl ?_
          exact sa_sub [0] rfl (w5_ahead_72 C hR h)
        · replace h := sl_t c9 h
          refine sa_aload_n C dX5_ahead_58 rfl 0 rfl ?_
          obtain ⟨r11, er11, h⟩ := sl_b h
          refine sa_invVi C yy_X5_allTax ⟨q_1072, q_72⟩ q_1070 dX5_ahead_59 (As := []) (rest := []) rfl ⟨Nat.le_trans (Nat.le_of_ble_eq_true rfl) hR.1, Nat.le_trans (Nat.le_of_ble_eq_true rfl) hR.2⟩ (Nat.le_of_ble_eq_true rfl) hh_X5 lr_0 (cc5_allTax er11) rfl ?_
          refine sa_goto C dX5_ahead_62 (tgt := 72) (by decide) ?_
          exact sa_sub [0] rfl (w5_ahead_72 C hR h)
      · replace h := sl_n c6 h
        refine sa_aload_n C dX5_ahead_38 rfl 0 rfl ?_
        refine sa_ldc C dX5_ahead_39 q_1056 ?_
        obtain ⟨r12, er12, h⟩ := sl_b h
        refine sa_invVi C yy_X5_finds ⟨q_913, q_54⟩ q_911 dX5_ahead_41 (As := [.int (-1000005 : Int32)]) (rest := []) rfl ⟨Nat.le_trans (Nat.le_of_ble_eq_true rfl) hR.1, Nat.le_trans (Nat.le_of_ble_eq_true rfl) hR.2⟩ (Nat.le_of_ble_eq_true rfl) hh_X5 lr_0 (cc5_finds er12) rfl ?_
        exact sa_iret C dX5_ahead_44 (sl_p1 h) (sl_p2 h)
    · replace h := sl_t c4 h
      refine sa_aload_n C dX5_ahead_23 rfl 0 rfl ?_
      refine sa_ldc C dX5_ahead_24 q_910 ?_
      obtain ⟨r13, er13, h⟩ := sl_b h
      refine sa_invVi C yy_X5_finds ⟨q_913, q_54⟩ q_911 dX5_ahead_26 (As := [.int (-1000001 : Int32)]) (rest := []) rfl ⟨Nat.le_trans (Nat.le_of_ble_eq_true rfl) hR.1, Nat.le_trans (Nat.le_of_ble_eq_true rfl) hR.2⟩ (Nat.le_of_ble_eq_true rfl) hh_X5 lr_0 (cc5_finds er13) rfl ?_
      exact sa_iret C dX5_ahead_29 (sl_p1 h) (sl_p2 h)
/-! X5 lost -/
def f5_lost_89 (x3 : Int32) (t0 : Int32) (M : sl_M) : Option (Int32 × sl_M) := (f5_putsBack M).bind fun r1 => (if t0 = 0 then (f5_finds (-1000004 : Int32) r1).bind fun r3 => some (r3.1, r3.2) else some (x3, r1))
def f5_lost_72 (x1 : Int32) (x2 : Int32) (x3 : Int32) (M : sl_M) : Option (Int32 × sl_M) := (f5_sightOf x1 M).bind fun r1 => (if (f5_has r1 x2) = 0 then f5_lost_89 x3 (1 : Int32) M else f5_lost_89 x3 (0 : Int32) M)
def f5_lost_44 (x1 : Int32) (x2 : Int32) : Nat → Int32 → sl_M → Option (Int32 × sl_M)
  | 0, _, _ => none
  | n + 1, x3, M => (if (60 : Int32) ≤ x3 then f5_lost_72 x1 x2 x3 M else (f5_sightOf x1 M).bind fun r2 => (if (f5_has r2 x2) = 0 then f5_lost_72 x1 x2 x3 M else (f5_year M).bind fun r4 => f5_lost_44 x1 x2 n (x3 + (1 : Int32)) r4))
def f5_lost (x1 : Int32) (x2 : Int32) (M : sl_M) : Option (Int32 × sl_M) := (f5_isHouse x1 M).bind fun r1 => (if r1 = 0 then (f5_finds (-1000001 : Int32) M).bind fun r3 => some (r3.1, r3.2) else (if (f5_isCell x2) = 0 then (f5_finds (-1000001 : Int32) M).bind fun r9 => some (r9.1, r9.2) else (f5_isTooFar (60 : Int32) M).bind fun r5 => (if r5 = 0 then (f5_puts M).bind fun r7 => f5_lost_44 x1 x2 400 (0 : Int32) r7 else (f5_finds (-1000005 : Int32) M).bind fun r8 => some (r8.1, r8.2))))
theorem w5_lost_89 {D : va_G} {cA : ClassId} {g : Nat → Nat} {A : Nat → Prop} {z : sl_K} {l : Launch} {p : Program} {e : Env} {R : Room} {s : State} {m : MethodId} {args : Array Value} {below : List Frame} {meth : Method} {c : Code} (C : sl_C RX5 cX5_lost 5 (some .int) sl_cl LR D cA g A z p s m meth c) (hR : 6 ≤ R.frames ∧ 137 ≤ R.locals) {M : sl_M} {r : Int32 × sl_M} {x3 : Int32} {t0 : Int32} (h : f5_lost_89 x3 t0 M = some r) : sl_A sl_cl LR D cA g A p l e R s m args below meth c (MQ below (sl_Q sl_cl LR D cA g A (some (.int r.1)) r.2) args s 0 0 A) 5 89 [(0, .ref (g 0)), (3, .int x3)] [.int t0] M := by
  rw [f5_lost_89] at h
  refine sa_istore C dX5_lost_89 (by decide) (lv2 := [(4, .int t0), (0, .ref (g 0)), (3, .int x3)]) rfl ?_
  refine sa_aload_n C dX5_lost_91 rfl 1 rfl ?_
  obtain ⟨r1, er1, h⟩ := sl_b h
  refine sa_invVv C yy_X5_putsBack ⟨q_1127, q_78⟩ q_1125 dX5_lost_92 (As := []) (rest := []) rfl ⟨Nat.le_trans (Nat.le_of_ble_eq_true rfl) hR.1, Nat.le_trans (Nat.le_of_ble_eq_true rfl) hR.2⟩ (Nat.le_of_ble_eq_true rfl) hh_X5 lr_0 (cc5_putsBack er1) rfl ?_
  refine sa_iload C dX5_lost_95 0 rfl ?_
  refine sa_if_eq C dX5_lost_97 (tgt := 104) (by decide) (fun c2 => ?_) (fun c2 => ?_)
  · replace h := sl_t c2 h
    refine sa_aload_n C dX5_lost_104 rfl 1 rfl ?_
    refine sa_ldc C dX5_lost_105 q_1057 ?_
    obtain ⟨r3, er3, h⟩ := sl_b h
    refine sa_invVi C yy_X5_finds ⟨q_913, q_54⟩ q_911 dX5_lost_107 (As := [.int (-1000004 : Int32)]) (rest := []) rfl ⟨Nat.le_trans (Nat.le_of_ble_eq_true rfl) hR.1, Nat.le_trans (Nat.le_of_ble_eq_true rfl) hR.2⟩ (Nat.le_of_ble_eq_true rfl) hh_X5 lr_0 (cc5_finds er3) rfl ?_
    exact sa_iret C dX5_lost_110 (sl_p1 h) (sl_p2 h)
  · replace h := sl_n c2 h
    refine sa_iload_n C dX5_lost_100 rfl 2 rfl ?_
    refine sa_goto C dX5_lost_101 (tgt := 110) (by decide) ?_
    exact sa_iret C dX5_lost_110 (sl_p1 h) (sl_p2 h)
theorem w5_lost_72 {D : va_G} {cA : ClassId} {g : Nat → Nat} {A : Nat → Prop} {z : sl_K} {l : Launch} {p : Program} {e : Env} {R : Room} {s : State} {m : MethodId} {args : Array Value} {below : List Frame} {meth : Method} {c : Code} (C : sl_C RX5 cX5_lost 5 (some .int) sl_cl LR D cA g A z p s m meth c) (hR : 6 ≤ R.frames ∧ 137 ≤ R.locals) {M : sl_M} {r : Int32 × sl_M} {x1 : Int32} {x2 : Int32} {x3 : Int32} (h : f5_lost_72 x1 x2 x3 M = some r) : sl_A sl_cl LR D cA g A p l e R s m args below meth c (MQ below (sl_Q sl_cl LR D cA g A (some (.int r.1)) r.2) args s 0 0 A) 5 72 [(0, .ref (g 0)), (1, .int x1), (2, .int x2), (3, .int x3)] [] M := by
  rw [f5_lost_72] at h
  refine sa_aload_n C dX5_lost_72 rfl 0 rfl ?_
  refine sa_iload_n C dX5_lost_73 rfl 1 rfl ?_
  obtain ⟨r1, er1, h⟩ := sl_b h
  refine sa_invVi C yy_X5_sightOf ⟨q_1020, q_67⟩ q_1018 dX5_lost_74 (As := [.int x1]) (rest := []) rfl ⟨Nat.le_trans (Nat.le_of_ble_eq_true rfl) hR.1, Nat.le_trans (Nat.le_of_ble_eq_true rfl) hR.2⟩ (Nat.le_of_ble_eq_true rfl) hh_X5 lr_0 (cc5_sightOf er1) rfl ?_
  refine sa_iload_n C dX5_lost_77 rfl 2 rfl ?_
  refine sa_invSi C yy_X5_has q_1030 q_1029 dX5_lost_78 (As := [.int r1, .int x2]) (rest := []) rfl ⟨Nat.le_trans (Nat.le_of_ble_eq_true rfl) hR.1, Nat.le_trans (Nat.le_of_ble_eq_true rfl) hR.2⟩ (Nat.le_of_ble_eq_true rfl) (cc5_has rfl) rfl ?_
  refine sa_if_ne C dX5_lost_81 (tgt := 88) (by decide) (fun c2 => ?_) (fun c2 => ?_)
  · replace h := sl_n c2 h
    refine sa_iconst C dX5_lost_88 ic_0 ?_
    exact sa_sub [0, 3] rfl (w5_lost_89 C hR h)
  · replace h := sl_t c2 h
    refine sa_iconst C dX5_lost_84 ic_1 ?_
    refine sa_goto C dX5_lost_85 (tgt := 89) (by decide) ?_
    exact sa_sub [0, 3] rfl (w5_lost_89 C hR h)
theorem w5_lost_44 {D : va_G} {cA : ClassId} {g : Nat → Nat} {A : Nat → Prop} {z : sl_K} {l : Launch} {p : Program} {e : Env} {R : Room} {s : State} {m : MethodId} {args : Array Value} {below : List Frame} {meth : Method} {c : Code} (C : sl_C RX5 cX5_lost 5 (some .int) sl_cl LR D cA g A z p s m meth c) (hR : 6 ≤ R.frames ∧ 137 ≤ R.locals) {r : Int32 × sl_M} {x1 : Int32} {x2 : Int32} : ∀ (n : Nat) {x3 : Int32} {M : sl_M}, f5_lost_44 x1 x2 n x3 M = some r → sl_A sl_cl LR D cA g A p l e R s m args below meth c (MQ below (sl_Q sl_cl LR D cA g A (some (.int r.1)) r.2) args s 0 0 A) 5 44 [(0, .ref (g 0)), (1, .int x1), (2, .int x2), (3, .int x3)] [] M := by
  intro n
  induction n with
  | zero =>
    intro x3 M h
    exact absurd h.symm (Option.some_ne_none _)
  | succ n ih =>
    intro x3 M h
    rw [f5_lost_44] at h
    refine sa_iload_n C dX5_lost_44 rfl 3 rfl ?_
    refine sa_bipush C dX5_lost_45 bp_60 ?_
    refine sa_icmp_ge C dX5_lost_47 (tgt := 72) (by decide) (fun c1 => ?_) (fun c1 => ?_)
    · replace h := sl_t c1 h
      exact sa_sub [0, 1, 2, 3] rfl (w5_lost_72 C hR h)
    · replace h := sl_n c1 h
      refine sa_aload_n C dX5_lost_50 rfl 0 rfl ?_
      refine sa_iload_n C dX5_lost_51 rfl 1 rfl ?_
      obtain ⟨r2, er2, h⟩ := sl_b h
      refine sa_invVi C yy_X5_sightOf ⟨q_1020, q_67⟩ q_1018 dX5_lost_52 (As := [.int x1]) (rest := []) rfl ⟨Nat.le_trans (Nat.le_of_ble_eq_true rfl) hR.1, Nat.le_trans (Nat.le_of_ble_eq_true rfl) hR.2⟩ (Nat.le_of_ble_eq_true rfl) hh_X5 lr_0 (cc5_sightOf er2) rfl ?_
      refine sa_iload_n C dX5_lost_55 rfl 2 rfl ?_
      refine sa_invSi C yy_X5_has q_1030 q_1029 dX5_lost_56 (As := [.int r2, .int x2]) (rest := []) rfl ⟨Nat.le_trans (Nat.le_of_ble_eq_true rfl) hR.1, Nat.le_trans (Nat.le_of_ble_eq_true rfl) hR.2⟩ (Nat.le_of_ble_eq_true rfl) (cc5_has rfl) rfl ?_
      refine sa_if_eq C dX5_lost_59 (tgt := 72) (by decide) (fun c3 => ?_) (fun c3 => ?_)
      · replace h := sl_t c3 h
        exact sa_sub [0, 1, 2, 3] rfl (w5_lost_72 C hR h)
      · replace h := sl_n c3 h
        refine sa_aload_n C dX5_lost_62 rfl 0 rfl ?_
        obtain ⟨r4, er4, h⟩ := sl_b h
        refine sa_invVv C yy_X5_year ⟨q_1123, q_77⟩ q_1121 dX5_lost_63 (As := []) (rest := []) rfl ⟨Nat.le_trans (Nat.le_of_ble_eq_true rfl) hR.1, Nat.le_trans (Nat.le_of_ble_eq_true rfl) hR.2⟩ (Nat.le_of_ble_eq_true rfl) hh_X5 lr_0 (cc5_year er4) rfl ?_
        refine sa_iinc C dX5_lost_66 3 rfl (v := (x3 + (1 : Int32))) (by rw [ic_1]) (by decide) (lv2 := [(3, .int (x3 + (1 : Int32))), (0, .ref (g 0)), (1, .int x1), (2, .int x2)]) rfl ?_
        refine sa_goto C dX5_lost_69 (tgt := 44) (by decide) ?_
        exact sa_sub [1, 2, 3, 0] rfl (ih h)
theorem cc5_lost {D : va_G} {cA : ClassId} {g : Nat → Nat} {A : Nat → Prop} {z : sl_K} {l : Launch} {x1 : Int32} {x2 : Int32} {M : sl_M} {r : Int32 × sl_M} (h : f5_lost x1 x2 M = some r) : sl_N sl_cl LR D cA g A z l yX5_lost cX5_lost 5 (some .int) 6 137 [.ref (g 0), .int x1, .int x2] M (some (.int r.1)) r.2 := by
  refine sl_N.of (by decide) (Nat.le_of_ble_eq_true rfl) rfl ?_
  intro p e s m args below meth c C
  replace C : sl_C RX5 cX5_lost 5 (some .int) sl_cl LR D cA g A z p s m meth c := C
  have hR : 6 ≤ (({ frames := 6, cells := 0, slots := 0, locals := 137 } : Room)).frames ∧ 137 ≤ (({ frames := 6, cells := 0, slots := 0, locals := 137 } : Room)).locals := ⟨Nat.le_refl _, Nat.le_refl _⟩
  rw [f5_lost] at h
  refine sa_aload_n C dX5_lost_0 rfl 0 rfl ?_
  refine sa_iload_n C dX5_lost_1 rfl 1 rfl ?_
  obtain ⟨r1, er1, h⟩ := sl_b h
  refine sa_invVi C yy_X5_isHouse ⟨q_971, q_62⟩ q_969 dX5_lost_2 (As := [.int x1]) (rest := []) rfl ⟨Nat.le_trans (Nat.le_of_ble_eq_true rfl) hR.1, Nat.le_trans (Nat.le_of_ble_eq_true rfl) hR.2⟩ (Nat.le_of_ble_eq_true rfl) hh_X5 lr_0 (cc5_isHouse er1) rfl ?_
  refine sa_if_eq C dX5_lost_5 (tgt := 15) (by decide) (fun c2 => ?_) (fun c2 => ?_)
  · replace h := sl_t c2 h
    refine sa_aload_n C dX5_lost_15 rfl 0 rfl ?_
    refine sa_ldc C dX5_lost_16 q_910 ?_
    obtain ⟨r3, er3, h⟩ := sl_b h
    refine sa_invVi C yy_X5_finds ⟨q_913, q_54⟩ q_911 dX5_lost_18 (As := [.int (-1000001 : Int32)]) (rest := []) rfl ⟨Nat.le_trans (Nat.le_of_ble_eq_true rfl) hR.1, Nat.le_trans (Nat.le_of_ble_eq_true rfl) hR.2⟩ (Nat.le_of_ble_eq_true rfl) hh_X5 lr_0 (cc5_finds er3) rfl ?_
    exact sa_iret C dX5_lost_21 (sl_p1 h) (sl_p2 h)
  · replace h := sl_n c2 h
    refine sa_iload_n C dX5_lost_8 rfl 2 rfl ?_
    refine sa_invSi C yy_X5_isCell q_903 q_902 dX5_lost_9 (As := [.int x2]) (rest := []) rfl ⟨Nat.le_trans (Nat.le_of_ble_eq_true rfl) hR.1, Nat.le_trans (Nat.le_of_ble_eq_true rfl) hR.2⟩ (Nat.le_of_ble_eq_true rfl) (cc5_isCell rfl) rfl ?_
    refine sa_if_ne C dX5_lost_12 (tgt := 22) (by decide) (fun c4 => ?_) (fun c4 => ?_)
    · replace h := sl_n c4 h
      refine sa_aload_n C dX5_lost_22 rfl 0 rfl ?_
      refine sa_bipush C dX5_lost_23 bp_60 ?_
      obtain ⟨r5, er5, h⟩ := sl_b h
      refine sa_invVi C yy_X5_isTooFar ⟨q_1111, q_74⟩ q_1109 dX5_lost_25 (As := [.int (60 : Int32)]) (rest := []) rfl ⟨Nat.le_trans (Nat.le_of_ble_eq_true rfl) hR.1, Nat.le_trans (Nat.le_of_ble_eq_true rfl) hR.2⟩ (Nat.le_of_ble_eq_true rfl) hh_X5 lr_0 (cc5_isTooFar er5) rfl ?_
      refine sa_if_eq C dX5_lost_28 (tgt := 38) (by decide) (fun c6 => ?_) (fun c6 => ?_)
      · replace h := sl_t c6 h
        refine sa_aload_n C dX5_lost_38 rfl 0 rfl ?_
        obtain ⟨r7, er7, h⟩ := sl_b h
        refine sa_invVv C yy_X5_puts ⟨q_1115, q_75⟩ q_1113 dX5_lost_39 (As := []) (rest := []) rfl ⟨Nat.le_trans (Nat.le_of_ble_eq_true rfl) hR.1, Nat.le_trans (Nat.le_of_ble_eq_true rfl) hR.2⟩ (Nat.le_of_ble_eq_true rfl) hh_X5 lr_0 (cc5_puts er7) rfl ?_
        refine sa_iconst C dX5_lost_42 ic_0 ?_
        refine sa_istore_n C dX5_lost_43 rfl (by decide) (lv2 := [(3, .int (0 : Int32)), (0, .ref (g 0)), (1, .int x1), (2, .int x2)]) rfl ?_
        exact sa_sub [1, 2, 3, 0] rfl (w5_lost_44 C hR 400 h)
      · replace h := sl_n c6 h
        refine sa_aload_n C dX5_lost_31 rfl 0 rfl ?_
        refine sa_ldc C dX5_lost_32 q_1056 ?_
        obtain ⟨r8, er8, h⟩ := sl_b h
        refine sa_invVi C yy_X5_finds ⟨q_913, q_54⟩ q_911 dX5_lost_34 (As := [.int (-1000005 : Int32)]) (rest := []) rfl ⟨Nat.le_trans (Nat.le_of_ble_eq_true rfl) hR.1, Nat.le_trans (Nat.le_of_ble_eq_true rfl) hR.2⟩ (Nat.le_of_ble_eq_true rfl) hh_X5 lr_0 (cc5_finds er8) rfl ?_
        exact sa_iret C dX5_lost_37 (sl_p1 h) (sl_p2 h)
    · replace h := sl_t c4 h
      refine sa_aload_n C dX5_lost_15 rfl 0 rfl ?_
      refine sa_ldc C dX5_lost_16 q_910 ?_
      obtain ⟨r9, er9, h⟩ := sl_b h
      refine sa_invVi C yy_X5_finds ⟨q_913, q_54⟩ q_911 dX5_lost_18 (As := [.int (-1000001 : Int32)]) (rest := []) rfl ⟨Nat.le_trans (Nat.le_of_ble_eq_true rfl) hR.1, Nat.le_trans (Nat.le_of_ble_eq_true rfl) hR.2⟩ (Nat.le_of_ble_eq_true rfl) hh_X5 lr_0 (cc5_finds er9) rfl ?_
      exact sa_iret C dX5_lost_21 (sl_p1 h) (sl_p2 h)
/-! X5 when -/
def f5_when_76 (k46 : Int32 → Int32 → Int32 → sl_M → Option (Int32 × sl_M)) (x1 : Int32) (x3 : Int32) (x4 : Int32) (x5 : Int32) (t0 : Int32) (M : sl_M) : Option (Int32 × sl_M) := (if x3 ≤ x5 then k46 t0 x3 (x4 + (1 : Int32)) M else k46 t0 x5 (x4 + (1 : Int32)) M)
def f5_when_46 (x1 : Int32) : Nat → Int32 → Int32 → Int32 → sl_M → Option (Int32 × sl_M)
  | 0, _, _, _, _ => none
  | n + 1, x2, x3, x4, M => (if (60 : Int32) < x4 then (f5_putsBack M).bind fun r2 => some (x2, r2) else (f5_year M).bind fun r3 => (f5_taxOf x1 r3).bind fun r4 => (if x3 ≤ r4 then f5_when_76 (f5_when_46 x1 n) x1 x3 x4 r4 x2 r3 else f5_when_76 (f5_when_46 x1 n) x1 x3 x4 r4 x4 r3))
def f5_when (x1 : Int32) (M : sl_M) : Option (Int32 × sl_M) := (f5_isHouse x1 M).bind fun r1 => (if r1 = 0 then (f5_finds (-1000001 : Int32) M).bind fun r8 => some (r8.1, r8.2) else (f5_isTooFar (60 : Int32) M).bind fun r3 => (if r3 = 0 then (f5_puts M).bind fun r5 => (f5_taxOf x1 r5).bind fun r6 => f5_when_46 x1 400 (0 : Int32) r6 (1 : Int32) r5 else (f5_finds (-1000005 : Int32) M).bind fun r7 => some (r7.1, r7.2)))
theorem w5_when_76 {D : va_G} {cA : ClassId} {g : Nat → Nat} {A : Nat → Prop} {z : sl_K} {l : Launch} {p : Program} {e : Env} {R : Room} {s : State} {m : MethodId} {args : Array Value} {below : List Frame} {meth : Method} {c : Code} (C : sl_C RX5 cX5_when 6 (some .int) sl_cl LR D cA g A z p s m meth c) (hR : 7 ≤ R.frames ∧ 161 ≤ R.locals) {M : sl_M} {r : Int32 × sl_M} {x1 : Int32} {x3 : Int32} {x4 : Int32} {x5 : Int32} {t0 : Int32} {k46 : Int32 → Int32 → Int32 → sl_M → Option (Int32 × sl_M)} (hk46 : ∀ {x2 : Int32} {x3 : Int32} {x4 : Int32} {M : sl_M}, k46 x2 x3 x4 M = some r → sl_A sl_cl LR D cA g A p l e R s m args below meth c (MQ below (sl_Q sl_cl LR D cA g A (some (.int r.1)) r.2) args s 0 0 A) 6 46 [(0, .ref (g 0)), (1, .int x1), (2, .int x2), (3, .int x3), (4, .int x4)] [] M) (h : f5_when_76 k46 x1 x3 x4 x5 t0 M = some r) : sl_A sl_cl LR D cA g A p l e R s m args below meth c (MQ below (sl_Q sl_cl LR D cA g A (some (.int r.1)) r.2) args s 0 0 A) 6 76 [(0, .ref (g 0)), (1, .int x1), (3, .int x3), (4, .int x4), (5, .int x5)] [.int t0] M := by
  rw [f5_when_76] at h
  refine sa_istore_n C dX5_when_76 rfl (by decide) (lv2 := [(2, .int t0), (0, .ref (g 0)), (1, .int x1), (3, .int x3), (4, .int x4), (5, .int x5)]) rfl ?_
  refine sa_iload C dX5_when_77 5 rfl ?_
  refine sa_iload_n C dX5_when_79 rfl 3 rfl ?_
  refine sa_icmp_ge C dX5_when_80 (tgt := 88) (by decide) (fun c1 => ?_) (fun c1 => ?_)
  · replace h := sl_t c1 h
    refine sa_iload_n C dX5_when_88 rfl 3 rfl ?_
    refine sa_istore_n C dX5_when_89 rfl (by decide) (lv2 := [(3, .int x3), (2, .int t0), (0, .ref (g 0)), (1, .int x1), (4, .int x4), (5, .int x5)]) rfl ?_
    refine sa_iinc C dX5_when_90 4 rfl (v := (x4 + (1 : Int32))) (by rw [ic_1]) (by decide) (lv2 := [(4, .int (x4 + (1 : Int32))), (3, .int x3), (2, .int t0), (0, .ref (g 0)), (1, .int x1), (5, .int x5)]) rfl ?_
    refine sa_goto C dX5_when_93 (tgt := 46) (by decide) ?_
    exact sa_sub [3, 4, 2, 1, 0] rfl (hk46 h)
  · replace h := sl_n c1 h
    refine sa_iload C dX5_when_83 5 rfl ?_
    refine sa_goto C dX5_when_85 (tgt := 89) (by decide) ?_
    refine sa_istore_n C dX5_when_89 rfl (by decide) (lv2 := [(3, .int x5), (2, .int t0), (0, .ref (g 0)), (1, .int x1), (4, .int x4), (5, .int x5)]) rfl ?_
    refine sa_iinc C dX5_when_90 4 rfl (v := (x4 + (1 : Int32))) (by rw [ic_1]) (by decide) (lv2 := [(4, .int (x4 + (1 : Int32))), (3, .int x5), (2, .int t0), (0, .ref (g 0)), (1, .int x1), (5, .int x5)]) rfl ?_
    refine sa_goto C dX5_when_93 (tgt := 46) (by decide) ?_
    exact sa_sub [3, 4, 2, 1, 0] rfl (hk46 h)
theorem w5_when_46 {D : va_G} {cA : ClassId} {g : Nat → Nat} {A : Nat → Prop} {z : sl_K} {l : Launch} {p : Program} {e : Env} {R : Room} {s : State} {m : MethodId} {args : Array Value} {below : List Frame} {meth : Method} {c : Code} (C : sl_C RX5 cX5_when 6 (some .int) sl_cl LR D cA g A z p s m meth c) (hR : 7 ≤ R.frames ∧ 161 ≤ R.locals) {r : Int32 × sl_M} {x1 : Int32} : ∀ (n : Nat) {x2 : Int32} {x3 : Int32} {x4 : Int32} {M : sl_M}, f5_when_46 x1 n x2 x3 x4 M = some r → sl_A sl_cl LR D cA g A p l e R s m args below meth c (MQ below (sl_Q sl_cl LR D cA g A (some (.int r.1)) r.2) args s 0 0 A) 6 46 [(0, .ref (g 0)), (1, .int x1), (2, .int x2), (3, .int x3), (4, .int x4)] [] M := by
  intro n
  induction n with
  | zero =>
    intro x2 x3 x4 M h
    exact absurd h.symm (Option.some_ne_none _)
  | succ n ih =>
    intro x2 x3 x4 M h
    rw [f5_when_46] at h
    refine sa_iload C dX5_when_46 4 rfl ?_
    refine sa_bipush C dX5_when_48 bp_60 ?_
    refine sa_icmp_gt C dX5_when_50 (tgt := 96) (by decide) (fun c1 => ?_) (fun c1 => ?_)
    · replace h := sl_t c1 h
      refine sa_aload_n C dX5_when_96 rfl 0 rfl ?_
      obtain ⟨r2, er2, h⟩ := sl_b h
      refine sa_invVv C yy_X5_putsBack ⟨q_1127, q_78⟩ q_1125 dX5_when_97 (As := []) (rest := []) rfl ⟨Nat.le_trans (Nat.le_of_ble_eq_true rfl) hR.1, Nat.le_trans (Nat.le_of_ble_eq_true rfl) hR.2⟩ (Nat.le_of_ble_eq_true rfl) hh_X5 lr_0 (cc5_putsBack er2) rfl ?_
      refine sa_iload_n C dX5_when_100 rfl 2 rfl ?_
      exact sa_iret C dX5_when_101 (sl_p1 h) (sl_p2 h)
    · replace h := sl_n c1 h
      refine sa_aload_n C dX5_when_53 rfl 0 rfl ?_
      obtain ⟨r3, er3, h⟩ := sl_b h
      refine sa_invVv C yy_X5_year ⟨q_1123, q_77⟩ q_1121 dX5_when_54 (As := []) (rest := []) rfl ⟨Nat.le_trans (Nat.le_of_ble_eq_true rfl) hR.1, Nat.le_trans (Nat.le_of_ble_eq_true rfl) hR.2⟩ (Nat.le_of_ble_eq_true rfl) hh_X5 lr_0 (cc5_year er3) rfl ?_
      refine sa_aload_n C dX5_when_57 rfl 0 rfl ?_
      refine sa_iload_n C dX5_when_58 rfl 1 rfl ?_
      obtain ⟨r4, er4, h⟩ := sl_b h
      refine sa_invVi C yy_X5_taxOf ⟨q_1064, q_71⟩ q_1062 dX5_when_59 (As := [.int x1]) (rest := []) rfl ⟨Nat.le_trans (Nat.le_of_ble_eq_true rfl) hR.1, Nat.le_trans (Nat.le_of_ble_eq_true rfl) hR.2⟩ (Nat.le_of_ble_eq_true rfl) hh_X5 lr_0 (cc5_taxOf er4) rfl ?_
      refine sa_istore C dX5_when_62 (by decide) (lv2 := [(5, .int r4), (0, .ref (g 0)), (1, .int x1), (2, .int x2), (3, .int x3), (4, .int x4)]) rfl ?_
      refine sa_iload C dX5_when_64 0 rfl ?_
      refine sa_iload_n C dX5_when_66 rfl 4 rfl ?_
      refine sa_icmp_ge C dX5_when_67 (tgt := 75) (by decide) (fun c5 => ?_) (fun c5 => ?_)
      · replace h := sl_t c5 h
        refine sa_iload_n C dX5_when_75 rfl 3 rfl ?_
        exact sa_sub [1, 2, 4, 5, 0] rfl (w5_when_76 C hR (fun h => ih h) h)
      · replace h := sl_n c5 h
        refine sa_iload C dX5_when_70 5 rfl ?_
        refine sa_goto C dX5_when_72 (tgt := 76) (by decide) ?_
        exact sa_sub [1, 2, 4, 5, 0] rfl (w5_when_76 C hR (fun h => ih h) h)
theorem cc5_when {D : va_G} {cA : ClassId} {g : Nat → Nat} {A : Nat → Prop} {z : sl_K} {l : Launch} {x1 : Int32} {M : sl_M} {r : Int32 × sl_M} (h : f5_when x1 M = some r) : sl_N sl_cl LR D cA g A z l yX5_when cX5_when 6 (some .int) 7 161 [.ref (g 0), .int x1] M (some (.int r.1)) r.2 := by
  refine sl_N.of (by decide) (Nat.le_of_ble_eq_true rfl) rfl ?_
  intro p e s m args below meth c C
  replace C : sl_C RX5 cX5_when 6 (some .int) sl_cl LR D cA g A z p s m meth c := C
  have hR : 7 ≤ (({ frames := 7, cells := 0, slots := 0, locals := 161 } : Room)).frames ∧ 161 ≤ (({ frames := 7, cells := 0, slots := 0, locals := 161 } : Room)).locals := ⟨Nat.le_refl _, Nat.le_refl _⟩
  rw [f5_when] at h
  refine sa_aload_n C dX5_when_0 rfl 0 rfl ?_
  refine sa_iload_n C dX5_when_1 rfl 1 rfl ?_
  obtain ⟨r1, er1, h⟩ := sl_b h
  refine sa_invVi C yy_X5_isHouse ⟨q_971, q_62⟩ q_969 dX5_when_2 (As := [.int x1]) (rest := []) rfl ⟨Nat.le_trans (Nat.le_of_ble_eq_true rfl) hR.1, Nat.le_trans (Nat.le_of_ble_eq_true rfl) hR.2⟩ (Nat.le_of_ble_eq_true rfl) hh_X5 lr_0 (cc5_isHouse er1) rfl ?_
  refine sa_if_ne C dX5_when_5 (tgt := 15) (by decide) (fun c2 => ?_) (fun c2 => ?_)
  · replace h := sl_n c2 h
    refine sa_aload_n C dX5_when_15 rfl 0 rfl ?_
    refine sa_bipush C dX5_when_16 bp_60 ?_
    obtain ⟨r3, er3, h⟩ := sl_b h
    refine sa_invVi C yy_X5_isTooFar ⟨q_1111, q_74⟩ q_1109 dX5_when_18 (As := [.int (60 : Int32)]) (rest := []) rfl ⟨Nat.le_trans (Nat.le_of_ble_eq_true rfl) hR.1, Nat.le_trans (Nat.le_of_ble_eq_true rfl) hR.2⟩ (Nat.le_of_ble_eq_true rfl) hh_X5 lr_0 (cc5_isTooFar er3) rfl ?_
    refine sa_if_eq C dX5_when_21 (tgt := 31) (by decide) (fun c4 => ?_) (fun c4 => ?_)
    · replace h := sl_t c4 h
      refine sa_aload_n C dX5_when_31 rfl 0 rfl ?_
      obtain ⟨r5, er5, h⟩ := sl_b h
      refine sa_invVv C yy_X5_puts ⟨q_1115, q_75⟩ q_1113 dX5_when_32 (As := []) (rest := []) rfl ⟨Nat.le_trans (Nat.le_of_ble_eq_true rfl) hR.1, Nat.le_trans (Nat.le_of_ble_eq_true rfl) hR.2⟩ (Nat.le_of_ble_eq_true rfl) hh_X5 lr_0 (cc5_puts er5) rfl ?_
      refine sa_iconst C dX5_when_35 ic_0 ?_
      refine sa_istore_n C dX5_when_36 rfl (by decide) (lv2 := [(2, .int (0 : Int32)), (0, .ref (g 0)), (1, .int x1)]) rfl ?_
      refine sa_aload_n C dX5_when_37 rfl 1 rfl ?_
      refine sa_iload_n C dX5_when_38 rfl 2 rfl ?_
      obtain ⟨r6, er6, h⟩ := sl_b h
      refine sa_invVi C yy_X5_taxOf ⟨q_1064, q_71⟩ q_1062 dX5_when_39 (As := [.int x1]) (rest := []) rfl ⟨Nat.le_trans (Nat.le_of_ble_eq_true rfl) hR.1, Nat.le_trans (Nat.le_of_ble_eq_true rfl) hR.2⟩ (Nat.le_of_ble_eq_true rfl) hh_X5 lr_0 (cc5_taxOf er6) rfl ?_
      refine sa_istore_n C dX5_when_42 rfl (by decide) (lv2 := [(3, .int r6), (2, .int (0 : Int32)), (0, .ref (g 0)), (1, .int x1)]) rfl ?_
      refine sa_iconst C dX5_when_43 ic_1 ?_
      refine sa_istore C dX5_when_44 (by decide) (lv2 := [(4, .int (1 : Int32)), (3, .int r6), (2, .int (0 : Int32)), (0, .ref (g 0)), (1, .int x1)]) rfl ?_
      exact sa_sub [3, 4, 2, 1, 0] rfl (w5_when_46 C hR 400 h)
    · replace h := sl_n c4 h
      refine sa_aload_n C dX5_when_24 rfl 0 rfl ?_
      refine sa_ldc C dX5_when_25 q_1056 ?_
      obtain ⟨r7, er7, h⟩ := sl_b h
      refine sa_invVi C yy_X5_finds ⟨q_913, q_54⟩ q_911 dX5_when_27 (As := [.int (-1000005 : Int32)]) (rest := []) rfl ⟨Nat.le_trans (Nat.le_of_ble_eq_true rfl) hR.1, Nat.le_trans (Nat.le_of_ble_eq_true rfl) hR.2⟩ (Nat.le_of_ble_eq_true rfl) hh_X5 lr_0 (cc5_finds er7) rfl ?_
      exact sa_iret C dX5_when_30 (sl_p1 h) (sl_p2 h)
  · replace h := sl_t c2 h
    refine sa_aload_n C dX5_when_8 rfl 0 rfl ?_
    refine sa_ldc C dX5_when_9 q_910 ?_
    obtain ⟨r8, er8, h⟩ := sl_b h
    refine sa_invVi C yy_X5_finds ⟨q_913, q_54⟩ q_911 dX5_when_11 (As := [.int (-1000001 : Int32)]) (rest := []) rfl ⟨Nat.le_trans (Nat.le_of_ble_eq_true rfl) hR.1, Nat.le_trans (Nat.le_of_ble_eq_true rfl) hR.2⟩ (Nat.le_of_ble_eq_true rfl) hh_X5 lr_0 (cc5_finds er8) rfl ?_
    exact sa_iret C dX5_when_14 (sl_p1 h) (sl_p2 h)
/-! X5 quake -/
def f5_quake_63 : Nat → Int32 → Int32 → sl_M → Option (Int32 × sl_M)
  | 0, _, _, _ => none
  | n + 1, x2, x3, M => (if (24 : Int32) ≤ x3 then some (x2, M) else (f5_heightOf x3 M).bind fun r2 => f5_quake_63 n (x2 + r2) (x3 + (1 : Int32)) M)
def f5_quake_21 (x1 : Int32) : Nat → Int32 → sl_M → Option (Int32 × sl_M)
  | 0, _, _ => none
  | n + 1, x2, M => (if x1 ≤ x2 then f5_quake_63 400 (0 : Int32) (0 : Int32) M else (f5_next M).bind fun r2 => (f5_next r2.2).bind fun r3 => (sl_st r3.2 1 111 (((5 : Int32) + ((3 : Int32) * (r2.1 - r2.1 / (24 : Int32) * (24 : Int32)))) + (1 : Int32)) (r3.1 - r3.1 / (100 : Int32) * (100 : Int32))).bind fun M4 => f5_quake_21 x1 n (x2 + (1 : Int32)) M4)
def f5_quake (x1 : Int32) (M : sl_M) : Option (Int32 × sl_M) := (if (f5_in x1.toInt64 (1 : Int64) (10 : Int64)) = 0 then (f5_finds (-1000001 : Int32) M).bind fun r2 => some (r2.1, r2.2) else f5_quake_21 x1 400 (0 : Int32) M)
theorem w5_quake_63 {D : va_G} {cA : ClassId} {g : Nat → Nat} {A : Nat → Prop} {z : sl_K} {l : Launch} {p : Program} {e : Env} {R : Room} {s : State} {m : MethodId} {args : Array Value} {below : List Frame} {meth : Method} {c : Code} (C : sl_C RX5 cX5_quake 4 (some .int) sl_cl LR D cA g A z p s m meth c) (hR : 1 ≤ R.frames ∧ 25 ≤ R.locals) {r : Int32 × sl_M} : ∀ (n : Nat) {x2 : Int32} {x3 : Int32} {M : sl_M}, f5_quake_63 n x2 x3 M = some r → sl_A sl_cl LR D cA g A p l e R s m args below meth c (MQ below (sl_Q sl_cl LR D cA g A (some (.int r.1)) r.2) args s 0 0 A) 4 63 [(0, .ref (g 0)), (2, .int x2), (3, .int x3)] [] M := by
  intro n
  induction n with
  | zero =>
    intro x2 x3 M h
    exact absurd h.symm (Option.some_ne_none _)
  | succ n ih =>
    intro x2 x3 M h
    rw [f5_quake_63] at h
    refine sa_iload_n C dX5_quake_63 rfl 2 rfl ?_
    refine sa_bipush C dX5_quake_64 bp_24 ?_
    refine sa_icmp_ge C dX5_quake_66 (tgt := 83) (by decide) (fun c1 => ?_) (fun c1 => ?_)
    · replace h := sl_t c1 h
      refine sa_iload_n C dX5_quake_83 rfl 1 rfl ?_
      exact sa_iret C dX5_quake_84 (sl_p1 h) (sl_p2 h)
    · replace h := sl_n c1 h
      refine sa_iload_n C dX5_quake_69 rfl 1 rfl ?_
      refine sa_aload_n C dX5_quake_70 rfl 0 rfl ?_
      refine sa_iload_n C dX5_quake_71 rfl 2 rfl ?_
      obtain ⟨r2, er2, h⟩ := sl_b h
      refine sa_invVi C yy_X5_heightOf ⟨q_946, q_59⟩ q_944 dX5_quake_72 (As := [.int x3]) (rest := [.int x2]) rfl ⟨Nat.le_trans (Nat.le_of_ble_eq_true rfl) hR.1, Nat.le_trans (Nat.le_of_ble_eq_true rfl) hR.2⟩ (Nat.le_of_ble_eq_true rfl) hh_X5 lr_0 (cc5_heightOf er2) rfl ?_
      refine sa_iadd C dX5_quake_75 ?_
      refine sa_istore_n C dX5_quake_76 rfl (by decide) (lv2 := [(2, .int (x2 + r2)), (0, .ref (g 0)), (3, .int x3)]) rfl ?_
      refine sa_iinc C dX5_quake_77 2 rfl (v := (x3 + (1 : Int32))) (by rw [ic_1]) (by decide) (lv2 := [(3, .int (x3 + (1 : Int32))), (2, .int (x2 + r2)), (0, .ref (g 0))]) rfl ?_
      refine sa_goto C dX5_quake_80 (tgt := 63) (by decide) ?_
      exact sa_sub [2, 1, 0] rfl (ih h)
theorem w5_quake_21 {D : va_G} {cA : ClassId} {g : Nat → Nat} {A : Nat → Prop} {z : sl_K} {l : Launch} {p : Program} {e : Env} {R : Room} {s : State} {m : MethodId} {args : Array Value} {below : List Frame} {meth : Method} {c : Code} (C : sl_C RX5 cX5_quake 4 (some .int) sl_cl LR D cA g A z p s m meth c) (hR : 1 ≤ R.frames ∧ 25 ≤ R.locals) {r : Int32 × sl_M} {x1 : Int32} : ∀ (n : Nat) {x2 : Int32} {M : sl_M}, f5_quake_21 x1 n x2 M = some r → sl_A sl_cl LR D cA g A p l e R s m args below meth c (MQ below (sl_Q sl_cl LR D cA g A (some (.int r.1)) r.2) args s 0 0 A) 4 21 [(0, .ref (g 0)), (1, .int x1), (2, .int x2)] [] M := by
  intro n
  induction n with
  | zero =>
    intro x2 M h
    exact absurd h.symm (Option.some_ne_none _)
  | succ n ih =>
    intro x2 M h
    rw [f5_quake_21] at h
    refine sa_iload_n C dX5_quake_21 rfl 2 rfl ?_
    refine sa_iload_n C dX5_quake_22 rfl 1 rfl ?_
    refine sa_icmp_ge C dX5_quake_23 (tgt := 59) (by decide) (fun c1 => ?_) (fun c1 => ?_)
    · replace h := sl_t c1 h
      refine sa_iconst C dX5_quake_59 ic_0 ?_
      refine sa_istore_n C dX5_quake_60 rfl (by decide) (lv2 := [(2, .int (0 : Int32)), (0, .ref (g 0)), (1, .int x1)]) rfl ?_
      refine sa_iconst C dX5_quake_61 ic_0 ?_
      refine sa_istore_n C dX5_quake_62 rfl (by decide) (lv2 := [(3, .int (0 : Int32)), (2, .int (0 : Int32)), (0, .ref (g 0)), (1, .int x1)]) rfl ?_
      exact sa_sub [2, 1, 0] rfl (w5_quake_63 C hR 400 h)
    · replace h := sl_n c1 h
      refine sa_aload_n C dX5_quake_26 rfl 0 rfl ?_
      obtain ⟨r2, er2, h⟩ := sl_b h
      refine sa_invVi C yy_X5_next ⟨q_1197, q_81⟩ q_1195 dX5_quake_27 (As := []) (rest := []) rfl ⟨Nat.le_trans (Nat.le_of_ble_eq_true rfl) hR.1, Nat.le_trans (Nat.le_of_ble_eq_true rfl) hR.2⟩ (Nat.le_of_ble_eq_true rfl) hh_X5 lr_0 (cc5_next er2) rfl ?_
      refine sa_bipush C dX5_quake_30 bp_24 ?_
      refine sa_iremc C dX5_quake_32 (by decide) ?_
      refine sa_istore_n C dX5_quake_33 rfl (by decide) (lv2 := [(3, .int (r2.1 - r2.1 / (24 : Int32) * (24 : Int32))), (0, .ref (g 0)), (1, .int x1), (2, .int x2)]) rfl ?_
      refine sa_aload_n C dX5_quake_34 rfl 1 rfl ?_
      refine sa_getR C hh_X5 (k := 0) dX5_quake_35 q_837 (by decide) lr_0 rfl ?_
      refine sa_iconst C dX5_quake_38 ic_5 ?_
      refine sa_iconst C dX5_quake_39 ic_3 ?_
      refine sa_iload_n C dX5_quake_40 rfl 0 rfl ?_
      refine sa_imul C dX5_quake_41 ?_
      refine sa_iadd C dX5_quake_42 ?_
      refine sa_iconst C dX5_quake_43 ic_1 ?_
      refine sa_iadd C dX5_quake_44 ?_
      refine sa_aload_n C dX5_quake_45 rfl 1 rfl ?_
      obtain ⟨r3, er3, h⟩ := sl_b h
      refine sa_invVi C yy_X5_next ⟨q_1197, q_81⟩ q_1195 dX5_quake_46 (As := []) (rest := [.int (((5 : Int32) + ((3 : Int32) * (r2.1 - r2.1 / (24 : Int32) * (24 : Int32)))) + (1 : Int32)), .ref (g 1)]) rfl ⟨Nat.le_trans (Nat.le_of_ble_eq_true rfl) hR.1, Nat.le_trans (Nat.le_of_ble_eq_true rfl) hR.2⟩ (Nat.le_of_ble_eq_true rfl) hh_X5 lr_0 (cc5_next er3) rfl ?_
      refine sa_bipush C dX5_quake_49 bp_100 ?_
      refine sa_iremc C dX5_quake_51 (by decide) ?_
      obtain ⟨M4, eM4, h⟩ := sl_b h
      refine sa_iast C dX5_quake_52 lr_1 eM4 ?_
      refine sa_iinc C dX5_quake_53 3 rfl (v := (x2 + (1 : Int32))) (by rw [ic_1]) (by decide) (lv2 := [(2, .int (x2 + (1 : Int32))), (3, .int (r2.1 - r2.1 / (24 : Int32) * (24 : Int32))), (0, .ref (g 0)), (1, .int x1)]) rfl ?_
      refine sa_goto C dX5_quake_56 (tgt := 21) (by decide) ?_
      exact sa_sub [2, 3, 0] rfl (ih h)
theorem cc5_quake {D : va_G} {cA : ClassId} {g : Nat → Nat} {A : Nat → Prop} {z : sl_K} {l : Launch} {x1 : Int32} {M : sl_M} {r : Int32 × sl_M} (h : f5_quake x1 M = some r) : sl_N sl_cl LR D cA g A z l yX5_quake cX5_quake 4 (some .int) 1 25 [.ref (g 0), .int x1] M (some (.int r.1)) r.2 := by
  refine sl_N.of (by decide) (Nat.le_of_ble_eq_true rfl) rfl ?_
  intro p e s m args below meth c C
  replace C : sl_C RX5 cX5_quake 4 (some .int) sl_cl LR D cA g A z p s m meth c := C
  have hR : 1 ≤ (({ frames := 1, cells := 0, slots := 0, locals := 25 } : Room)).frames ∧ 25 ≤ (({ frames := 1, cells := 0, slots := 0, locals := 25 } : Room)).locals := ⟨Nat.le_refl _, Nat.le_refl _⟩
  rw [f5_quake] at h
  refine sa_iload_n C dX5_quake_0 rfl 1 rfl ?_
  refine sa_i2l C dX5_quake_1 ?_
  refine sa_lconst C dX5_quake_2 (v := 1) rfl ?_
  refine sa_ldc2 C dX5_quake_3 q_1194 ?_
  refine sa_invSi C yy_X5_in q_907 q_906 dX5_quake_6 (As := [.long x1.toInt64, .long (1 : Int64), .long (10 : Int64)]) (rest := []) rfl ⟨Nat.le_trans (Nat.le_of_ble_eq_true rfl) hR.1, Nat.le_trans (Nat.le_of_ble_eq_true rfl) hR.2⟩ (Nat.le_of_ble_eq_true rfl) (cc5_in rfl) rfl ?_
  refine sa_if_ne C dX5_quake_9 (tgt := 19) (by decide) (fun c1 => ?_) (fun c1 => ?_)
  · replace h := sl_n c1 h
    refine sa_iconst C dX5_quake_19 ic_0 ?_
    refine sa_istore_n C dX5_quake_20 rfl (by decide) (lv2 := [(2, .int (0 : Int32)), (0, .ref (g 0)), (1, .int x1)]) rfl ?_
    exact sa_sub [1, 2, 0] rfl (w5_quake_21 C hR 400 h)
  · replace h := sl_t c1 h
    refine sa_aload_n C dX5_quake_12 rfl 0 rfl ?_
    refine sa_ldc C dX5_quake_13 q_910 ?_
    obtain ⟨r2, er2, h⟩ := sl_b h
    refine sa_invVi C yy_X5_finds ⟨q_913, q_54⟩ q_911 dX5_quake_15 (As := [.int (-1000001 : Int32)]) (rest := []) rfl ⟨Nat.le_trans (Nat.le_of_ble_eq_true rfl) hR.1, Nat.le_trans (Nat.le_of_ble_eq_true rfl) hR.2⟩ (Nat.le_of_ble_eq_true rfl) hh_X5 lr_0 (cc5_finds er2) rfl ?_
    exact sa_iret C dX5_quake_18 (sl_p1 h) (sl_p2 h)
/-! X5 seed -/
def f5_seed (x1 : Int32) (M : sl_M) : Option (Int32 × sl_M) := (sl_ld (M 1) 111 (4 : Int32)).bind fun v1 => (sl_st M 1 111 (4 : Int32) x1).bind fun M2 => some (v1, M2)
theorem cc5_seed {D : va_G} {cA : ClassId} {g : Nat → Nat} {A : Nat → Prop} {z : sl_K} {l : Launch} {x1 : Int32} {M : sl_M} {r : Int32 × sl_M} (h : f5_seed x1 M = some r) : sl_N sl_cl LR D cA g A z l yX5_seed cX5_seed 3 (some .int) 0 0 [.ref (g 0), .int x1] M (some (.int r.1)) r.2 := by
  refine sl_N.of (by decide) (Nat.le_of_ble_eq_true rfl) rfl ?_
  intro p e s m args below meth c C
  replace C : sl_C RX5 cX5_seed 3 (some .int) sl_cl LR D cA g A z p s m meth c := C
  have hR : 0 ≤ (({ frames := 0, cells := 0, slots := 0, locals := 0 } : Room)).frames ∧ 0 ≤ (({ frames := 0, cells := 0, slots := 0, locals := 0 } : Room)).locals := ⟨Nat.le_refl _, Nat.le_refl _⟩
  rw [f5_seed] at h
  refine sa_aload_n C dX5_seed_0 rfl 0 rfl ?_
  refine sa_getR C hh_X5 (k := 0) dX5_seed_1 q_837 (by decide) lr_0 rfl ?_
  refine sa_iconst C dX5_seed_4 ic_4 ?_
  obtain ⟨v1, ev1, h⟩ := sl_b h
  refine sa_iald C dX5_seed_5 lr_1 ev1 ?_
  refine sa_istore_n C dX5_seed_6 rfl (by decide) (lv2 := [(2, .int v1), (0, .ref (g 0)), (1, .int x1)]) rfl ?_
  refine sa_aload_n C dX5_seed_7 rfl 1 rfl ?_
  refine sa_getR C hh_X5 (k := 0) dX5_seed_8 q_837 (by decide) lr_0 rfl ?_
  refine sa_iconst C dX5_seed_11 ic_4 ?_
  refine sa_iload_n C dX5_seed_12 rfl 2 rfl ?_
  obtain ⟨M2, eM2, h⟩ := sl_b h
  refine sa_iast C dX5_seed_13 lr_1 eM2 ?_
  refine sa_iload_n C dX5_seed_14 rfl 0 rfl ?_
  exact sa_iret C dX5_seed_15 (sl_p1 h) (sl_p2 h)
/-! X5 feed -/
def f5_feed_41 (x1 : Int32) : Nat → Int32 → sl_M → Option (Int32 × sl_M)
  | 0, _, _ => none
  | n + 1, x3, M => (if x3 < 0 then some ((M 0 11), M) else (sl_st M 7 120 (M 0 11) ((x1 >>> (((8 : Int32) * x3) &&& 31)) &&& (255 : Int32))).bind fun M2 => f5_feed_41 x1 n (x3 + (-1 : Int32)) (sl_up M2 0 11 ((M2 0 11) + (1 : Int32))))
def f5_feed (x1 : Int32) (x2 : Int32) (M : sl_M) : Option (Int32 × sl_M) := (if (f5_in x2.toInt64 (1 : Int64) (4 : Int64)) = 0 then (f5_finds (-1000001 : Int32) M).bind fun r4 => some (r4.1, r4.2) else (if ((M 0 11) + x2) ≤ (120 : Int32) then f5_feed_41 x1 400 (x2 - (1 : Int32)) M else (f5_finds (-1000002 : Int32) M).bind fun r3 => some (r3.1, r3.2)))
theorem w5_feed_41 {D : va_G} {cA : ClassId} {g : Nat → Nat} {A : Nat → Prop} {z : sl_K} {l : Launch} {p : Program} {e : Env} {R : Room} {s : State} {m : MethodId} {args : Array Value} {below : List Frame} {meth : Method} {c : Code} (C : sl_C RX5 cX5_feed 4 (some .int) sl_cl LR D cA g A z p s m meth c) (hR : 1 ≤ R.frames ∧ 25 ≤ R.locals) {r : Int32 × sl_M} {x1 : Int32} : ∀ (n : Nat) {x3 : Int32} {M : sl_M}, f5_feed_41 x1 n x3 M = some r → sl_A sl_cl LR D cA g A p l e R s m args below meth c (MQ below (sl_Q sl_cl LR D cA g A (some (.int r.1)) r.2) args s 0 0 A) 4 41 [(0, .ref (g 0)), (1, .int x1), (3, .int x3)] [] M := by
  intro n
  induction n with
  | zero =>
    intro x3 M h
    exact absurd h.symm (Option.some_ne_none _)
  | succ n ih =>
    intro x3 M h
    rw [f5_feed_41] at h
    refine sa_iload_n C dX5_feed_41 rfl 2 rfl ?_
    refine sa_if_lt C dX5_feed_42 (tgt := 80) (by decide) (fun c1 => ?_) (fun c1 => ?_)
    · replace h := sl_t c1 h
      refine sa_aload_n C dX5_feed_80 rfl 0 rfl ?_
      refine sa_getI C hh_X5 (k := 11) dX5_feed_81 q_848 (by decide) lr_0 rfl ?_
      exact sa_iret C dX5_feed_84 (sl_p1 h) (sl_p2 h)
    · replace h := sl_n c1 h
      refine sa_aload_n C dX5_feed_45 rfl 0 rfl ?_
      refine sa_getR C hh_X5 (k := 10) dX5_feed_46 q_847 (by decide) lr_0 rfl ?_
      refine sa_aload_n C dX5_feed_49 rfl 0 rfl ?_
      refine sa_getI C hh_X5 (k := 11) dX5_feed_50 q_848 (by decide) lr_0 rfl ?_
      refine sa_iload_n C dX5_feed_53 rfl 1 rfl ?_
      refine sa_bipush C dX5_feed_54 bp_8 ?_
      refine sa_iload_n C dX5_feed_56 rfl 2 rfl ?_
      refine sa_imul C dX5_feed_57 ?_
      refine sa_ishr C dX5_feed_58 ?_
      refine sa_sipush C dX5_feed_59 sp_255 ?_
      refine sa_iand C dX5_feed_62 ?_
      obtain ⟨M2, eM2, h⟩ := sl_b h
      refine sa_iast C dX5_feed_63 lr_7 eM2 ?_
      refine sa_aload_n C dX5_feed_64 rfl 0 rfl ?_
      refine sa_dup C dX5_feed_65 rfl ?_
      refine sa_getI C hh_X5 (k := 11) dX5_feed_66 q_848 (by decide) lr_0 rfl ?_
      refine sa_iconst C dX5_feed_69 ic_1 ?_
      refine sa_iadd C dX5_feed_70 ?_
      refine sa_put C hh_X5 (k := 11) dX5_feed_71 q_848 (by decide) rfl (fty := .int) (by decide) rfl rfl lr_0 rfl ?_
      refine sa_iinc C dX5_feed_74 2 rfl (v := (x3 + (-1 : Int32))) (by rw [ic_m1]) (by decide) (lv2 := [(3, .int (x3 + (-1 : Int32))), (0, .ref (g 0)), (1, .int x1)]) rfl ?_
      refine sa_goto C dX5_feed_77 (tgt := 41) (by decide) ?_
      exact sa_sub [1, 2, 0] rfl (ih h)
theorem cc5_feed {D : va_G} {cA : ClassId} {g : Nat → Nat} {A : Nat → Prop} {z : sl_K} {l : Launch} {x1 : Int32} {x2 : Int32} {M : sl_M} {r : Int32 × sl_M} (h : f5_feed x1 x2 M = some r) : sl_N sl_cl LR D cA g A z l yX5_feed cX5_feed 4 (some .int) 1 25 [.ref (g 0), .int x1, .int x2] M (some (.int r.1)) r.2 := by
  refine sl_N.of (by decide) (Nat.le_of_ble_eq_true rfl) rfl ?_
  intro p e s m args below meth c C
  replace C : sl_C RX5 cX5_feed 4 (some .int) sl_cl LR D cA g A z p s m meth c := C
  have hR : 1 ≤ (({ frames := 1, cells := 0, slots := 0, locals := 25 } : Room)).frames ∧ 25 ≤ (({ frames := 1, cells := 0, slots := 0, locals := 25 } : Room)).locals := ⟨Nat.le_refl _, Nat.le_refl _⟩
  rw [f5_feed] at h
  refine sa_iload_n C dX5_feed_0 rfl 2 rfl ?_
  refine sa_i2l C dX5_feed_1 ?_
  refine sa_lconst C dX5_feed_2 (v := 1) rfl ?_
  refine sa_ldc2 C dX5_feed_3 q_935 ?_
  refine sa_invSi C yy_X5_in q_907 q_906 dX5_feed_6 (As := [.long x2.toInt64, .long (1 : Int64), .long (4 : Int64)]) (rest := []) rfl ⟨Nat.le_trans (Nat.le_of_ble_eq_true rfl) hR.1, Nat.le_trans (Nat.le_of_ble_eq_true rfl) hR.2⟩ (Nat.le_of_ble_eq_true rfl) (cc5_in rfl) rfl ?_
  refine sa_if_ne C dX5_feed_9 (tgt := 19) (by decide) (fun c1 => ?_) (fun c1 => ?_)
  · replace h := sl_n c1 h
    refine sa_aload_n C dX5_feed_19 rfl 0 rfl ?_
    refine sa_getI C hh_X5 (k := 11) dX5_feed_20 q_848 (by decide) lr_0 rfl ?_
    refine sa_iload_n C dX5_feed_23 rfl 2 rfl ?_
    refine sa_iadd C dX5_feed_24 ?_
    refine sa_bipush C dX5_feed_25 bp_120 ?_
    refine sa_icmp_le C dX5_feed_27 (tgt := 37) (by decide) (fun c2 => ?_) (fun c2 => ?_)
    · replace h := sl_t c2 h
      refine sa_iload_n C dX5_feed_37 rfl 2 rfl ?_
      refine sa_iconst C dX5_feed_38 ic_1 ?_
      refine sa_isub C dX5_feed_39 ?_
      refine sa_istore_n C dX5_feed_40 rfl (by decide) (lv2 := [(3, .int (x2 - (1 : Int32))), (0, .ref (g 0)), (1, .int x1), (2, .int x2)]) rfl ?_
      exact sa_sub [1, 2, 0] rfl (w5_feed_41 C hR 400 h)
    · replace h := sl_n c2 h
      refine sa_aload_n C dX5_feed_30 rfl 0 rfl ?_
      refine sa_ldc C dX5_feed_31 q_960 ?_
      obtain ⟨r3, er3, h⟩ := sl_b h
      refine sa_invVi C yy_X5_finds ⟨q_913, q_54⟩ q_911 dX5_feed_33 (As := [.int (-1000002 : Int32)]) (rest := []) rfl ⟨Nat.le_trans (Nat.le_of_ble_eq_true rfl) hR.1, Nat.le_trans (Nat.le_of_ble_eq_true rfl) hR.2⟩ (Nat.le_of_ble_eq_true rfl) hh_X5 lr_0 (cc5_finds er3) rfl ?_
      exact sa_iret C dX5_feed_36 (sl_p1 h) (sl_p2 h)
  · replace h := sl_t c1 h
    refine sa_aload_n C dX5_feed_12 rfl 0 rfl ?_
    refine sa_ldc C dX5_feed_13 q_910 ?_
    obtain ⟨r4, er4, h⟩ := sl_b h
    refine sa_invVi C yy_X5_finds ⟨q_913, q_54⟩ q_911 dX5_feed_15 (As := [.int (-1000001 : Int32)]) (rest := []) rfl ⟨Nat.le_trans (Nat.le_of_ble_eq_true rfl) hR.1, Nat.le_trans (Nat.le_of_ble_eq_true rfl) hR.2⟩ (Nat.le_of_ble_eq_true rfl) hh_X5 lr_0 (cc5_finds er4) rfl ?_
    exact sa_iret C dX5_feed_18 (sl_p1 h) (sl_p2 h)
/-! X5 wipe -/
def f5_wipe (M : sl_M) : Option (Int32 × sl_M) := some ((M 0 11), (sl_up M 0 11 (0 : Int32)))
theorem cc5_wipe {D : va_G} {cA : ClassId} {g : Nat → Nat} {A : Nat → Prop} {z : sl_K} {l : Launch} {M : sl_M} {r : Int32 × sl_M} (h : f5_wipe M = some r) : sl_N sl_cl LR D cA g A z l yX5_wipe cX5_wipe 2 (some .int) 0 0 [.ref (g 0)] M (some (.int r.1)) r.2 := by
  refine sl_N.of (by decide) (Nat.le_of_ble_eq_true rfl) rfl ?_
  intro p e s m args below meth c C
  replace C : sl_C RX5 cX5_wipe 2 (some .int) sl_cl LR D cA g A z p s m meth c := C
  have hR : 0 ≤ (({ frames := 0, cells := 0, slots := 0, locals := 0 } : Room)).frames ∧ 0 ≤ (({ frames := 0, cells := 0, slots := 0, locals := 0 } : Room)).locals := ⟨Nat.le_refl _, Nat.le_refl _⟩
  rw [f5_wipe] at h
  refine sa_aload_n C dX5_wipe_0 rfl 0 rfl ?_
  refine sa_getI C hh_X5 (k := 11) dX5_wipe_1 q_848 (by decide) lr_0 rfl ?_
  refine sa_istore_n C dX5_wipe_4 rfl (by decide) (lv2 := [(1, .int (M 0 11)), (0, .ref (g 0))]) rfl ?_
  refine sa_aload_n C dX5_wipe_5 rfl 1 rfl ?_
  refine sa_iconst C dX5_wipe_6 ic_0 ?_
  refine sa_put C hh_X5 (k := 11) dX5_wipe_7 q_848 (by decide) rfl (fty := .int) (by decide) rfl rfl lr_0 rfl ?_
  refine sa_iload_n C dX5_wipe_10 rfl 0 rfl ?_
  exact sa_iret C dX5_wipe_11 (sl_p1 h) (sl_p2 h)
/-! X5 byteAt -/
def f5_byteAt (x1 : Int32) (M : sl_M) : Option Int32 := (if (M 0 11) ≤ x1 then some (-1 : Int32) else (sl_ld (M 7) 120 x1).bind fun v2 => some v2)
theorem cc5_byteAt {D : va_G} {cA : ClassId} {g : Nat → Nat} {A : Nat → Prop} {z : sl_K} {l : Launch} {x1 : Int32} {M : sl_M} {r : Int32} (h : f5_byteAt x1 M = some r) : sl_N sl_cl LR D cA g A z l yX5_byteAt cX5_byteAt 2 (some .int) 0 0 [.ref (g 0), .int x1] M (some (.int r)) M := by
  refine sl_N.of (by decide) (Nat.le_of_ble_eq_true rfl) rfl ?_
  intro p e s m args below meth c C
  replace C : sl_C RX5 cX5_byteAt 2 (some .int) sl_cl LR D cA g A z p s m meth c := C
  have hR : 0 ≤ (({ frames := 0, cells := 0, slots := 0, locals := 0 } : Room)).frames ∧ 0 ≤ (({ frames := 0, cells := 0, slots := 0, locals := 0 } : Room)).locals := ⟨Nat.le_refl _, Nat.le_refl _⟩
  rw [f5_byteAt] at h
  refine sa_iload_n C dX5_byteAt_0 rfl 1 rfl ?_
  refine sa_aload_n C dX5_byteAt_1 rfl 0 rfl ?_
  refine sa_getI C hh_X5 (k := 11) dX5_byteAt_2 q_848 (by decide) lr_0 rfl ?_
  refine sa_icmp_ge C dX5_byteAt_5 (tgt := 17) (by decide) (fun c1 => ?_) (fun c1 => ?_)
  · replace h := sl_t c1 h
    refine sa_iconst C dX5_byteAt_17 ic_m1 ?_
    exact sa_iret C dX5_byteAt_18 (Option.some.inj h) rfl
  · replace h := sl_n c1 h
    refine sa_aload_n C dX5_byteAt_8 rfl 0 rfl ?_
    refine sa_getR C hh_X5 (k := 10) dX5_byteAt_9 q_847 (by decide) lr_0 rfl ?_
    refine sa_iload_n C dX5_byteAt_12 rfl 1 rfl ?_
    obtain ⟨v2, ev2, h⟩ := sl_b h
    refine sa_iald C dX5_byteAt_13 lr_7 ev2 ?_
    refine sa_goto C dX5_byteAt_14 (tgt := 18) (by decide) ?_
    exact sa_iret C dX5_byteAt_18 (Option.some.inj h) rfl
/-! X5 isLetter -/
def f5_isLetter (x0 : Int32) : Int32 := (f5_in x0.toInt64 (97 : Int64) (122 : Int64))
theorem f5_isLetter_b {x0 : Int32} : f5_isLetter x0 = 0 ∨ f5_isLetter x0 = 1 := by
  rw [f5_isLetter]
  first | exact f5_in_b | ((repeat' split) <;> first | exact Or.inl rfl | exact Or.inr rfl)
theorem cc5_isLetter {D : va_G} {cA : ClassId} {g : Nat → Nat} {A : Nat → Prop} {z : sl_K} {l : Launch} {x0 : Int32} {M : sl_M} {r : Int32} (h : f5_isLetter x0 = r) : sl_N sl_cl LR D cA g A z l yX5_isLetter cX5_isLetter 1 (some .boolean) 1 25 [.int x0] M (some (.int r)) M := by
  refine sl_N.of (by decide) (Nat.le_of_ble_eq_true rfl) rfl ?_
  intro p e s m args below meth c C
  replace C : sl_C RX5 cX5_isLetter 1 (some .boolean) sl_cl LR D cA g A z p s m meth c := C
  have hR : 1 ≤ (({ frames := 1, cells := 0, slots := 0, locals := 25 } : Room)).frames ∧ 25 ≤ (({ frames := 1, cells := 0, slots := 0, locals := 25 } : Room)).locals := ⟨Nat.le_refl _, Nat.le_refl _⟩
  rw [f5_isLetter] at h
  refine sa_iload_n C dX5_isLetter_0 rfl 0 rfl ?_
  refine sa_i2l C dX5_isLetter_1 ?_
  refine sa_ldc2 C dX5_isLetter_2 q_1227 ?_
  refine sa_ldc2 C dX5_isLetter_5 q_1228 ?_
  refine sa_invSi C yy_X5_in q_907 q_906 dX5_isLetter_8 (As := [.long x0.toInt64, .long (97 : Int64), .long (122 : Int64)]) (rest := []) rfl ⟨Nat.le_trans (Nat.le_of_ble_eq_true rfl) hR.1, Nat.le_trans (Nat.le_of_ble_eq_true rfl) hR.2⟩ (Nat.le_of_ble_eq_true rfl) (cc5_in rfl) rfl ?_
  exact sa_zret C dX5_isLetter_11 (by first | assumption | exact f5_in_b | ((repeat' split) <;> first | exact Or.inl rfl | exact Or.inr rfl)) h rfl
/-! X5 isDigit -/
def f5_isDigit (x0 : Int32) : Int32 := (f5_in x0.toInt64 (48 : Int64) (57 : Int64))
theorem f5_isDigit_b {x0 : Int32} : f5_isDigit x0 = 0 ∨ f5_isDigit x0 = 1 := by
  rw [f5_isDigit]
  first | exact f5_in_b | ((repeat' split) <;> first | exact Or.inl rfl | exact Or.inr rfl)
theorem cc5_isDigit {D : va_G} {cA : ClassId} {g : Nat → Nat} {A : Nat → Prop} {z : sl_K} {l : Launch} {x0 : Int32} {M : sl_M} {r : Int32} (h : f5_isDigit x0 = r) : sl_N sl_cl LR D cA g A z l yX5_isDigit cX5_isDigit 1 (some .boolean) 1 25 [.int x0] M (some (.int r)) M := by
  refine sl_N.of (by decide) (Nat.le_of_ble_eq_true rfl) rfl ?_
  intro p e s m args below meth c C
  replace C : sl_C RX5 cX5_isDigit 1 (some .boolean) sl_cl LR D cA g A z p s m meth c := C
  have hR : 1 ≤ (({ frames := 1, cells := 0, slots := 0, locals := 25 } : Room)).frames ∧ 25 ≤ (({ frames := 1, cells := 0, slots := 0, locals := 25 } : Room)).locals := ⟨Nat.le_refl _, Nat.le_refl _⟩
  rw [f5_isDigit] at h
  refine sa_iload_n C dX5_isDigit_0 rfl 0 rfl ?_
  refine sa_i2l C dX5_isDigit_1 ?_
  refine sa_ldc2 C dX5_isDigit_2 q_1232 ?_
  refine sa_ldc2 C dX5_isDigit_5 q_1233 ?_
  refine sa_invSi C yy_X5_in q_907 q_906 dX5_isDigit_8 (As := [.long x0.toInt64, .long (48 : Int64), .long (57 : Int64)]) (rest := []) rfl ⟨Nat.le_trans (Nat.le_of_ble_eq_true rfl) hR.1, Nat.le_trans (Nat.le_of_ble_eq_true rfl) hR.2⟩ (Nat.le_of_ble_eq_true rfl) (cc5_in rfl) rfl ?_
  exact sa_zret C dX5_isDigit_11 (by first | assumption | exact f5_in_b | ((repeat' split) <;> first | exact Or.inl rfl | exact Or.inr rfl)) h rfl
/-! X5 token -/
def f5_token_122 (k86 : sl_M → Option sl_M) (x1 : Int32) (x2 : Int32) (M : sl_M) : Option sl_M := k86 (sl_up M 0 13 ((M 0 13) + (1 : Int32)))
def f5_token_104 (k86 : sl_M → Option sl_M) (x1 : Int32) (x2 : Int32) (M : sl_M) : Option sl_M := (if x2 = 0 then some M else (f5_byteAt (M 0 13) M).bind fun r2 => (if (f5_isDigit r2) = 0 then some M else f5_token_122 k86 x1 x2 M))
def f5_token_86 (x1 : Int32) (x2 : Int32) : Nat → sl_M → Option sl_M
  | 0, _ => none
  | n + 1, M => (if x1 = 0 then f5_token_104 (f5_token_86 x1 x2 n) x1 x2 M else (f5_byteAt (M 0 13) M).bind fun r2 => (if (f5_isLetter r2) = 0 then f5_token_104 (f5_token_86 x1 x2 n) x1 x2 M else f5_token_122 (f5_token_86 x1 x2 n) x1 x2 M))
def f5_token_8 : Nat → sl_M → Option sl_M
  | 0, _ => none
  | n + 1, M => (f5_byteAt (M 0 12) M).bind fun r1 => (if r1 = (32 : Int32) then f5_token_8 n (sl_up M 0 12 ((M 0 12) + (1 : Int32))) else (f5_byteAt (M 0 12) M).bind fun r3 => (f5_byteAt (M 0 12) M).bind fun r4 => (if (M 0 11) ≤ (M 0 12) then f5_token_86 (f5_isLetter r3) (f5_isDigit r4) 400 (sl_up M 0 13 (M 0 12)) else f5_token_86 (f5_isLetter r3) (f5_isDigit r4) 400 (sl_up M 0 13 ((M 0 12) + (1 : Int32)))))
def f5_token (M : sl_M) : Option sl_M := f5_token_8 400 (sl_up M 0 12 (M 0 13))
theorem w5_token_122 {D : va_G} {cA : ClassId} {g : Nat → Nat} {A : Nat → Prop} {z : sl_K} {l : Launch} {p : Program} {e : Env} {R : Room} {s : State} {m : MethodId} {args : Array Value} {below : List Frame} {meth : Method} {c : Code} (C : sl_C RX5 cX5_token 3 none sl_cl LR D cA g A z p s m meth c) (hR : 2 ≤ R.frames ∧ 45 ≤ R.locals) {M : sl_M} {r : sl_M} {x1 : Int32} {x2 : Int32} {k86 : sl_M → Option sl_M} (hk86 : ∀ {M : sl_M}, k86 M = some r → sl_A sl_cl LR D cA g A p l e R s m args below meth c (MQ below (sl_Q sl_cl LR D cA g A none r) args s 0 0 A) 3 86 [(0, .ref (g 0)), (1, .int x1), (2, .int x2)] [] M) (h : f5_token_122 k86 x1 x2 M = some r) : sl_A sl_cl LR D cA g A p l e R s m args below meth c (MQ below (sl_Q sl_cl LR D cA g A none r) args s 0 0 A) 3 122 [(0, .ref (g 0)), (1, .int x1), (2, .int x2)] [] M := by
  rw [f5_token_122] at h
  refine sa_aload_n C dX5_token_122 rfl 0 rfl ?_
  refine sa_dup C dX5_token_123 rfl ?_
  refine sa_getI C hh_X5 (k := 13) dX5_token_124 q_850 (by decide) lr_0 rfl ?_
  refine sa_iconst C dX5_token_127 ic_1 ?_
  refine sa_iadd C dX5_token_128 ?_
  refine sa_put C hh_X5 (k := 13) dX5_token_129 q_850 (by decide) rfl (fty := .int) (by decide) rfl rfl lr_0 rfl ?_
  refine sa_goto C dX5_token_132 (tgt := 86) (by decide) ?_
  exact sa_sub [0, 1, 2] rfl (hk86 h)
theorem w5_token_104 {D : va_G} {cA : ClassId} {g : Nat → Nat} {A : Nat → Prop} {z : sl_K} {l : Launch} {p : Program} {e : Env} {R : Room} {s : State} {m : MethodId} {args : Array Value} {below : List Frame} {meth : Method} {c : Code} (C : sl_C RX5 cX5_token 3 none sl_cl LR D cA g A z p s m meth c) (hR : 2 ≤ R.frames ∧ 45 ≤ R.locals) {M : sl_M} {r : sl_M} {x1 : Int32} {x2 : Int32} {k86 : sl_M → Option sl_M} (hk86 : ∀ {M : sl_M}, k86 M = some r → sl_A sl_cl LR D cA g A p l e R s m args below meth c (MQ below (sl_Q sl_cl LR D cA g A none r) args s 0 0 A) 3 86 [(0, .ref (g 0)), (1, .int x1), (2, .int x2)] [] M) (h : f5_token_104 k86 x1 x2 M = some r) : sl_A sl_cl LR D cA g A p l e R s m args below meth c (MQ below (sl_Q sl_cl LR D cA g A none r) args s 0 0 A) 3 104 [(0, .ref (g 0)), (1, .int x1), (2, .int x2)] [] M := by
  rw [f5_token_104] at h
  refine sa_iload_n C dX5_token_104 rfl 2 rfl ?_
  refine sa_if_eq C dX5_token_105 (tgt := 135) (by decide) (fun c1 => ?_) (fun c1 => ?_)
  · replace h := sl_t c1 h
    exact sa_vret C dX5_token_135 (Option.some.inj h)
  · replace h := sl_n c1 h
    refine sa_aload_n C dX5_token_108 rfl 0 rfl ?_
    refine sa_aload_n C dX5_token_109 rfl 0 rfl ?_
    refine sa_getI C hh_X5 (k := 13) dX5_token_110 q_850 (by decide) lr_0 rfl ?_
    obtain ⟨r2, er2, h⟩ := sl_b h
    refine sa_invVi C yy_X5_byteAt ⟨q_1222, q_83⟩ q_1220 dX5_token_113 (As := [.int (M 0 13)]) (rest := []) rfl ⟨Nat.le_trans (Nat.le_of_ble_eq_true rfl) hR.1, Nat.le_trans (Nat.le_of_ble_eq_true rfl) hR.2⟩ (Nat.le_of_ble_eq_true rfl) hh_X5 lr_0 (cc5_byteAt er2) rfl ?_
    refine sa_invSi C yy_X5_isDigit q_1230 q_1229 dX5_token_116 (As := [.int r2]) (rest := []) rfl ⟨Nat.le_trans (Nat.le_of_ble_eq_true rfl) hR.1, Nat.le_trans (Nat.le_of_ble_eq_true rfl) hR.2⟩ (Nat.le_of_ble_eq_true rfl) (cc5_isDigit rfl) rfl ?_
    refine sa_if_eq C dX5_token_119 (tgt := 135) (by decide) (fun c3 => ?_) (fun c3 => ?_)
    · replace h := sl_t c3 h
      exact sa_vret C dX5_token_135 (Option.some.inj h)
    · replace h := sl_n c3 h
      exact sa_sub [0, 1, 2] rfl (w5_token_122 C hR (fun h => hk86 h) h)
theorem w5_token_86 {D : va_G} {cA : ClassId} {g : Nat → Nat} {A : Nat → Prop} {z : sl_K} {l : Launch} {p : Program} {e : Env} {R : Room} {s : State} {m : MethodId} {args : Array Value} {below : List Frame} {meth : Method} {c : Code} (C : sl_C RX5 cX5_token 3 none sl_cl LR D cA g A z p s m meth c) (hR : 2 ≤ R.frames ∧ 45 ≤ R.locals) {r : sl_M} {x1 : Int32} {x2 : Int32} : ∀ (n : Nat) {M : sl_M}, f5_token_86 x1 x2 n M = some r → sl_A sl_cl LR D cA g A p l e R s m args below meth c (MQ below (sl_Q sl_cl LR D cA g A none r) args s 0 0 A) 3 86 [(0, .ref (g 0)), (1, .int x1), (2, .int x2)] [] M := by
  intro n
  induction n with
  | zero =>
    intro M h
    exact absurd h.symm (Option.some_ne_none _)
  | succ n ih =>
    intro M h
    rw [f5_token_86] at h
    refine sa_iload_n C dX5_token_86 rfl 1 rfl ?_
    refine sa_if_eq C dX5_token_87 (tgt := 104) (by decide) (fun c1 => ?_) (fun c1 => ?_)
    · replace h := sl_t c1 h
      exact sa_sub [0, 1, 2] rfl (w5_token_104 C hR (fun h => ih h) h)
    · replace h := sl_n c1 h
      refine sa_aload_n C dX5_token_90 rfl 0 rfl ?_
      refine sa_aload_n C dX5_token_91 rfl 0 rfl ?_
      refine sa_getI C hh_X5 (k := 13) dX5_token_92 q_850 (by decide) lr_0 rfl ?_
      obtain ⟨r2, er2, h⟩ := sl_b h
      refine sa_invVi C yy_X5_byteAt ⟨q_1222, q_83⟩ q_1220 dX5_token_95 (As := [.int (M 0 13)]) (rest := []) rfl ⟨Nat.le_trans (Nat.le_of_ble_eq_true rfl) hR.1, Nat.le_trans (Nat.le_of_ble_eq_true rfl) hR.2⟩ (Nat.le_of_ble_eq_true rfl) hh_X5 lr_0 (cc5_byteAt er2) rfl ?_
      refine sa_invSi C yy_X5_isLetter q_1225 q_1224 dX5_token_98 (As := [.int r2]) (rest := []) rfl ⟨Nat.le_trans (Nat.le_of_ble_eq_true rfl) hR.1, Nat.le_trans (Nat.le_of_ble_eq_true rfl) hR.2⟩ (Nat.le_of_ble_eq_true rfl) (cc5_isLetter rfl) rfl ?_
      refine sa_if_ne C dX5_token_101 (tgt := 122) (by decide) (fun c3 => ?_) (fun c3 => ?_)
      · replace h := sl_n c3 h
        exact sa_sub [0, 1, 2] rfl (w5_token_122 C hR (fun h => ih h) h)
      · replace h := sl_t c3 h
        exact sa_sub [0, 1, 2] rfl (w5_token_104 C hR (fun h => ih h) h)
theorem w5_token_8 {D : va_G} {cA : ClassId} {g : Nat → Nat} {A : Nat → Prop} {z : sl_K} {l : Launch} {p : Program} {e : Env} {R : Room} {s : State} {m : MethodId} {args : Array Value} {below : List Frame} {meth : Method} {c : Code} (C : sl_C RX5 cX5_token 3 none sl_cl LR D cA g A z p s m meth c) (hR : 2 ≤ R.frames ∧ 45 ≤ R.locals) {r : sl_M} : ∀ (n : Nat) {M : sl_M}, f5_token_8 n M = some r → sl_A sl_cl LR D cA g A p l e R s m args below meth c (MQ below (sl_Q sl_cl LR D cA g A none r) args s 0 0 A) 3 8 [(0, .ref (g 0))] [] M := by
  intro n
  induction n with
  | zero =>
    intro M h
    exact absurd h.symm (Option.some_ne_none _)
  | succ n ih =>
    intro M h
    rw [f5_token_8] at h
    refine sa_aload_n C dX5_token_8 rfl 0 rfl ?_
    refine sa_aload_n C dX5_token_9 rfl 0 rfl ?_
    refine sa_getI C hh_X5 (k := 12) dX5_token_10 q_849 (by decide) lr_0 rfl ?_
    obtain ⟨r1, er1, h⟩ := sl_b h
    refine sa_invVi C yy_X5_byteAt ⟨q_1222, q_83⟩ q_1220 dX5_token_13 (As := [.int (M 0 12)]) (rest := []) rfl ⟨Nat.le_trans (Nat.le_of_ble_eq_true rfl) hR.1, Nat.le_trans (Nat.le_of_ble_eq_true rfl) hR.2⟩ (Nat.le_of_ble_eq_true rfl) hh_X5 lr_0 (cc5_byteAt er1) rfl ?_
    refine sa_bipush C dX5_token_16 bp_32 ?_
    refine sa_icmp_ne C dX5_token_18 (tgt := 34) (by decide) (fun c2 => ?_) (fun c2 => ?_)
    · replace h := sl_n c2 h
      refine sa_aload_n C dX5_token_34 rfl 0 rfl ?_
      refine sa_aload_n C dX5_token_35 rfl 0 rfl ?_
      refine sa_getI C hh_X5 (k := 12) dX5_token_36 q_849 (by decide) lr_0 rfl ?_
      obtain ⟨r3, er3, h⟩ := sl_b h
      refine sa_invVi C yy_X5_byteAt ⟨q_1222, q_83⟩ q_1220 dX5_token_39 (As := [.int (M 0 12)]) (rest := []) rfl ⟨Nat.le_trans (Nat.le_of_ble_eq_true rfl) hR.1, Nat.le_trans (Nat.le_of_ble_eq_true rfl) hR.2⟩ (Nat.le_of_ble_eq_true rfl) hh_X5 lr_0 (cc5_byteAt er3) rfl ?_
      refine sa_invSi C yy_X5_isLetter q_1225 q_1224 dX5_token_42 (As := [.int r3]) (rest := []) rfl ⟨Nat.le_trans (Nat.le_of_ble_eq_true rfl) hR.1, Nat.le_trans (Nat.le_of_ble_eq_true rfl) hR.2⟩ (Nat.le_of_ble_eq_true rfl) (cc5_isLetter rfl) rfl ?_
      refine sa_istore_n C dX5_token_45 rfl (by decide) (lv2 := [(1, .int (f5_isLetter r3)), (0, .ref (g 0))]) rfl ?_
      refine sa_aload_n C dX5_token_46 rfl 1 rfl ?_
      refine sa_aload_n C dX5_token_47 rfl 1 rfl ?_
      refine sa_getI C hh_X5 (k := 12) dX5_token_48 q_849 (by decide) lr_0 rfl ?_
      obtain ⟨r4, er4, h⟩ := sl_b h
      refine sa_invVi C yy_X5_byteAt ⟨q_1222, q_83⟩ q_1220 dX5_token_51 (As := [.int (M 0 12)]) (rest := []) rfl ⟨Nat.le_trans (Nat.le_of_ble_eq_true rfl) hR.1, Nat.le_trans (Nat.le_of_ble_eq_true rfl) hR.2⟩ (Nat.le_of_ble_eq_true rfl) hh_X5 lr_0 (cc5_byteAt er4) rfl ?_
      refine sa_invSi C yy_X5_isDigit q_1230 q_1229 dX5_token_54 (As := [.int r4]) (rest := []) rfl ⟨Nat.le_trans (Nat.le_of_ble_eq_true rfl) hR.1, Nat.le_trans (Nat.le_of_ble_eq_true rfl) hR.2⟩ (Nat.le_of_ble_eq_true rfl) (cc5_isDigit rfl) rfl ?_
      refine sa_istore_n C dX5_token_57 rfl (by decide) (lv2 := [(2, .int (f5_isDigit r4)), (1, .int (f5_isLetter r3)), (0, .ref (g 0))]) rfl ?_
      refine sa_aload_n C dX5_token_58 rfl 2 rfl ?_
      refine sa_aload_n C dX5_token_59 rfl 2 rfl ?_
      refine sa_getI C hh_X5 (k := 12) dX5_token_60 q_849 (by decide) lr_0 rfl ?_
      refine sa_aload_n C dX5_token_63 rfl 2 rfl ?_
      refine sa_getI C hh_X5 (k := 11) dX5_token_64 q_848 (by decide) lr_0 rfl ?_
      refine sa_icmp_ge C dX5_token_67 (tgt := 79) (by decide) (fun c5 => ?_) (fun c5 => ?_)
      · replace h := sl_t c5 h
        refine sa_aload_n C dX5_token_79 rfl 2 rfl ?_
        refine sa_getI C hh_X5 (k := 12) dX5_token_80 q_849 (by decide) lr_0 rfl ?_
        refine sa_put C hh_X5 (k := 13) dX5_token_83 q_850 (by decide) rfl (fty := .int) (by decide) rfl rfl lr_0 rfl ?_
        exact sa_sub [2, 1, 0] rfl (w5_token_86 C hR 400 h)
      · replace h := sl_n c5 h
        refine sa_aload_n C dX5_token_70 rfl 2 rfl ?_
        refine sa_getI C hh_X5 (k := 12) dX5_token_71 q_849 (by decide) lr_0 rfl ?_
        refine sa_iconst C dX5_token_74 ic_1 ?_
        refine sa_iadd C dX5_token_75 ?_
        refine sa_goto C dX5_token_76 (tgt := 83) (by decide) ?_
        refine sa_put C hh_X5 (k := 13) dX5_token_83 q_850 (by decide) rfl (fty := .int) (by decide) rfl rfl lr_0 rfl ?_
        exact sa_sub [2, 1, 0] rfl (w5_token_86 C hR 400 h)
    · replace h := sl_t c2 h
      refine sa_aload_n C dX5_token_21 rfl 0 rfl ?_
      refine sa_dup C dX5_token_22 rfl ?_
      refine sa_getI C hh_X5 (k := 12) dX5_token_23 q_849 (by decide) lr_0 rfl ?_
      refine sa_iconst C dX5_token_26 ic_1 ?_
      refine sa_iadd C dX5_token_27 ?_
      refine sa_put C hh_X5 (k := 12) dX5_token_28 q_849 (by decide) rfl (fty := .int) (by decide) rfl rfl lr_0 rfl ?_
      refine sa_goto C dX5_token_31 (tgt := 8) (by decide) ?_
      exact sa_sub [0] rfl (ih h)
theorem cc5_token {D : va_G} {cA : ClassId} {g : Nat → Nat} {A : Nat → Prop} {z : sl_K} {l : Launch} {M : sl_M} {r : sl_M} (h : f5_token M = some r) : sl_N sl_cl LR D cA g A z l yX5_token cX5_token 3 none 2 45 [.ref (g 0)] M none r := by
  refine sl_N.of (by decide) (Nat.le_of_ble_eq_true rfl) rfl ?_
  intro p e s m args below meth c C
  replace C : sl_C RX5 cX5_token 3 none sl_cl LR D cA g A z p s m meth c := C
  have hR : 2 ≤ (({ frames := 2, cells := 0, slots := 0, locals := 45 } : Room)).frames ∧ 45 ≤ (({ frames := 2, cells := 0, slots := 0, locals := 45 } : Room)).locals := ⟨Nat.le_refl _, Nat.le_refl _⟩
  rw [f5_token] at h
  refine sa_aload_n C dX5_token_0 rfl 0 rfl ?_
  refine sa_aload_n C dX5_token_1 rfl 0 rfl ?_
  refine sa_getI C hh_X5 (k := 13) dX5_token_2 q_850 (by decide) lr_0 rfl ?_
  refine sa_put C hh_X5 (k := 12) dX5_token_5 q_849 (by decide) rfl (fty := .int) (by decide) rfl rfl lr_0 rfl ?_
  exact sa_sub [0] rfl (w5_token_8 C hR 400 h)
/-! X5 needs -/
def f5_needs_17 (t0 : Int32) (M : sl_M) : Option sl_M := (sl_bo t0).bind fun v1 => (if ((sl_up M 0 15 v1) 0 15) = 0 then (f5_token (sl_up M 0 15 v1)).bind fun r3 => some r3 else some (sl_up M 0 15 v1))
def f5_needs_12 (M : sl_M) : Option sl_M := f5_needs_17 (1 : Int32) M
def f5_needs (x1 : Int32) (M : sl_M) : Option sl_M := (if (M 0 15) = 0 then (if x1 = 0 then f5_needs_12 M else f5_needs_17 (0 : Int32) M) else f5_needs_12 M)
theorem w5_needs_17 {D : va_G} {cA : ClassId} {g : Nat → Nat} {A : Nat → Prop} {z : sl_K} {l : Launch} {p : Program} {e : Env} {R : Room} {s : State} {m : MethodId} {args : Array Value} {below : List Frame} {meth : Method} {c : Code} (C : sl_C RX5 cX5_needs 2 none sl_cl LR D cA g A z p s m meth c) (hR : 3 ≤ R.frames ∧ 67 ≤ R.locals) {M : sl_M} {r : sl_M} {t0 : Int32} (h : f5_needs_17 t0 M = some r) : sl_A sl_cl LR D cA g A p l e R s m args below meth c (MQ below (sl_Q sl_cl LR D cA g A none r) args s 0 0 A) 2 17 [(0, .ref (g 0))] [.int t0, .ref (g 0)] M := by
  rw [f5_needs_17] at h
  obtain ⟨v1, ev1, h⟩ := sl_b h
  obtain ⟨ev1, bv1⟩ := sl_bo_s ev1
  rw [← ev1]
  refine sa_put C hh_X5 (k := 15) dX5_needs_17 q_852 (by decide) rfl (fty := .boolean) (by decide) (sl_bn ev1 bv1) (sl_bf ev1 bv1) lr_0 rfl ?_
  refine sa_aload_n C dX5_needs_20 rfl 0 rfl ?_
  refine sa_getI C hh_X5 (k := 15) dX5_needs_21 q_852 (by decide) lr_0 rfl ?_
  refine sa_if_ne C dX5_needs_24 (tgt := 31) (by decide) (fun c2 => ?_) (fun c2 => ?_)
  · replace h := sl_n c2 h
    exact sa_vret C dX5_needs_31 (Option.some.inj h)
  · replace h := sl_t c2 h
    refine sa_aload_n C dX5_needs_27 rfl 0 rfl ?_
    obtain ⟨r3, er3, h⟩ := sl_b h
    refine sa_invVv C yy_X5_token ⟨q_1218, q_82⟩ q_1216 dX5_needs_28 (As := []) (rest := []) rfl ⟨Nat.le_trans (Nat.le_of_ble_eq_true rfl) hR.1, Nat.le_trans (Nat.le_of_ble_eq_true rfl) hR.2⟩ (Nat.le_of_ble_eq_true rfl) hh_X5 lr_0 (cc5_token er3) rfl ?_
    exact sa_vret C dX5_needs_31 (Option.some.inj h)
theorem w5_needs_12 {D : va_G} {cA : ClassId} {g : Nat → Nat} {A : Nat → Prop} {z : sl_K} {l : Launch} {p : Program} {e : Env} {R : Room} {s : State} {m : MethodId} {args : Array Value} {below : List Frame} {meth : Method} {c : Code} (C : sl_C RX5 cX5_needs 2 none sl_cl LR D cA g A z p s m meth c) (hR : 3 ≤ R.frames ∧ 67 ≤ R.locals) {M : sl_M} {r : sl_M} (h : f5_needs_12 M = some r) : sl_A sl_cl LR D cA g A p l e R s m args below meth c (MQ below (sl_Q sl_cl LR D cA g A none r) args s 0 0 A) 2 12 [(0, .ref (g 0))] [.ref (g 0)] M := by
  rw [f5_needs_12] at h
  refine sa_iconst C dX5_needs_12 ic_1 ?_
  refine sa_goto C dX5_needs_13 (tgt := 17) (by decide) ?_
  exact sa_sub [0] rfl (w5_needs_17 C hR h)
theorem cc5_needs {D : va_G} {cA : ClassId} {g : Nat → Nat} {A : Nat → Prop} {z : sl_K} {l : Launch} {x1 : Int32} {M : sl_M} {r : sl_M} (h : f5_needs x1 M = some r) : sl_N sl_cl LR D cA g A z l yX5_needs cX5_needs 2 none 3 67 [.ref (g 0), .int x1] M none r := by
  refine sl_N.of (by decide) (Nat.le_of_ble_eq_true rfl) rfl ?_
  intro p e s m args below meth c C
  replace C : sl_C RX5 cX5_needs 2 none sl_cl LR D cA g A z p s m meth c := C
  have hR : 3 ≤ (({ frames := 3, cells := 0, slots := 0, locals := 67 } : Room)).frames ∧ 67 ≤ (({ frames := 3, cells := 0, slots := 0, locals := 67 } : Room)).locals := ⟨Nat.le_refl _, Nat.le_refl _⟩
  rw [f5_needs] at h
  refine sa_aload_n C dX5_needs_0 rfl 0 rfl ?_
  refine sa_aload_n C dX5_needs_1 rfl 0 rfl ?_
  refine sa_getI C hh_X5 (k := 15) dX5_needs_2 q_852 (by decide) lr_0 rfl ?_
  refine sa_if_ne C dX5_needs_5 (tgt := 12) (by decide) (fun c1 => ?_) (fun c1 => ?_)
  · replace h := sl_n c1 h
    exact sa_sub [0] rfl (w5_needs_12 C hR h)
  · replace h := sl_t c1 h
    refine sa_iload_n C dX5_needs_8 rfl 1 rfl ?_
    refine sa_if_ne C dX5_needs_9 (tgt := 16) (by decide) (fun c2 => ?_) (fun c2 => ?_)
    · replace h := sl_n c2 h
      refine sa_iconst C dX5_needs_16 ic_0 ?_
      exact sa_sub [0] rfl (w5_needs_17 C hR h)
    · replace h := sl_t c2 h
      exact sa_sub [0] rfl (w5_needs_12 C hR h)
/-! X5 word -/
def f5_word_7 (M : sl_M) : Nat → Int64 → Int32 → Option Int64
  | 0, _, _ => none
  | n + 1, x1, x3 => (if (M 0 13) ≤ x3 then (if (M 0 15) = 0 then (f5_byteAt (M 0 12) M).bind fun r3 => (if (f5_isLetter r3) = 0 then some (0 : Int64) else some x1) else some (0 : Int64)) else (if (lg_cmp x1 (36028797018963967 : Int64)) ≤ 0 then (sl_ld (M 7) 120 x3).bind fun v6 => f5_word_7 M n (((32 : Int64) * x1) + (v6 - (96 : Int32)).toInt64) (x3 + (1 : Int32)) else f5_word_7 M n x1 (x3 + (1 : Int32))))
def f5_word (M : sl_M) : Option Int64 := f5_word_7 M 400 (0 : Int64) (M 0 12)
theorem w5_word_7 {D : va_G} {cA : ClassId} {g : Nat → Nat} {A : Nat → Prop} {z : sl_K} {l : Launch} {p : Program} {e : Env} {R : Room} {s : State} {m : MethodId} {args : Array Value} {below : List Frame} {meth : Method} {c : Code} (C : sl_C RX5 cX5_word 4 (some .long) sl_cl LR D cA g A z p s m meth c) (hR : 2 ≤ R.frames ∧ 45 ≤ R.locals) {M : sl_M} {r : Int64} : ∀ (n : Nat) {x1 : Int64} {x3 : Int32}, f5_word_7 M n x1 x3 = some r → sl_A sl_cl LR D cA g A p l e R s m args below meth c (MQ below (sl_Q sl_cl LR D cA g A (some (.long r)) M) args s 0 0 A) 4 7 [(0, .ref (g 0)), (1, .long x1), (3, .int x3)] [] M := by
  intro n
  induction n with
  | zero =>
    intro x1 x3 h
    exact absurd h.symm (Option.some_ne_none _)
  | succ n ih =>
    intro x1 x3 h
    rw [f5_word_7] at h
    refine sa_iload_n C dX5_word_7 rfl 2 rfl ?_
    refine sa_aload_n C dX5_word_8 rfl 0 rfl ?_
    refine sa_getI C hh_X5 (k := 13) dX5_word_9 q_850 (by decide) lr_0 rfl ?_
    refine sa_icmp_ge C dX5_word_12 (tgt := 50) (by decide) (fun c1 => ?_) (fun c1 => ?_)
    · replace h := sl_t c1 h
      refine sa_aload_n C dX5_word_50 rfl 0 rfl ?_
      refine sa_getI C hh_X5 (k := 15) dX5_word_51 q_852 (by decide) lr_0 rfl ?_
      refine sa_if_ne C dX5_word_54 (tgt := 71) (by decide) (fun c2 => ?_) (fun c2 => ?_)
      · replace h := sl_n c2 h
        refine sa_lconst C dX5_word_71 (v := 0) rfl ?_
        refine sa_goto C dX5_word_72 (tgt := 76) (by decide) ?_
        exact sa_lret C dX5_word_76 (Option.some.inj h) rfl
      · replace h := sl_t c2 h
        refine sa_aload_n C dX5_word_57 rfl 0 rfl ?_
        refine sa_aload_n C dX5_word_58 rfl 0 rfl ?_
        refine sa_getI C hh_X5 (k := 12) dX5_word_59 q_849 (by decide) lr_0 rfl ?_
        obtain ⟨r3, er3, h⟩ := sl_b h
        refine sa_invVi C yy_X5_byteAt ⟨q_1222, q_83⟩ q_1220 dX5_word_62 (As := [.int (M 0 12)]) (rest := []) rfl ⟨Nat.le_trans (Nat.le_of_ble_eq_true rfl) hR.1, Nat.le_trans (Nat.le_of_ble_eq_true rfl) hR.2⟩ (Nat.le_of_ble_eq_true rfl) hh_X5 lr_0 (cc5_byteAt er3) rfl ?_
        refine sa_invSi C yy_X5_isLetter q_1225 q_1224 dX5_word_65 (As := [.int r3]) (rest := []) rfl ⟨Nat.le_trans (Nat.le_of_ble_eq_true rfl) hR.1, Nat.le_trans (Nat.le_of_ble_eq_true rfl) hR.2⟩ (Nat.le_of_ble_eq_true rfl) (cc5_isLetter rfl) rfl ?_
        refine sa_if_ne C dX5_word_68 (tgt := 75) (by decide) (fun c4 => ?_) (fun c4 => ?_)
        · replace h := sl_n c4 h
          refine sa_lload_n C dX5_word_75 rfl 1 rfl ?_
          exact sa_lret C dX5_word_76 (Option.some.inj h) rfl
        · replace h := sl_t c4 h
          refine sa_lconst C dX5_word_71 (v := 0) rfl ?_
          refine sa_goto C dX5_word_72 (tgt := 76) (by decide) ?_
          exact sa_lret C dX5_word_76 (Option.some.inj h) rfl
    · replace h := sl_n c1 h
      refine sa_lload_n C dX5_word_15 rfl 1 rfl ?_
      refine sa_ldc2 C dX5_word_16 q_1246 ?_
      refine sa_lcmp C dX5_word_19 ?_
      refine sa_if_le C dX5_word_20 (tgt := 27) (by decide) (fun c5 => ?_) (fun c5 => ?_)
      · replace h := sl_t c5 h
        refine sa_ldc2 C dX5_word_27 q_1247 ?_
        refine sa_lload_n C dX5_word_30 rfl 1 rfl ?_
        refine sa_lmul C dX5_word_31 ?_
        refine sa_aload_n C dX5_word_32 rfl 0 rfl ?_
        refine sa_getR C hh_X5 (k := 10) dX5_word_33 q_847 (by decide) lr_0 rfl ?_
        refine sa_iload_n C dX5_word_36 rfl 2 rfl ?_
        obtain ⟨v6, ev6, h⟩ := sl_b h
        refine sa_iald C dX5_word_37 lr_7 ev6 ?_
        refine sa_bipush C dX5_word_38 bp_96 ?_
        refine sa_isub C dX5_word_40 ?_
        refine sa_i2l C dX5_word_41 ?_
        refine sa_ladd C dX5_word_42 ?_
        refine sa_lstore_n C dX5_word_43 rfl (by decide) (lv2 := [(1, .long (((32 : Int64) * x1) + (v6 - (96 : Int32)).toInt64)), (0, .ref (g 0)), (3, .int x3)]) rfl ?_
        refine sa_iinc C dX5_word_44 2 rfl (v := (x3 + (1 : Int32))) (by rw [ic_1]) (by decide) (lv2 := [(3, .int (x3 + (1 : Int32))), (1, .long (((32 : Int64) * x1) + (v6 - (96 : Int32)).toInt64)), (0, .ref (g 0))]) rfl ?_
        refine sa_goto C dX5_word_47 (tgt := 7) (by decide) ?_
        exact sa_sub [2, 1, 0] rfl (ih h)
      · replace h := sl_n c5 h
        refine sa_lload_n C dX5_word_23 rfl 1 rfl ?_
        refine sa_goto C dX5_word_24 (tgt := 43) (by decide) ?_
        refine sa_lstore_n C dX5_word_43 rfl (by decide) (lv2 := [(1, .long x1), (0, .ref (g 0)), (3, .int x3)]) rfl ?_
        refine sa_iinc C dX5_word_44 2 rfl (v := (x3 + (1 : Int32))) (by rw [ic_1]) (by decide) (lv2 := [(3, .int (x3 + (1 : Int32))), (1, .long x1), (0, .ref (g 0))]) rfl ?_
        refine sa_goto C dX5_word_47 (tgt := 7) (by decide) ?_
        exact sa_sub [2, 1, 0] rfl (ih h)
theorem cc5_word {D : va_G} {cA : ClassId} {g : Nat → Nat} {A : Nat → Prop} {z : sl_K} {l : Launch} {M : sl_M} {r : Int64} (h : f5_word M = some r) : sl_N sl_cl LR D cA g A z l yX5_word cX5_word 4 (some .long) 2 45 [.ref (g 0)] M (some (.long r)) M := by
  refine sl_N.of (by decide) (Nat.le_of_ble_eq_true rfl) rfl ?_
  intro p e s m args below meth c C
  replace C : sl_C RX5 cX5_word 4 (some .long) sl_cl LR D cA g A z p s m meth c := C
  have hR : 2 ≤ (({ frames := 2, cells := 0, slots := 0, locals := 45 } : Room)).frames ∧ 45 ≤ (({ frames := 2, cells := 0, slots := 0, locals := 45 } : Room)).locals := ⟨Nat.le_refl _, Nat.le_refl _⟩
  rw [f5_word] at h
  refine sa_lconst C dX5_word_0 (v := 0) rfl ?_
  refine sa_lstore_n C dX5_word_1 rfl (by decide) (lv2 := [(1, .long (0 : Int64)), (0, .ref (g 0))]) rfl ?_
  refine sa_aload_n C dX5_word_2 rfl 1 rfl ?_
  refine sa_getI C hh_X5 (k := 12) dX5_word_3 q_849 (by decide) lr_0 rfl ?_
  refine sa_istore_n C dX5_word_6 rfl (by decide) (lv2 := [(3, .int (M 0 12)), (1, .long (0 : Int64)), (0, .ref (g 0))]) rfl ?_
  exact sa_sub [2, 1, 0] rfl (w5_word_7 C hR 400 h)
/-! X5 number -/
def f5_number_79 (x1 : Int32) (x2 : Int32) (x3 : Int32) (x4 : Int32) (M : sl_M) : Option sl_M := (if x3 = 0 then (f5_needs (0 : Int32) (sl_up M 0 14 x4)).bind fun r2 => some r2 else (if (f5_in x4.toInt64 x1.toInt64 x2.toInt64) = 0 then (f5_needs (0 : Int32) (sl_up M 0 14 x4)).bind fun r4 => some r4 else (f5_needs (1 : Int32) (sl_up M 0 14 x4)).bind fun r5 => some r5))
def f5_number_29 (x1 : Int32) (x2 : Int32) (x3 : Int32) : Nat → Int32 → Int32 → sl_M → Option sl_M
  | 0, _, _, _ => none
  | n + 1, x4, x5, M => (if (M 0 13) ≤ x5 then f5_number_79 x1 x2 x3 x4 M else (if x3 = 0 then f5_number_79 x1 x2 x3 x4 M else (if x4 ≤ (999 : Int32) then (sl_ld (M 7) 120 x5).bind fun v4 => f5_number_29 x1 x2 x3 n ((((10 : Int32) * x4) + v4) - (48 : Int32)) (x5 + (1 : Int32)) M else f5_number_29 x1 x2 x3 n x4 (x5 + (1 : Int32)) M)))
def f5_number (x1 : Int32) (x2 : Int32) (M : sl_M) : Option sl_M := (if (M 0 15) = 0 then (f5_byteAt (M 0 12) M).bind fun r2 => f5_number_29 x1 x2 (f5_isDigit r2) 400 (0 : Int32) (M 0 12) M else some M)
theorem w5_number_79 {D : va_G} {cA : ClassId} {g : Nat → Nat} {A : Nat → Prop} {z : sl_K} {l : Launch} {p : Program} {e : Env} {R : Room} {s : State} {m : MethodId} {args : Array Value} {below : List Frame} {meth : Method} {c : Code} (C : sl_C RX5 cX5_number 6 none sl_cl LR D cA g A z p s m meth c) (hR : 4 ≤ R.frames ∧ 88 ≤ R.locals) {M : sl_M} {r : sl_M} {x1 : Int32} {x2 : Int32} {x3 : Int32} {x4 : Int32} (h : f5_number_79 x1 x2 x3 x4 M = some r) : sl_A sl_cl LR D cA g A p l e R s m args below meth c (MQ below (sl_Q sl_cl LR D cA g A none r) args s 0 0 A) 6 79 [(0, .ref (g 0)), (1, .int x1), (2, .int x2), (3, .int x3), (4, .int x4)] [] M := by
  rw [f5_number_79] at h
  refine sa_aload_n C dX5_number_79 rfl 0 rfl ?_
  refine sa_iload C dX5_number_80 4 rfl ?_
  refine sa_put C hh_X5 (k := 14) dX5_number_82 q_851 (by decide) rfl (fty := .int) (by decide) rfl rfl lr_0 rfl ?_
  refine sa_aload_n C dX5_number_85 rfl 0 rfl ?_
  refine sa_iload_n C dX5_number_86 rfl 3 rfl ?_
  refine sa_if_eq C dX5_number_87 (tgt := 107) (by decide) (fun c1 => ?_) (fun c1 => ?_)
  · replace h := sl_t c1 h
    refine sa_iconst C dX5_number_107 ic_0 ?_
    obtain ⟨r2, er2, h⟩ := sl_b h
    refine sa_invVv C yy_X5_needs ⟨q_1261, q_88⟩ q_1259 dX5_number_108 (As := [.int (0 : Int32)]) (rest := []) rfl ⟨Nat.le_trans (Nat.le_of_ble_eq_true rfl) hR.1, Nat.le_trans (Nat.le_of_ble_eq_true rfl) hR.2⟩ (Nat.le_of_ble_eq_true rfl) hh_X5 lr_0 (cc5_needs er2) rfl ?_
    exact sa_vret C dX5_number_111 (Option.some.inj h)
  · replace h := sl_n c1 h
    refine sa_iload C dX5_number_90 4 rfl ?_
    refine sa_i2l C dX5_number_92 ?_
    refine sa_iload_n C dX5_number_93 rfl 1 rfl ?_
    refine sa_i2l C dX5_number_94 ?_
    refine sa_iload_n C dX5_number_95 rfl 2 rfl ?_
    refine sa_i2l C dX5_number_96 ?_
    refine sa_invSi C yy_X5_in q_907 q_906 dX5_number_97 (As := [.long x4.toInt64, .long x1.toInt64, .long x2.toInt64]) (rest := [.ref (g 0)]) rfl ⟨Nat.le_trans (Nat.le_of_ble_eq_true rfl) hR.1, Nat.le_trans (Nat.le_of_ble_eq_true rfl) hR.2⟩ (Nat.le_of_ble_eq_true rfl) (cc5_in rfl) rfl ?_
    refine sa_if_eq C dX5_number_100 (tgt := 107) (by decide) (fun c3 => ?_) (fun c3 => ?_)
    · replace h := sl_t c3 h
      refine sa_iconst C dX5_number_107 ic_0 ?_
      obtain ⟨r4, er4, h⟩ := sl_b h
      refine sa_invVv C yy_X5_needs ⟨q_1261, q_88⟩ q_1259 dX5_number_108 (As := [.int (0 : Int32)]) (rest := []) rfl ⟨Nat.le_trans (Nat.le_of_ble_eq_true rfl) hR.1, Nat.le_trans (Nat.le_of_ble_eq_true rfl) hR.2⟩ (Nat.le_of_ble_eq_true rfl) hh_X5 lr_0 (cc5_needs er4) rfl ?_
      exact sa_vret C dX5_number_111 (Option.some.inj h)
    · replace h := sl_n c3 h
      refine sa_iconst C dX5_number_103 ic_1 ?_
      refine sa_goto C dX5_number_104 (tgt := 108) (by decide) ?_
      obtain ⟨r5, er5, h⟩ := sl_b h
      refine sa_invVv C yy_X5_needs ⟨q_1261, q_88⟩ q_1259 dX5_number_108 (As := [.int (1 : Int32)]) (rest := []) rfl ⟨Nat.le_trans (Nat.le_of_ble_eq_true rfl) hR.1, Nat.le_trans (Nat.le_of_ble_eq_true rfl) hR.2⟩ (Nat.le_of_ble_eq_true rfl) hh_X5 lr_0 (cc5_needs er5) rfl ?_
      exact sa_vret C dX5_number_111 (Option.some.inj h)
theorem w5_number_29 {D : va_G} {cA : ClassId} {g : Nat → Nat} {A : Nat → Prop} {z : sl_K} {l : Launch} {p : Program} {e : Env} {R : Room} {s : State} {m : MethodId} {args : Array Value} {below : List Frame} {meth : Method} {c : Code} (C : sl_C RX5 cX5_number 6 none sl_cl LR D cA g A z p s m meth c) (hR : 4 ≤ R.frames ∧ 88 ≤ R.locals) {r : sl_M} {x1 : Int32} {x2 : Int32} {x3 : Int32} : ∀ (n : Nat) {x4 : Int32} {x5 : Int32} {M : sl_M}, f5_number_29 x1 x2 x3 n x4 x5 M = some r → sl_A sl_cl LR D cA g A p l e R s m args below meth c (MQ below (sl_Q sl_cl LR D cA g A none r) args s 0 0 A) 6 29 [(0, .ref (g 0)), (1, .int x1), (2, .int x2), (3, .int x3), (4, .int x4), (5, .int x5)] [] M := by
  intro n
  induction n with
  | zero =>
    intro x4 x5 M h
    exact absurd h.symm (Option.some_ne_none _)
  | succ n ih =>
    intro x4 x5 M h
    rw [f5_number_29] at h
    refine sa_iload C dX5_number_29 5 rfl ?_
    refine sa_aload_n C dX5_number_31 rfl 0 rfl ?_
    refine sa_getI C hh_X5 (k := 13) dX5_number_32 q_850 (by decide) lr_0 rfl ?_
    refine sa_icmp_ge C dX5_number_35 (tgt := 79) (by decide) (fun c1 => ?_) (fun c1 => ?_)
    · replace h := sl_t c1 h
      exact sa_sub [0, 1, 2, 3, 4] rfl (w5_number_79 C hR h)
    · replace h := sl_n c1 h
      refine sa_iload_n C dX5_number_38 rfl 3 rfl ?_
      refine sa_if_eq C dX5_number_39 (tgt := 79) (by decide) (fun c2 => ?_) (fun c2 => ?_)
      · replace h := sl_t c2 h
        exact sa_sub [0, 1, 2, 3, 4] rfl (w5_number_79 C hR h)
      · replace h := sl_n c2 h
        refine sa_iload C dX5_number_42 4 rfl ?_
        refine sa_sipush C dX5_number_44 sp_999 ?_
        refine sa_icmp_le C dX5_number_47 (tgt := 55) (by decide) (fun c3 => ?_) (fun c3 => ?_)
        · replace h := sl_t c3 h
          refine sa_bipush C dX5_number_55 bp_10 ?_
          refine sa_iload C dX5_number_57 4 rfl ?_
          refine sa_imul C dX5_number_59 ?_
          refine sa_aload_n C dX5_number_60 rfl 0 rfl ?_
          refine sa_getR C hh_X5 (k := 10) dX5_number_61 q_847 (by decide) lr_0 rfl ?_
          refine sa_iload C dX5_number_64 5 rfl ?_
          obtain ⟨v4, ev4, h⟩ := sl_b h
          refine sa_iald C dX5_number_66 lr_7 ev4 ?_
          refine sa_iadd C dX5_number_67 ?_
          refine sa_bipush C dX5_number_68 bp_48 ?_
          refine sa_isub C dX5_number_70 ?_
          refine sa_istore C dX5_number_71 (by decide) (lv2 := [(4, .int ((((10 : Int32) * x4) + v4) - (48 : Int32))), (0, .ref (g 0)), (1, .int x1), (2, .int x2), (3, .int x3), (5, .int x5)]) rfl ?_
          refine sa_iinc C dX5_number_73 5 rfl (v := (x5 + (1 : Int32))) (by rw [ic_1]) (by decide) (lv2 := [(5, .int (x5 + (1 : Int32))), (4, .int ((((10 : Int32) * x4) + v4) - (48 : Int32))), (0, .ref (g 0)), (1, .int x1), (2, .int x2), (3, .int x3)]) rfl ?_
          refine sa_goto C dX5_number_76 (tgt := 29) (by decide) ?_
          exact sa_sub [2, 3, 4, 5, 1, 0] rfl (ih h)
        · replace h := sl_n c3 h
          refine sa_iload C dX5_number_50 4 rfl ?_
          refine sa_goto C dX5_number_52 (tgt := 71) (by decide) ?_
          refine sa_istore C dX5_number_71 (by decide) (lv2 := [(4, .int x4), (0, .ref (g 0)), (1, .int x1), (2, .int x2), (3, .int x3), (5, .int x5)]) rfl ?_
          refine sa_iinc C dX5_number_73 5 rfl (v := (x5 + (1 : Int32))) (by rw [ic_1]) (by decide) (lv2 := [(5, .int (x5 + (1 : Int32))), (4, .int x4), (0, .ref (g 0)), (1, .int x1), (2, .int x2), (3, .int x3)]) rfl ?_
          refine sa_goto C dX5_number_76 (tgt := 29) (by decide) ?_
          exact sa_sub [2, 3, 4, 5, 1, 0] rfl (ih h)
theorem cc5_number {D : va_G} {cA : ClassId} {g : Nat → Nat} {A : Nat → Prop} {z : sl_K} {l : Launch} {x1 : Int32} {x2 : Int32} {M : sl_M} {r : sl_M} (h : f5_number x1 x2 M = some r) : sl_N sl_cl LR D cA g A z l yX5_number cX5_number 6 none 4 88 [.ref (g 0), .int x1, .int x2] M none r := by
  refine sl_N.of (by decide) (Nat.le_of_ble_eq_true rfl) rfl ?_
  intro p e s m args below meth c C
  replace C : sl_C RX5 cX5_number 6 none sl_cl LR D cA g A z p s m meth c := C
  have hR : 4 ≤ (({ frames := 4, cells := 0, slots := 0, locals := 88 } : Room)).frames ∧ 88 ≤ (({ frames := 4, cells := 0, slots := 0, locals := 88 } : Room)).locals := ⟨Nat.le_refl _, Nat.le_refl _⟩
  rw [f5_number] at h
  refine sa_aload_n C dX5_number_0 rfl 0 rfl ?_
  refine sa_getI C hh_X5 (k := 15) dX5_number_1 q_852 (by decide) lr_0 rfl ?_
  refine sa_if_eq C dX5_number_4 (tgt := 8) (by decide) (fun c1 => ?_) (fun c1 => ?_)
  · replace h := sl_t c1 h
    refine sa_aload_n C dX5_number_8 rfl 0 rfl ?_
    refine sa_aload_n C dX5_number_9 rfl 0 rfl ?_
    refine sa_getI C hh_X5 (k := 12) dX5_number_10 q_849 (by decide) lr_0 rfl ?_
    obtain ⟨r2, er2, h⟩ := sl_b h
    refine sa_invVi C yy_X5_byteAt ⟨q_1222, q_83⟩ q_1220 dX5_number_13 (As := [.int (M 0 12)]) (rest := []) rfl ⟨Nat.le_trans (Nat.le_of_ble_eq_true rfl) hR.1, Nat.le_trans (Nat.le_of_ble_eq_true rfl) hR.2⟩ (Nat.le_of_ble_eq_true rfl) hh_X5 lr_0 (cc5_byteAt er2) rfl ?_
    refine sa_invSi C yy_X5_isDigit q_1230 q_1229 dX5_number_16 (As := [.int r2]) (rest := []) rfl ⟨Nat.le_trans (Nat.le_of_ble_eq_true rfl) hR.1, Nat.le_trans (Nat.le_of_ble_eq_true rfl) hR.2⟩ (Nat.le_of_ble_eq_true rfl) (cc5_isDigit rfl) rfl ?_
    refine sa_istore_n C dX5_number_19 rfl (by decide) (lv2 := [(3, .int (f5_isDigit r2)), (0, .ref (g 0)), (1, .int x1), (2, .int x2)]) rfl ?_
    refine sa_iconst C dX5_number_20 ic_0 ?_
    refine sa_istore C dX5_number_21 (by decide) (lv2 := [(4, .int (0 : Int32)), (3, .int (f5_isDigit r2)), (0, .ref (g 0)), (1, .int x1), (2, .int x2)]) rfl ?_
    refine sa_aload_n C dX5_number_23 rfl 2 rfl ?_
    refine sa_getI C hh_X5 (k := 12) dX5_number_24 q_849 (by decide) lr_0 rfl ?_
    refine sa_istore C dX5_number_27 (by decide) (lv2 := [(5, .int (M 0 12)), (4, .int (0 : Int32)), (3, .int (f5_isDigit r2)), (0, .ref (g 0)), (1, .int x1), (2, .int x2)]) rfl ?_
    exact sa_sub [3, 4, 5, 2, 1, 0] rfl (w5_number_29 C hR 400 h)
  · replace h := sl_n c1 h
    exact sa_vret C dX5_number_7 (Option.some.inj h)
/-! X5 kindHere -/
def f5_kindHere (M : sl_M) : Option Int32 := (f5_word M).bind fun r1 => (if (lg_cmp r1 (394692 : Int64)) = 0 then some (0 : Int32) else (if (lg_cmp r1 (24170674 : Int64)) = 0 then some (1 : Int32) else (if (lg_cmp r1 (6591876 : Int64)) = 0 then some (2 : Int32) else (if (lg_cmp r1 (19617 : Int64)) = 0 then some (3 : Int32) else (if (lg_cmp r1 (605670 : Int64)) = 0 then some (4 : Int32) else (if (lg_cmp r1 (769508 : Int64)) = 0 then some (5 : Int32) else (if (lg_cmp r1 (5517 : Int64)) = 0 then some (6 : Int32) else some (-1 : Int32))))))))
theorem cc5_kindHere {D : va_G} {cA : ClassId} {g : Nat → Nat} {A : Nat → Prop} {z : sl_K} {l : Launch} {M : sl_M} {r : Int32} (h : f5_kindHere M = some r) : sl_N sl_cl LR D cA g A z l yX5_kindHere cX5_kindHere 3 (some .int) 3 68 [.ref (g 0)] M (some (.int r)) M := by
  refine sl_N.of (by decide) (Nat.le_of_ble_eq_true rfl) rfl ?_
  intro p e s m args below meth c C
  replace C : sl_C RX5 cX5_kindHere 3 (some .int) sl_cl LR D cA g A z p s m meth c := C
  have hR : 3 ≤ (({ frames := 3, cells := 0, slots := 0, locals := 68 } : Room)).frames ∧ 68 ≤ (({ frames := 3, cells := 0, slots := 0, locals := 68 } : Room)).locals := ⟨Nat.le_refl _, Nat.le_refl _⟩
  rw [f5_kindHere] at h
  refine sa_aload_n C dX5_kindHere_0 rfl 0 rfl ?_
  obtain ⟨r1, er1, h⟩ := sl_b h
  refine sa_invVl C yy_X5_word ⟨q_1244, q_86⟩ q_1242 dX5_kindHere_1 (As := []) (rest := []) rfl ⟨Nat.le_trans (Nat.le_of_ble_eq_true rfl) hR.1, Nat.le_trans (Nat.le_of_ble_eq_true rfl) hR.2⟩ (Nat.le_of_ble_eq_true rfl) hh_X5 lr_0 (cc5_word er1) rfl ?_
  refine sa_lstore_n C dX5_kindHere_4 rfl (by decide) (lv2 := [(1, .long r1), (0, .ref (g 0))]) rfl ?_
  refine sa_lload_n C dX5_kindHere_5 rfl 0 rfl ?_
  refine sa_ldc2 C dX5_kindHere_6 q_1248 ?_
  refine sa_lcmp C dX5_kindHere_9 ?_
  refine sa_if_ne C dX5_kindHere_10 (tgt := 17) (by decide) (fun c2 => ?_) (fun c2 => ?_)
  · replace h := sl_n c2 h
    refine sa_lload_n C dX5_kindHere_17 rfl 0 rfl ?_
    refine sa_ldc2 C dX5_kindHere_18 q_1249 ?_
    refine sa_lcmp C dX5_kindHere_21 ?_
    refine sa_if_ne C dX5_kindHere_22 (tgt := 29) (by decide) (fun c3 => ?_) (fun c3 => ?_)
    · replace h := sl_n c3 h
      refine sa_lload_n C dX5_kindHere_29 rfl 0 rfl ?_
      refine sa_ldc2 C dX5_kindHere_30 q_1250 ?_
      refine sa_lcmp C dX5_kindHere_33 ?_
      refine sa_if_ne C dX5_kindHere_34 (tgt := 41) (by decide) (fun c4 => ?_) (fun c4 => ?_)
      · replace h := sl_n c4 h
        refine sa_lload_n C dX5_kindHere_41 rfl 0 rfl ?_
        refine sa_ldc2 C dX5_kindHere_42 q_1251 ?_
        refine sa_lcmp C dX5_kindHere_45 ?_
        refine sa_if_ne C dX5_kindHere_46 (tgt := 53) (by decide) (fun c5 => ?_) (fun c5 => ?_)
        · replace h := sl_n c5 h
          refine sa_lload_n C dX5_kindHere_53 rfl 0 rfl ?_
          refine sa_ldc2 C dX5_kindHere_54 q_1252 ?_
          refine sa_lcmp C dX5_kindHere_57 ?_
          refine sa_if_ne C dX5_kindHere_58 (tgt := 65) (by decide) (fun c6 => ?_) (fun c6 => ?_)
          · replace h := sl_n c6 h
            refine sa_lload_n C dX5_kindHere_65 rfl 0 rfl ?_
            refine sa_ldc2 C dX5_kindHere_66 q_1253 ?_
            refine sa_lcmp C dX5_kindHere_69 ?_
            refine sa_if_ne C dX5_kindHere_70 (tgt := 77) (by decide) (fun c7 => ?_) (fun c7 => ?_)
            · replace h := sl_n c7 h
              refine sa_lload_n C dX5_kindHere_77 rfl 0 rfl ?_
              refine sa_ldc2 C dX5_kindHere_78 q_1254 ?_
              refine sa_lcmp C dX5_kindHere_81 ?_
              refine sa_if_ne C dX5_kindHere_82 (tgt := 90) (by decide) (fun c8 => ?_) (fun c8 => ?_)
              · replace h := sl_n c8 h
                refine sa_iconst C dX5_kindHere_90 ic_m1 ?_
                exact sa_iret C dX5_kindHere_91 (Option.some.inj h) rfl
              · replace h := sl_t c8 h
                refine sa_bipush C dX5_kindHere_85 bp_6 ?_
                refine sa_goto C dX5_kindHere_87 (tgt := 91) (by decide) ?_
                exact sa_iret C dX5_kindHere_91 (Option.some.inj h) rfl
            · replace h := sl_t c7 h
              refine sa_iconst C dX5_kindHere_73 ic_5 ?_
              refine sa_goto C dX5_kindHere_74 (tgt := 91) (by decide) ?_
              exact sa_iret C dX5_kindHere_91 (Option.some.inj h) rfl
          · replace h := sl_t c6 h
            refine sa_iconst C dX5_kindHere_61 ic_4 ?_
            refine sa_goto C dX5_kindHere_62 (tgt := 91) (by decide) ?_
            exact sa_iret C dX5_kindHere_91 (Option.some.inj h) rfl
        · replace h := sl_t c5 h
          refine sa_iconst C dX5_kindHere_49 ic_3 ?_
          refine sa_goto C dX5_kindHere_50 (tgt := 91) (by decide) ?_
          exact sa_iret C dX5_kindHere_91 (Option.some.inj h) rfl
      · replace h := sl_t c4 h
        refine sa_iconst C dX5_kindHere_37 ic_2 ?_
        refine sa_goto C dX5_kindHere_38 (tgt := 91) (by decide) ?_
        exact sa_iret C dX5_kindHere_91 (Option.some.inj h) rfl
    · replace h := sl_t c3 h
      refine sa_iconst C dX5_kindHere_25 ic_1 ?_
      refine sa_goto C dX5_kindHere_26 (tgt := 91) (by decide) ?_
      exact sa_iret C dX5_kindHere_91 (Option.some.inj h) rfl
  · replace h := sl_t c2 h
    refine sa_iconst C dX5_kindHere_13 ic_0 ?_
    refine sa_goto C dX5_kindHere_14 (tgt := 91) (by decide) ?_
    exact sa_iret C dX5_kindHere_91 (Option.some.inj h) rfl
/-! X5 perhaps -/
def f5_perhaps (x1 : Int32) (x2 : Int32) (x3 : Int32) (x4 : Int32) (M : sl_M) : Option (Int32 × sl_M) := (if x1 = 0 then some (x4, M) else (f5_needs (1 : Int32) M).bind fun r2 => (f5_number x2 x3 r2).bind fun r3 => some ((r3 0 14), r3))
theorem cc5_perhaps {D : va_G} {cA : ClassId} {g : Nat → Nat} {A : Nat → Prop} {z : sl_K} {l : Launch} {x1 : Int32} {x2 : Int32} {x3 : Int32} {x4 : Int32} {M : sl_M} {r : Int32 × sl_M} (h : f5_perhaps x1 x2 x3 x4 M = some r) : sl_N sl_cl LR D cA g A z l yX5_perhaps cX5_perhaps 5 (some .int) 5 113 [.ref (g 0), .int x1, .int x2, .int x3, .int x4] M (some (.int r.1)) r.2 := by
  refine sl_N.of (by decide) (Nat.le_of_ble_eq_true rfl) rfl ?_
  intro p e s m args below meth c C
  replace C : sl_C RX5 cX5_perhaps 5 (some .int) sl_cl LR D cA g A z p s m meth c := C
  have hR : 5 ≤ (({ frames := 5, cells := 0, slots := 0, locals := 113 } : Room)).frames ∧ 113 ≤ (({ frames := 5, cells := 0, slots := 0, locals := 113 } : Room)).locals := ⟨Nat.le_refl _, Nat.le_refl _⟩
  rw [f5_perhaps] at h
  refine sa_iload_n C dX5_perhaps_0 rfl 1 rfl ?_
  refine sa_if_ne C dX5_perhaps_1 (tgt := 7) (by decide) (fun c1 => ?_) (fun c1 => ?_)
  · replace h := sl_n c1 h
    refine sa_aload_n C dX5_perhaps_7 rfl 0 rfl ?_
    refine sa_iconst C dX5_perhaps_8 ic_1 ?_
    obtain ⟨r2, er2, h⟩ := sl_b h
    refine sa_invVv C yy_X5_needs ⟨q_1261, q_88⟩ q_1259 dX5_perhaps_9 (As := [.int (1 : Int32)]) (rest := []) rfl ⟨Nat.le_trans (Nat.le_of_ble_eq_true rfl) hR.1, Nat.le_trans (Nat.le_of_ble_eq_true rfl) hR.2⟩ (Nat.le_of_ble_eq_true rfl) hh_X5 lr_0 (cc5_needs er2) rfl ?_
    refine sa_aload_n C dX5_perhaps_12 rfl 0 rfl ?_
    refine sa_iload_n C dX5_perhaps_13 rfl 2 rfl ?_
    refine sa_iload_n C dX5_perhaps_14 rfl 3 rfl ?_
    obtain ⟨r3, er3, h⟩ := sl_b h
    refine sa_invVv C yy_X5_number ⟨q_1265, q_89⟩ q_1263 dX5_perhaps_15 (As := [.int x2, .int x3]) (rest := []) rfl ⟨Nat.le_trans (Nat.le_of_ble_eq_true rfl) hR.1, Nat.le_trans (Nat.le_of_ble_eq_true rfl) hR.2⟩ (Nat.le_of_ble_eq_true rfl) hh_X5 lr_0 (cc5_number er3) rfl ?_
    refine sa_aload_n C dX5_perhaps_18 rfl 0 rfl ?_
    refine sa_getI C hh_X5 (k := 14) dX5_perhaps_19 q_851 (by decide) lr_0 rfl ?_
    exact sa_iret C dX5_perhaps_22 (sl_p1 h) (sl_p2 h)
  · replace h := sl_t c1 h
    refine sa_iload C dX5_perhaps_4 4 rfl ?_
    exact sa_iret C dX5_perhaps_6 (sl_p1 h) (sl_p2 h)
/-! X5 cellItem -/
def f5_cellItem_157 (k97 : Int32 → sl_M → Option sl_M) (x1 : Int32) (x3 : Int32) (x4 : Int32) (x5 : Int32) (x6 : Int32) (t0 : Int32) (t1 : Int32) (M : sl_M) : Option sl_M := (sl_st M 1 111 t1 t0).bind fun M1 => (sl_st M1 1 111 (((5 : Int32) + ((3 : Int32) * x6)) + (2 : Int32)) x5).bind fun M2 => k97 (x6 + (1 : Int32)) M2
def f5_cellItem_97 (x1 : Int32) (x3 : Int32) (x4 : Int32) (x5 : Int32) : Nat → Int32 → sl_M → Option sl_M
  | 0, _, _ => none
  | n + 1, x6, M => (if x3 < x6 then some M else (if (M 0 15) = 0 then (sl_st M 1 111 ((5 : Int32) + ((3 : Int32) * x6)) x1).bind fun M3 => (if 0 ≤ x4 then f5_cellItem_157 (f5_cellItem_97 x1 x3 x4 x5 n) x1 x3 x4 x5 x6 x4 (((5 : Int32) + ((3 : Int32) * x6)) + (1 : Int32)) M3 else (sl_ld (M3 1) 111 (((5 : Int32) + ((3 : Int32) * x6)) + (1 : Int32))).bind fun v5 => f5_cellItem_157 (f5_cellItem_97 x1 x3 x4 x5 n) x1 x3 x4 x5 x6 v5 (((5 : Int32) + ((3 : Int32) * x6)) + (1 : Int32)) M3) else some M))
def f5_cellItem_85 (x1 : Int32) (x2 : Int32) (x3 : Int32) (x4 : Int32) (t0 : Int32) (M : sl_M) : Option sl_M := (f5_perhaps t0 (0 : Int32) (99 : Int32) (0 : Int32) M).bind fun r1 => f5_cellItem_97 x1 x3 x4 r1.1 400 x2 r1.2
def f5_cellItem_59 (x1 : Int32) (x2 : Int32) (x3 : Int32) (t0 : Int32) (M : sl_M) : Option sl_M := (f5_perhaps t0 (0 : Int32) (99 : Int32) (-1 : Int32) M).bind fun r1 => (f5_word r1.2).bind fun r2 => (if (lg_cmp r2 (1253 : Int64)) = 0 then f5_cellItem_85 x1 x2 x3 r1.1 (1 : Int32) r1.2 else f5_cellItem_85 x1 x2 x3 r1.1 (0 : Int32) r1.2)
def f5_cellItem_34 (x1 : Int32) (x2 : Int32) (t0 : Int32) (M : sl_M) : Option sl_M := (f5_perhaps t0 x2 (23 : Int32) x2 M).bind fun r1 => (f5_word r1.2).bind fun r2 => (if (lg_cmp r2 (271592 : Int64)) = 0 then f5_cellItem_59 x1 x2 r1.1 (1 : Int32) r1.2 else f5_cellItem_59 x1 x2 r1.1 (0 : Int32) r1.2)
def f5_cellItem (x1 : Int32) (M : sl_M) : Option sl_M := (f5_needs (1 : Int32) M).bind fun r1 => (f5_number (0 : Int32) (23 : Int32) r1).bind fun r2 => (f5_word r2).bind fun r3 => (if (lg_cmp r3 (655 : Int64)) = 0 then f5_cellItem_34 x1 (r2 0 14) (1 : Int32) r2 else f5_cellItem_34 x1 (r2 0 14) (0 : Int32) r2)
theorem w5_cellItem_157 {D : va_G} {cA : ClassId} {g : Nat → Nat} {A : Nat → Prop} {z : sl_K} {l : Launch} {p : Program} {e : Env} {R : Room} {s : State} {m : MethodId} {args : Array Value} {below : List Frame} {meth : Method} {c : Code} (C : sl_C RX5 cX5_cellItem 7 none sl_cl LR D cA g A z p s m meth c) (hR : 6 ≤ R.frames ∧ 137 ≤ R.locals) {M : sl_M} {r : sl_M} {x1 : Int32} {x3 : Int32} {x4 : Int32} {x5 : Int32} {x6 : Int32} {t0 : Int32} {t1 : Int32} {k97 : Int32 → sl_M → Option sl_M} (hk97 : ∀ {x6 : Int32} {M : sl_M}, k97 x6 M = some r → sl_A sl_cl LR D cA g A p l e R s m args below meth c (MQ below (sl_Q sl_cl LR D cA g A none r) args s 0 0 A) 7 97 [(0, .ref (g 0)), (1, .int x1), (3, .int x3), (4, .int x4), (5, .int x5), (6, .int x6)] [] M) (h : f5_cellItem_157 k97 x1 x3 x4 x5 x6 t0 t1 M = some r) : sl_A sl_cl LR D cA g A p l e R s m args below meth c (MQ below (sl_Q sl_cl LR D cA g A none r) args s 0 0 A) 7 157 [(0, .ref (g 0)), (1, .int x1), (3, .int x3), (4, .int x4), (5, .int x5), (6, .int x6)] [.int t0, .int t1, .ref (g 1)] M := by
  rw [f5_cellItem_157] at h
  obtain ⟨M1, eM1, h⟩ := sl_b h
  refine sa_iast C dX5_cellItem_157 lr_1 eM1 ?_
  refine sa_aload_n C dX5_cellItem_158 rfl 0 rfl ?_
  refine sa_getR C hh_X5 (k := 0) dX5_cellItem_159 q_837 (by decide) lr_0 rfl ?_
  refine sa_iconst C dX5_cellItem_162 ic_5 ?_
  refine sa_iconst C dX5_cellItem_163 ic_3 ?_
  refine sa_iload C dX5_cellItem_164 5 rfl ?_
  refine sa_imul C dX5_cellItem_166 ?_
  refine sa_iadd C dX5_cellItem_167 ?_
  refine sa_iconst C dX5_cellItem_168 ic_2 ?_
  refine sa_iadd C dX5_cellItem_169 ?_
  refine sa_iload C dX5_cellItem_170 4 rfl ?_
  obtain ⟨M2, eM2, h⟩ := sl_b h
  refine sa_iast C dX5_cellItem_172 lr_1 eM2 ?_
  refine sa_iinc C dX5_cellItem_173 5 rfl (v := (x6 + (1 : Int32))) (by rw [ic_1]) (by decide) (lv2 := [(6, .int (x6 + (1 : Int32))), (0, .ref (g 0)), (1, .int x1), (3, .int x3), (4, .int x4), (5, .int x5)]) rfl ?_
  refine sa_goto C dX5_cellItem_176 (tgt := 97) (by decide) ?_
  exact sa_sub [1, 2, 3, 4, 5, 0] rfl (hk97 h)
theorem w5_cellItem_97 {D : va_G} {cA : ClassId} {g : Nat → Nat} {A : Nat → Prop} {z : sl_K} {l : Launch} {p : Program} {e : Env} {R : Room} {s : State} {m : MethodId} {args : Array Value} {below : List Frame} {meth : Method} {c : Code} (C : sl_C RX5 cX5_cellItem 7 none sl_cl LR D cA g A z p s m meth c) (hR : 6 ≤ R.frames ∧ 137 ≤ R.locals) {r : sl_M} {x1 : Int32} {x3 : Int32} {x4 : Int32} {x5 : Int32} : ∀ (n : Nat) {x6 : Int32} {M : sl_M}, f5_cellItem_97 x1 x3 x4 x5 n x6 M = some r → sl_A sl_cl LR D cA g A p l e R s m args below meth c (MQ below (sl_Q sl_cl LR D cA g A none r) args s 0 0 A) 7 97 [(0, .ref (g 0)), (1, .int x1), (3, .int x3), (4, .int x4), (5, .int x5), (6, .int x6)] [] M := by
  intro n
  induction n with
  | zero =>
    intro x6 M h
    exact absurd h.symm (Option.some_ne_none _)
  | succ n ih =>
    intro x6 M h
    rw [f5_cellItem_97] at h
    refine sa_iload C dX5_cellItem_97 5 rfl ?_
    refine sa_iload_n C dX5_cellItem_99 rfl 2 rfl ?_
    refine sa_icmp_gt C dX5_cellItem_100 (tgt := 179) (by decide) (fun c1 => ?_) (fun c1 => ?_)
    · replace h := sl_t c1 h
      exact sa_vret C dX5_cellItem_179 (Option.some.inj h)
    · replace h := sl_n c1 h
      refine sa_aload_n C dX5_cellItem_103 rfl 0 rfl ?_
      refine sa_getI C hh_X5 (k := 15) dX5_cellItem_104 q_852 (by decide) lr_0 rfl ?_
      refine sa_if_ne C dX5_cellItem_107 (tgt := 179) (by decide) (fun c2 => ?_) (fun c2 => ?_)
      · replace h := sl_n c2 h
        exact sa_vret C dX5_cellItem_179 (Option.some.inj h)
      · replace h := sl_t c2 h
        refine sa_aload_n C dX5_cellItem_110 rfl 0 rfl ?_
        refine sa_getR C hh_X5 (k := 0) dX5_cellItem_111 q_837 (by decide) lr_0 rfl ?_
        refine sa_iconst C dX5_cellItem_114 ic_5 ?_
        refine sa_iconst C dX5_cellItem_115 ic_3 ?_
        refine sa_iload C dX5_cellItem_116 5 rfl ?_
        refine sa_imul C dX5_cellItem_118 ?_
        refine sa_iadd C dX5_cellItem_119 ?_
        refine sa_iload_n C dX5_cellItem_120 rfl 1 rfl ?_
        obtain ⟨M3, eM3, h⟩ := sl_b h
        refine sa_iast C dX5_cellItem_121 lr_1 eM3 ?_
        refine sa_aload_n C dX5_cellItem_122 rfl 0 rfl ?_
        refine sa_getR C hh_X5 (k := 0) dX5_cellItem_123 q_837 (by decide) lr_0 rfl ?_
        refine sa_iconst C dX5_cellItem_126 ic_5 ?_
        refine sa_iconst C dX5_cellItem_127 ic_3 ?_
        refine sa_iload C dX5_cellItem_128 5 rfl ?_
        refine sa_imul C dX5_cellItem_130 ?_
        refine sa_iadd C dX5_cellItem_131 ?_
        refine sa_iconst C dX5_cellItem_132 ic_1 ?_
        refine sa_iadd C dX5_cellItem_133 ?_
        refine sa_iload C dX5_cellItem_134 3 rfl ?_
        refine sa_if_ge C dX5_cellItem_136 (tgt := 155) (by decide) (fun c4 => ?_) (fun c4 => ?_)
        · replace h := sl_t c4 h
          refine sa_iload C dX5_cellItem_155 3 rfl ?_
          exact sa_sub [0, 1, 2, 3, 4, 5] rfl (w5_cellItem_157 C hR (fun h => ih h) h)
        · replace h := sl_n c4 h
          refine sa_aload_n C dX5_cellItem_139 rfl 0 rfl ?_
          refine sa_getR C hh_X5 (k := 0) dX5_cellItem_140 q_837 (by decide) lr_0 rfl ?_
          refine sa_iconst C dX5_cellItem_143 ic_5 ?_
          refine sa_iconst C dX5_cellItem_144 ic_3 ?_
          refine sa_iload C dX5_cellItem_145 5 rfl ?_
          refine sa_imul C dX5_cellItem_147 ?_
          refine sa_iadd C dX5_cellItem_148 ?_
          refine sa_iconst C dX5_cellItem_149 ic_1 ?_
          refine sa_iadd C dX5_cellItem_150 ?_
          obtain ⟨v5, ev5, h⟩ := sl_b h
          refine sa_iald C dX5_cellItem_151 lr_1 ev5 ?_
          refine sa_goto C dX5_cellItem_152 (tgt := 157) (by decide) ?_
          exact sa_sub [0, 1, 2, 3, 4, 5] rfl (w5_cellItem_157 C hR (fun h => ih h) h)
theorem w5_cellItem_85 {D : va_G} {cA : ClassId} {g : Nat → Nat} {A : Nat → Prop} {z : sl_K} {l : Launch} {p : Program} {e : Env} {R : Room} {s : State} {m : MethodId} {args : Array Value} {below : List Frame} {meth : Method} {c : Code} (C : sl_C RX5 cX5_cellItem 7 none sl_cl LR D cA g A z p s m meth c) (hR : 6 ≤ R.frames ∧ 137 ≤ R.locals) {M : sl_M} {r : sl_M} {x1 : Int32} {x2 : Int32} {x3 : Int32} {x4 : Int32} {t0 : Int32} (h : f5_cellItem_85 x1 x2 x3 x4 t0 M = some r) : sl_A sl_cl LR D cA g A p l e R s m args below meth c (MQ below (sl_Q sl_cl LR D cA g A none r) args s 0 0 A) 7 85 [(0, .ref (g 0)), (1, .int x1), (2, .int x2), (3, .int x3), (4, .int x4)] [.int t0, .ref (g 0)] M := by
  rw [f5_cellItem_85] at h
  refine sa_iconst C dX5_cellItem_85 ic_0 ?_
  refine sa_bipush C dX5_cellItem_86 bp_99 ?_
  refine sa_iconst C dX5_cellItem_88 ic_0 ?_
  obtain ⟨r1, er1, h⟩ := sl_b h
  refine sa_invVi C yy_X5_perhaps ⟨q_1270, q_90⟩ q_1268 dX5_cellItem_89 (As := [.int t0, .int (0 : Int32), .int (99 : Int32), .int (0 : Int32)]) (rest := []) rfl ⟨Nat.le_trans (Nat.le_of_ble_eq_true rfl) hR.1, Nat.le_trans (Nat.le_of_ble_eq_true rfl) hR.2⟩ (Nat.le_of_ble_eq_true rfl) hh_X5 lr_0 (cc5_perhaps er1) rfl ?_
  refine sa_istore C dX5_cellItem_92 (by decide) (lv2 := [(5, .int r1.1), (0, .ref (g 0)), (1, .int x1), (2, .int x2), (3, .int x3), (4, .int x4)]) rfl ?_
  refine sa_iload_n C dX5_cellItem_94 rfl 3 rfl ?_
  refine sa_istore C dX5_cellItem_95 (by decide) (lv2 := [(6, .int x2), (5, .int r1.1), (0, .ref (g 0)), (1, .int x1), (2, .int x2), (3, .int x3), (4, .int x4)]) rfl ?_
  exact sa_sub [2, 3, 5, 6, 1, 0] rfl (w5_cellItem_97 C hR 400 h)
theorem w5_cellItem_59 {D : va_G} {cA : ClassId} {g : Nat → Nat} {A : Nat → Prop} {z : sl_K} {l : Launch} {p : Program} {e : Env} {R : Room} {s : State} {m : MethodId} {args : Array Value} {below : List Frame} {meth : Method} {c : Code} (C : sl_C RX5 cX5_cellItem 7 none sl_cl LR D cA g A z p s m meth c) (hR : 6 ≤ R.frames ∧ 137 ≤ R.locals) {M : sl_M} {r : sl_M} {x1 : Int32} {x2 : Int32} {x3 : Int32} {t0 : Int32} (h : f5_cellItem_59 x1 x2 x3 t0 M = some r) : sl_A sl_cl LR D cA g A p l e R s m args below meth c (MQ below (sl_Q sl_cl LR D cA g A none r) args s 0 0 A) 7 59 [(0, .ref (g 0)), (1, .int x1), (2, .int x2), (3, .int x3)] [.int t0, .ref (g 0)] M := by
  rw [f5_cellItem_59] at h
  refine sa_iconst C dX5_cellItem_59 ic_0 ?_
  refine sa_bipush C dX5_cellItem_60 bp_99 ?_
  refine sa_iconst C dX5_cellItem_62 ic_m1 ?_
  obtain ⟨r1, er1, h⟩ := sl_b h
  refine sa_invVi C yy_X5_perhaps ⟨q_1270, q_90⟩ q_1268 dX5_cellItem_63 (As := [.int t0, .int (0 : Int32), .int (99 : Int32), .int (-1 : Int32)]) (rest := []) rfl ⟨Nat.le_trans (Nat.le_of_ble_eq_true rfl) hR.1, Nat.le_trans (Nat.le_of_ble_eq_true rfl) hR.2⟩ (Nat.le_of_ble_eq_true rfl) hh_X5 lr_0 (cc5_perhaps er1) rfl ?_
  refine sa_istore C dX5_cellItem_66 (by decide) (lv2 := [(4, .int r1.1), (0, .ref (g 0)), (1, .int x1), (2, .int x2), (3, .int x3)]) rfl ?_
  refine sa_aload_n C dX5_cellItem_68 rfl 1 rfl ?_
  refine sa_aload_n C dX5_cellItem_69 rfl 1 rfl ?_
  obtain ⟨r2, er2, h⟩ := sl_b h
  refine sa_invVl C yy_X5_word ⟨q_1244, q_86⟩ q_1242 dX5_cellItem_70 (As := []) (rest := [.ref (g 0)]) rfl ⟨Nat.le_trans (Nat.le_of_ble_eq_true rfl) hR.1, Nat.le_trans (Nat.le_of_ble_eq_true rfl) hR.2⟩ (Nat.le_of_ble_eq_true rfl) hh_X5 lr_0 (cc5_word er2) rfl ?_
  refine sa_ldc2 C dX5_cellItem_73 q_1273 ?_
  refine sa_lcmp C dX5_cellItem_76 ?_
  refine sa_if_ne C dX5_cellItem_77 (tgt := 84) (by decide) (fun c3 => ?_) (fun c3 => ?_)
  · replace h := sl_n c3 h
    refine sa_iconst C dX5_cellItem_84 ic_0 ?_
    exact sa_sub [1, 2, 3, 4, 0] rfl (w5_cellItem_85 C hR h)
  · replace h := sl_t c3 h
    refine sa_iconst C dX5_cellItem_80 ic_1 ?_
    refine sa_goto C dX5_cellItem_81 (tgt := 85) (by decide) ?_
    exact sa_sub [1, 2, 3, 4, 0] rfl (w5_cellItem_85 C hR h)
theorem w5_cellItem_34 {D : va_G} {cA : ClassId} {g : Nat → Nat} {A : Nat → Prop} {z : sl_K} {l : Launch} {p : Program} {e : Env} {R : Room} {s : State} {m : MethodId} {args : Array Value} {below : List Frame} {meth : Method} {c : Code} (C : sl_C RX5 cX5_cellItem 7 none sl_cl LR D cA g A z p s m meth c) (hR : 6 ≤ R.frames ∧ 137 ≤ R.locals) {M : sl_M} {r : sl_M} {x1 : Int32} {x2 : Int32} {t0 : Int32} (h : f5_cellItem_34 x1 x2 t0 M = some r) : sl_A sl_cl LR D cA g A p l e R s m args below meth c (MQ below (sl_Q sl_cl LR D cA g A none r) args s 0 0 A) 7 34 [(0, .ref (g 0)), (1, .int x1), (2, .int x2)] [.int t0, .ref (g 0)] M := by
  rw [f5_cellItem_34] at h
  refine sa_iload_n C dX5_cellItem_34 rfl 2 rfl ?_
  refine sa_bipush C dX5_cellItem_35 bp_23 ?_
  refine sa_iload_n C dX5_cellItem_37 rfl 2 rfl ?_
  obtain ⟨r1, er1, h⟩ := sl_b h
  refine sa_invVi C yy_X5_perhaps ⟨q_1270, q_90⟩ q_1268 dX5_cellItem_38 (As := [.int t0, .int x2, .int (23 : Int32), .int x2]) (rest := []) rfl ⟨Nat.le_trans (Nat.le_of_ble_eq_true rfl) hR.1, Nat.le_trans (Nat.le_of_ble_eq_true rfl) hR.2⟩ (Nat.le_of_ble_eq_true rfl) hh_X5 lr_0 (cc5_perhaps er1) rfl ?_
  refine sa_istore_n C dX5_cellItem_41 rfl (by decide) (lv2 := [(3, .int r1.1), (0, .ref (g 0)), (1, .int x1), (2, .int x2)]) rfl ?_
  refine sa_aload_n C dX5_cellItem_42 rfl 1 rfl ?_
  refine sa_aload_n C dX5_cellItem_43 rfl 1 rfl ?_
  obtain ⟨r2, er2, h⟩ := sl_b h
  refine sa_invVl C yy_X5_word ⟨q_1244, q_86⟩ q_1242 dX5_cellItem_44 (As := []) (rest := [.ref (g 0)]) rfl ⟨Nat.le_trans (Nat.le_of_ble_eq_true rfl) hR.1, Nat.le_trans (Nat.le_of_ble_eq_true rfl) hR.2⟩ (Nat.le_of_ble_eq_true rfl) hh_X5 lr_0 (cc5_word er2) rfl ?_
  refine sa_ldc2 C dX5_cellItem_47 q_1272 ?_
  refine sa_lcmp C dX5_cellItem_50 ?_
  refine sa_if_ne C dX5_cellItem_51 (tgt := 58) (by decide) (fun c3 => ?_) (fun c3 => ?_)
  · replace h := sl_n c3 h
    refine sa_iconst C dX5_cellItem_58 ic_0 ?_
    exact sa_sub [1, 2, 3, 0] rfl (w5_cellItem_59 C hR h)
  · replace h := sl_t c3 h
    refine sa_iconst C dX5_cellItem_54 ic_1 ?_
    refine sa_goto C dX5_cellItem_55 (tgt := 59) (by decide) ?_
    exact sa_sub [1, 2, 3, 0] rfl (w5_cellItem_59 C hR h)
theorem cc5_cellItem {D : va_G} {cA : ClassId} {g : Nat → Nat} {A : Nat → Prop} {z : sl_K} {l : Launch} {x1 : Int32} {M : sl_M} {r : sl_M} (h : f5_cellItem x1 M = some r) : sl_N sl_cl LR D cA g A z l yX5_cellItem cX5_cellItem 7 none 6 137 [.ref (g 0), .int x1] M none r := by
  refine sl_N.of (by decide) (Nat.le_of_ble_eq_true rfl) rfl ?_
  intro p e s m args below meth c C
  replace C : sl_C RX5 cX5_cellItem 7 none sl_cl LR D cA g A z p s m meth c := C
  have hR : 6 ≤ (({ frames := 6, cells := 0, slots := 0, locals := 137 } : Room)).frames ∧ 137 ≤ (({ frames := 6, cells := 0, slots := 0, locals := 137 } : Room)).locals := ⟨Nat.le_refl _, Nat.le_refl _⟩
  rw [f5_cellItem] at h
  refine sa_aload_n C dX5_cellItem_0 rfl 0 rfl ?_
  refine sa_iconst C dX5_cellItem_1 ic_1 ?_
  obtain ⟨r1, er1, h⟩ := sl_b h
  refine sa_invVv C yy_X5_needs ⟨q_1261, q_88⟩ q_1259 dX5_cellItem_2 (As := [.int (1 : Int32)]) (rest := []) rfl ⟨Nat.le_trans (Nat.le_of_ble_eq_true rfl) hR.1, Nat.le_trans (Nat.le_of_ble_eq_true rfl) hR.2⟩ (Nat.le_of_ble_eq_true rfl) hh_X5 lr_0 (cc5_needs er1) rfl ?_
  refine sa_aload_n C dX5_cellItem_5 rfl 0 rfl ?_
  refine sa_iconst C dX5_cellItem_6 ic_0 ?_
  refine sa_bipush C dX5_cellItem_7 bp_23 ?_
  obtain ⟨r2, er2, h⟩ := sl_b h
  refine sa_invVv C yy_X5_number ⟨q_1265, q_89⟩ q_1263 dX5_cellItem_9 (As := [.int (0 : Int32), .int (23 : Int32)]) (rest := []) rfl ⟨Nat.le_trans (Nat.le_of_ble_eq_true rfl) hR.1, Nat.le_trans (Nat.le_of_ble_eq_true rfl) hR.2⟩ (Nat.le_of_ble_eq_true rfl) hh_X5 lr_0 (cc5_number er2) rfl ?_
  refine sa_aload_n C dX5_cellItem_12 rfl 0 rfl ?_
  refine sa_getI C hh_X5 (k := 14) dX5_cellItem_13 q_851 (by decide) lr_0 rfl ?_
  refine sa_istore_n C dX5_cellItem_16 rfl (by decide) (lv2 := [(2, .int (r2 0 14)), (0, .ref (g 0)), (1, .int x1)]) rfl ?_
  refine sa_aload_n C dX5_cellItem_17 rfl 1 rfl ?_
  refine sa_aload_n C dX5_cellItem_18 rfl 1 rfl ?_
  obtain ⟨r3, er3, h⟩ := sl_b h
  refine sa_invVl C yy_X5_word ⟨q_1244, q_86⟩ q_1242 dX5_cellItem_19 (As := []) (rest := [.ref (g 0)]) rfl ⟨Nat.le_trans (Nat.le_of_ble_eq_true rfl) hR.1, Nat.le_trans (Nat.le_of_ble_eq_true rfl) hR.2⟩ (Nat.le_of_ble_eq_true rfl) hh_X5 lr_0 (cc5_word er3) rfl ?_
  refine sa_ldc2 C dX5_cellItem_22 q_1267 ?_
  refine sa_lcmp C dX5_cellItem_25 ?_
  refine sa_if_ne C dX5_cellItem_26 (tgt := 33) (by decide) (fun c4 => ?_) (fun c4 => ?_)
  · replace h := sl_n c4 h
    refine sa_iconst C dX5_cellItem_33 ic_0 ?_
    exact sa_sub [1, 2, 0] rfl (w5_cellItem_34 C hR h)
  · replace h := sl_t c4 h
    refine sa_iconst C dX5_cellItem_29 ic_1 ?_
    refine sa_goto C dX5_cellItem_30 (tgt := 34) (by decide) ?_
    exact sa_sub [1, 2, 0] rfl (w5_cellItem_34 C hR h)
/-! X5 houseItem -/
def f5_houseItem_136 (x1 : Int32) (x2 : Int32) (x3 : Int32) (M : sl_M) : Option sl_M := (if (M 0 15) = 0 then (f5_newHouse x1 x2 x3 M).bind fun r2 => some r2.2 else some M)
def f5_houseItem_135 (x1 : Int32) (x2 : Int32) (t0 : Int32) (M : sl_M) : Option sl_M := f5_houseItem_136 x1 x2 t0 M
def f5_houseItem_122 (x1 : Int32) (x2 : Int32) (x4 : Int32) (t0 : Int32) (M : sl_M) : Option sl_M := (f5_needs t0 M).bind fun r1 => (if x4 = 0 then f5_houseItem_135 x1 x2 (1 : Int32) r1 else f5_houseItem_135 x1 x2 (2 : Int32) r1)
def f5_houseItem_117 (x1 : Int32) (x2 : Int32) (x4 : Int32) (M : sl_M) : Option sl_M := f5_houseItem_122 x1 x2 x4 (1 : Int32) M
def f5_houseItem_98 (x1 : Int32) (x2 : Int32) (t0 : Int32) (M : sl_M) : Option sl_M := (if t0 = 0 then (f5_word M).bind fun r2 => (if (lg_cmp r2 (165492 : Int64)) = 0 then f5_houseItem_117 x1 x2 t0 M else f5_houseItem_122 x1 x2 t0 (0 : Int32) M) else f5_houseItem_117 x1 x2 t0 M)
def f5_houseItem_49 (x1 : Int32) (t0 : Int32) (M : sl_M) : Option sl_M := (f5_needs t0 M).bind fun r1 => (f5_number (1 : Int32) (40 : Int32) r1).bind fun r2 => (f5_word r2).bind fun r3 => (if (lg_cmp r3 (2500036 : Int64)) = 0 then (f5_needs (1 : Int32) r2).bind fun r5 => (f5_word r5).bind fun r6 => (if (lg_cmp r6 (759412 : Int64)) = 0 then f5_houseItem_98 x1 (r2 0 14) (1 : Int32) r5 else f5_houseItem_98 x1 (r2 0 14) (0 : Int32) r5) else f5_houseItem_136 x1 (r2 0 14) (3 : Int32) r2)
def f5_houseItem_17 (t0 : Int32) (M : sl_M) : Option sl_M := (f5_needs t0 M).bind fun r1 => (f5_number (0 : Int32) (23 : Int32) r1).bind fun r2 => (f5_word r2).bind fun r3 => (if (lg_cmp r3 (6700530 : Int64)) = 0 then f5_houseItem_49 (r2 0 14) (1 : Int32) r2 else f5_houseItem_49 (r2 0 14) (0 : Int32) r2)
def f5_houseItem (M : sl_M) : Option sl_M := (sl_ld (M 1) 111 (1 : Int32)).bind fun v1 => (if (8 : Int32) ≤ v1 then f5_houseItem_17 (0 : Int32) M else f5_houseItem_17 (1 : Int32) M)
theorem w5_houseItem_136 {D : va_G} {cA : ClassId} {g : Nat → Nat} {A : Nat → Prop} {z : sl_K} {l : Launch} {p : Program} {e : Env} {R : Room} {s : State} {m : MethodId} {args : Array Value} {below : List Frame} {meth : Method} {c : Code} (C : sl_C RX5 cX5_houseItem 5 none sl_cl LR D cA g A z p s m meth c) (hR : 5 ≤ R.frames ∧ 113 ≤ R.locals) {M : sl_M} {r : sl_M} {x1 : Int32} {x2 : Int32} {x3 : Int32} (h : f5_houseItem_136 x1 x2 x3 M = some r) : sl_A sl_cl LR D cA g A p l e R s m args below meth c (MQ below (sl_Q sl_cl LR D cA g A none r) args s 0 0 A) 5 136 [(0, .ref (g 0)), (1, .int x1), (2, .int x2), (3, .int x3)] [] M := by
  rw [f5_houseItem_136] at h
  refine sa_aload_n C dX5_houseItem_136 rfl 0 rfl ?_
  refine sa_getI C hh_X5 (k := 15) dX5_houseItem_137 q_852 (by decide) lr_0 rfl ?_
  refine sa_if_ne C dX5_houseItem_140 (tgt := 152) (by decide) (fun c1 => ?_) (fun c1 => ?_)
  · replace h := sl_n c1 h
    exact sa_vret C dX5_houseItem_152 (Option.some.inj h)
  · replace h := sl_t c1 h
    refine sa_aload_n C dX5_houseItem_143 rfl 0 rfl ?_
    refine sa_iload_n C dX5_houseItem_144 rfl 1 rfl ?_
    refine sa_iload_n C dX5_houseItem_145 rfl 2 rfl ?_
    refine sa_iload_n C dX5_houseItem_146 rfl 3 rfl ?_
    obtain ⟨r2, er2, h⟩ := sl_b h
    refine sa_invVi C yy_X5_newHouse ⟨q_963, q_61⟩ q_961 dX5_houseItem_147 (As := [.int x1, .int x2, .int x3]) (rest := []) rfl ⟨Nat.le_trans (Nat.le_of_ble_eq_true rfl) hR.1, Nat.le_trans (Nat.le_of_ble_eq_true rfl) hR.2⟩ (Nat.le_of_ble_eq_true rfl) hh_X5 lr_0 (cc5_newHouse er2) rfl ?_
    refine sa_istore C dX5_houseItem_150 (by decide) (lv2 := [(4, .int r2.1), (0, .ref (g 0)), (1, .int x1), (2, .int x2), (3, .int x3)]) rfl ?_
    exact sa_vret C dX5_houseItem_152 (Option.some.inj h)
theorem w5_houseItem_135 {D : va_G} {cA : ClassId} {g : Nat → Nat} {A : Nat → Prop} {z : sl_K} {l : Launch} {p : Program} {e : Env} {R : Room} {s : State} {m : MethodId} {args : Array Value} {below : List Frame} {meth : Method} {c : Code} (C : sl_C RX5 cX5_houseItem 5 none sl_cl LR D cA g A z p s m meth c) (hR : 5 ≤ R.frames ∧ 113 ≤ R.locals) {M : sl_M} {r : sl_M} {x1 : Int32} {x2 : Int32} {t0 : Int32} (h : f5_houseItem_135 x1 x2 t0 M = some r) : sl_A sl_cl LR D cA g A p l e R s m args below meth c (MQ below (sl_Q sl_cl LR D cA g A none r) args s 0 0 A) 5 135 [(0, .ref (g 0)), (1, .int x1), (2, .int x2)] [.int t0] M := by
  rw [f5_houseItem_135] at h
  refine sa_istore_n C dX5_houseItem_135 rfl (by decide) (lv2 := [(3, .int t0), (0, .ref (g 0)), (1, .int x1), (2, .int x2)]) rfl ?_
  exact sa_sub [1, 2, 3, 0] rfl (w5_houseItem_136 C hR h)
theorem w5_houseItem_122 {D : va_G} {cA : ClassId} {g : Nat → Nat} {A : Nat → Prop} {z : sl_K} {l : Launch} {p : Program} {e : Env} {R : Room} {s : State} {m : MethodId} {args : Array Value} {below : List Frame} {meth : Method} {c : Code} (C : sl_C RX5 cX5_houseItem 5 none sl_cl LR D cA g A z p s m meth c) (hR : 5 ≤ R.frames ∧ 113 ≤ R.locals) {M : sl_M} {r : sl_M} {x1 : Int32} {x2 : Int32} {x4 : Int32} {t0 : Int32} (h : f5_houseItem_122 x1 x2 x4 t0 M = some r) : sl_A sl_cl LR D cA g A p l e R s m args below meth c (MQ below (sl_Q sl_cl LR D cA g A none r) args s 0 0 A) 5 122 [(0, .ref (g 0)), (1, .int x1), (2, .int x2), (4, .int x4)] [.int t0, .ref (g 0)] M := by
  rw [f5_houseItem_122] at h
  obtain ⟨r1, er1, h⟩ := sl_b h
  refine sa_invVv C yy_X5_needs ⟨q_1261, q_88⟩ q_1259 dX5_houseItem_122 (As := [.int t0]) (rest := []) rfl ⟨Nat.le_trans (Nat.le_of_ble_eq_true rfl) hR.1, Nat.le_trans (Nat.le_of_ble_eq_true rfl) hR.2⟩ (Nat.le_of_ble_eq_true rfl) hh_X5 lr_0 (cc5_needs er1) rfl ?_
  refine sa_iload C dX5_houseItem_125 3 rfl ?_
  refine sa_if_eq C dX5_houseItem_127 (tgt := 134) (by decide) (fun c2 => ?_) (fun c2 => ?_)
  · replace h := sl_t c2 h
    refine sa_iconst C dX5_houseItem_134 ic_1 ?_
    exact sa_sub [0, 1, 2] rfl (w5_houseItem_135 C hR h)
  · replace h := sl_n c2 h
    refine sa_iconst C dX5_houseItem_130 ic_2 ?_
    refine sa_goto C dX5_houseItem_131 (tgt := 135) (by decide) ?_
    exact sa_sub [0, 1, 2] rfl (w5_houseItem_135 C hR h)
theorem w5_houseItem_117 {D : va_G} {cA : ClassId} {g : Nat → Nat} {A : Nat → Prop} {z : sl_K} {l : Launch} {p : Program} {e : Env} {R : Room} {s : State} {m : MethodId} {args : Array Value} {below : List Frame} {meth : Method} {c : Code} (C : sl_C RX5 cX5_houseItem 5 none sl_cl LR D cA g A z p s m meth c) (hR : 5 ≤ R.frames ∧ 113 ≤ R.locals) {M : sl_M} {r : sl_M} {x1 : Int32} {x2 : Int32} {x4 : Int32} (h : f5_houseItem_117 x1 x2 x4 M = some r) : sl_A sl_cl LR D cA g A p l e R s m args below meth c (MQ below (sl_Q sl_cl LR D cA g A none r) args s 0 0 A) 5 117 [(0, .ref (g 0)), (1, .int x1), (2, .int x2), (4, .int x4)] [.ref (g 0)] M := by
  rw [f5_houseItem_117] at h
  refine sa_iconst C dX5_houseItem_117 ic_1 ?_
  refine sa_goto C dX5_houseItem_118 (tgt := 122) (by decide) ?_
  exact sa_sub [0, 1, 2, 3] rfl (w5_houseItem_122 C hR h)
theorem w5_houseItem_98 {D : va_G} {cA : ClassId} {g : Nat → Nat} {A : Nat → Prop} {z : sl_K} {l : Launch} {p : Program} {e : Env} {R : Room} {s : State} {m : MethodId} {args : Array Value} {below : List Frame} {meth : Method} {c : Code} (C : sl_C RX5 cX5_houseItem 5 none sl_cl LR D cA g A z p s m meth c) (hR : 5 ≤ R.frames ∧ 113 ≤ R.locals) {M : sl_M} {r : sl_M} {x1 : Int32} {x2 : Int32} {t0 : Int32} (h : f5_houseItem_98 x1 x2 t0 M = some r) : sl_A sl_cl LR D cA g A p l e R s m args below meth c (MQ below (sl_Q sl_cl LR D cA g A none r) args s 0 0 A) 5 98 [(0, .ref (g 0)), (1, .int x1), (2, .int x2)] [.int t0] M := by
  rw [f5_houseItem_98] at h
  refine sa_istore C dX5_houseItem_98 (by decide) (lv2 := [(4, .int t0), (0, .ref (g 0)), (1, .int x1), (2, .int x2)]) rfl ?_
  refine sa_aload_n C dX5_houseItem_100 rfl 1 rfl ?_
  refine sa_iload C dX5_houseItem_101 0 rfl ?_
  refine sa_if_ne C dX5_houseItem_103 (tgt := 117) (by decide) (fun c1 => ?_) (fun c1 => ?_)
  · replace h := sl_n c1 h
    exact sa_sub [1, 2, 3, 0] rfl (w5_houseItem_117 C hR h)
  · replace h := sl_t c1 h
    refine sa_aload_n C dX5_houseItem_106 rfl 1 rfl ?_
    obtain ⟨r2, er2, h⟩ := sl_b h
    refine sa_invVl C yy_X5_word ⟨q_1244, q_86⟩ q_1242 dX5_houseItem_107 (As := []) (rest := [.ref (g 0)]) rfl ⟨Nat.le_trans (Nat.le_of_ble_eq_true rfl) hR.1, Nat.le_trans (Nat.le_of_ble_eq_true rfl) hR.2⟩ (Nat.le_of_ble_eq_true rfl) hh_X5 lr_0 (cc5_word er2) rfl ?_
    refine sa_ldc2 C dX5_houseItem_110 q_1282 ?_
    refine sa_lcmp C dX5_houseItem_113 ?_
    refine sa_if_ne C dX5_houseItem_114 (tgt := 121) (by decide) (fun c3 => ?_) (fun c3 => ?_)
    · replace h := sl_n c3 h
      refine sa_iconst C dX5_houseItem_121 ic_0 ?_
      exact sa_sub [1, 2, 3, 0] rfl (w5_houseItem_122 C hR h)
    · replace h := sl_t c3 h
      exact sa_sub [1, 2, 3, 0] rfl (w5_houseItem_117 C hR h)
theorem w5_houseItem_49 {D : va_G} {cA : ClassId} {g : Nat → Nat} {A : Nat → Prop} {z : sl_K} {l : Launch} {p : Program} {e : Env} {R : Room} {s : State} {m : MethodId} {args : Array Value} {below : List Frame} {meth : Method} {c : Code} (C : sl_C RX5 cX5_houseItem 5 none sl_cl LR D cA g A z p s m meth c) (hR : 5 ≤ R.frames ∧ 113 ≤ R.locals) {M : sl_M} {r : sl_M} {x1 : Int32} {t0 : Int32} (h : f5_houseItem_49 x1 t0 M = some r) : sl_A sl_cl LR D cA g A p l e R s m args below meth c (MQ below (sl_Q sl_cl LR D cA g A none r) args s 0 0 A) 5 49 [(0, .ref (g 0)), (1, .int x1)] [.int t0, .ref (g 0)] M := by
  rw [f5_houseItem_49] at h
  obtain ⟨r1, er1, h⟩ := sl_b h
  refine sa_invVv C yy_X5_needs ⟨q_1261, q_88⟩ q_1259 dX5_houseItem_49 (As := [.int t0]) (rest := []) rfl ⟨Nat.le_trans (Nat.le_of_ble_eq_true rfl) hR.1, Nat.le_trans (Nat.le_of_ble_eq_true rfl) hR.2⟩ (Nat.le_of_ble_eq_true rfl) hh_X5 lr_0 (cc5_needs er1) rfl ?_
  refine sa_aload_n C dX5_houseItem_52 rfl 0 rfl ?_
  refine sa_iconst C dX5_houseItem_53 ic_1 ?_
  refine sa_bipush C dX5_houseItem_54 bp_40 ?_
  obtain ⟨r2, er2, h⟩ := sl_b h
  refine sa_invVv C yy_X5_number ⟨q_1265, q_89⟩ q_1263 dX5_houseItem_56 (As := [.int (1 : Int32), .int (40 : Int32)]) (rest := []) rfl ⟨Nat.le_trans (Nat.le_of_ble_eq_true rfl) hR.1, Nat.le_trans (Nat.le_of_ble_eq_true rfl) hR.2⟩ (Nat.le_of_ble_eq_true rfl) hh_X5 lr_0 (cc5_number er2) rfl ?_
  refine sa_aload_n C dX5_houseItem_59 rfl 0 rfl ?_
  refine sa_getI C hh_X5 (k := 14) dX5_houseItem_60 q_851 (by decide) lr_0 rfl ?_
  refine sa_istore_n C dX5_houseItem_63 rfl (by decide) (lv2 := [(2, .int (r2 0 14)), (0, .ref (g 0)), (1, .int x1)]) rfl ?_
  refine sa_iconst C dX5_houseItem_64 ic_3 ?_
  refine sa_istore_n C dX5_houseItem_65 rfl (by decide) (lv2 := [(3, .int (3 : Int32)), (2, .int (r2 0 14)), (0, .ref (g 0)), (1, .int x1)]) rfl ?_
  refine sa_aload_n C dX5_houseItem_66 rfl 2 rfl ?_
  obtain ⟨r3, er3, h⟩ := sl_b h
  refine sa_invVl C yy_X5_word ⟨q_1244, q_86⟩ q_1242 dX5_houseItem_67 (As := []) (rest := []) rfl ⟨Nat.le_trans (Nat.le_of_ble_eq_true rfl) hR.1, Nat.le_trans (Nat.le_of_ble_eq_true rfl) hR.2⟩ (Nat.le_of_ble_eq_true rfl) hh_X5 lr_0 (cc5_word er3) rfl ?_
  refine sa_ldc2 C dX5_houseItem_70 q_1280 ?_
  refine sa_lcmp C dX5_houseItem_73 ?_
  refine sa_if_ne C dX5_houseItem_74 (tgt := 136) (by decide) (fun c4 => ?_) (fun c4 => ?_)
  · replace h := sl_n c4 h
    exact sa_sub [2, 3, 1, 0] rfl (w5_houseItem_136 C hR h)
  · replace h := sl_t c4 h
    refine sa_aload_n C dX5_houseItem_77 rfl 2 rfl ?_
    refine sa_iconst C dX5_houseItem_78 ic_1 ?_
    obtain ⟨r5, er5, h⟩ := sl_b h
    refine sa_invVv C yy_X5_needs ⟨q_1261, q_88⟩ q_1259 dX5_houseItem_79 (As := [.int (1 : Int32)]) (rest := []) rfl ⟨Nat.le_trans (Nat.le_of_ble_eq_true rfl) hR.1, Nat.le_trans (Nat.le_of_ble_eq_true rfl) hR.2⟩ (Nat.le_of_ble_eq_true rfl) hh_X5 lr_0 (cc5_needs er5) rfl ?_
    refine sa_aload_n C dX5_houseItem_82 rfl 2 rfl ?_
    obtain ⟨r6, er6, h⟩ := sl_b h
    refine sa_invVl C yy_X5_word ⟨q_1244, q_86⟩ q_1242 dX5_houseItem_83 (As := []) (rest := []) rfl ⟨Nat.le_trans (Nat.le_of_ble_eq_true rfl) hR.1, Nat.le_trans (Nat.le_of_ble_eq_true rfl) hR.2⟩ (Nat.le_of_ble_eq_true rfl) hh_X5 lr_0 (cc5_word er6) rfl ?_
    refine sa_ldc2 C dX5_houseItem_86 q_1281 ?_
    refine sa_lcmp C dX5_houseItem_89 ?_
    refine sa_if_ne C dX5_houseItem_90 (tgt := 97) (by decide) (fun c7 => ?_) (fun c7 => ?_)
    · replace h := sl_n c7 h
      refine sa_iconst C dX5_houseItem_97 ic_0 ?_
      exact sa_sub [2, 3, 1] rfl (w5_houseItem_98 C hR h)
    · replace h := sl_t c7 h
      refine sa_iconst C dX5_houseItem_93 ic_1 ?_
      refine sa_goto C dX5_houseItem_94 (tgt := 98) (by decide) ?_
      exact sa_sub [2, 3, 1] rfl (w5_houseItem_98 C hR h)
theorem w5_houseItem_17 {D : va_G} {cA : ClassId} {g : Nat → Nat} {A : Nat → Prop} {z : sl_K} {l : Launch} {p : Program} {e : Env} {R : Room} {s : State} {m : MethodId} {args : Array Value} {below : List Frame} {meth : Method} {c : Code} (C : sl_C RX5 cX5_houseItem 5 none sl_cl LR D cA g A z p s m meth c) (hR : 5 ≤ R.frames ∧ 113 ≤ R.locals) {M : sl_M} {r : sl_M} {t0 : Int32} (h : f5_houseItem_17 t0 M = some r) : sl_A sl_cl LR D cA g A p l e R s m args below meth c (MQ below (sl_Q sl_cl LR D cA g A none r) args s 0 0 A) 5 17 [(0, .ref (g 0))] [.int t0, .ref (g 0)] M := by
  rw [f5_houseItem_17] at h
  obtain ⟨r1, er1, h⟩ := sl_b h
  refine sa_invVv C yy_X5_needs ⟨q_1261, q_88⟩ q_1259 dX5_houseItem_17 (As := [.int t0]) (rest := []) rfl ⟨Nat.le_trans (Nat.le_of_ble_eq_true rfl) hR.1, Nat.le_trans (Nat.le_of_ble_eq_true rfl) hR.2⟩ (Nat.le_of_ble_eq_true rfl) hh_X5 lr_0 (cc5_needs er1) rfl ?_
  refine sa_aload_n C dX5_houseItem_20 rfl 0 rfl ?_
  refine sa_iconst C dX5_houseItem_21 ic_0 ?_
  refine sa_bipush C dX5_houseItem_22 bp_23 ?_
  obtain ⟨r2, er2, h⟩ := sl_b h
  refine sa_invVv C yy_X5_number ⟨q_1265, q_89⟩ q_1263 dX5_houseItem_24 (As := [.int (0 : Int32), .int (23 : Int32)]) (rest := []) rfl ⟨Nat.le_trans (Nat.le_of_ble_eq_true rfl) hR.1, Nat.le_trans (Nat.le_of_ble_eq_true rfl) hR.2⟩ (Nat.le_of_ble_eq_true rfl) hh_X5 lr_0 (cc5_number er2) rfl ?_
  refine sa_aload_n C dX5_houseItem_27 rfl 0 rfl ?_
  refine sa_getI C hh_X5 (k := 14) dX5_houseItem_28 q_851 (by decide) lr_0 rfl ?_
  refine sa_istore_n C dX5_houseItem_31 rfl (by decide) (lv2 := [(1, .int (r2 0 14)), (0, .ref (g 0))]) rfl ?_
  refine sa_aload_n C dX5_houseItem_32 rfl 1 rfl ?_
  refine sa_aload_n C dX5_houseItem_33 rfl 1 rfl ?_
  obtain ⟨r3, er3, h⟩ := sl_b h
  refine sa_invVl C yy_X5_word ⟨q_1244, q_86⟩ q_1242 dX5_houseItem_34 (As := []) (rest := [.ref (g 0)]) rfl ⟨Nat.le_trans (Nat.le_of_ble_eq_true rfl) hR.1, Nat.le_trans (Nat.le_of_ble_eq_true rfl) hR.2⟩ (Nat.le_of_ble_eq_true rfl) hh_X5 lr_0 (cc5_word er3) rfl ?_
  refine sa_ldc2 C dX5_houseItem_37 q_1279 ?_
  refine sa_lcmp C dX5_houseItem_40 ?_
  refine sa_if_ne C dX5_houseItem_41 (tgt := 48) (by decide) (fun c4 => ?_) (fun c4 => ?_)
  · replace h := sl_n c4 h
    refine sa_iconst C dX5_houseItem_48 ic_0 ?_
    exact sa_sub [1, 0] rfl (w5_houseItem_49 C hR h)
  · replace h := sl_t c4 h
    refine sa_iconst C dX5_houseItem_44 ic_1 ?_
    refine sa_goto C dX5_houseItem_45 (tgt := 49) (by decide) ?_
    exact sa_sub [1, 0] rfl (w5_houseItem_49 C hR h)
theorem cc5_houseItem {D : va_G} {cA : ClassId} {g : Nat → Nat} {A : Nat → Prop} {z : sl_K} {l : Launch} {M : sl_M} {r : sl_M} (h : f5_houseItem M = some r) : sl_N sl_cl LR D cA g A z l yX5_houseItem cX5_houseItem 5 none 5 113 [.ref (g 0)] M none r := by
  refine sl_N.of (by decide) (Nat.le_of_ble_eq_true rfl) rfl ?_
  intro p e s m args below meth c C
  replace C : sl_C RX5 cX5_houseItem 5 none sl_cl LR D cA g A z p s m meth c := C
  have hR : 5 ≤ (({ frames := 5, cells := 0, slots := 0, locals := 113 } : Room)).frames ∧ 113 ≤ (({ frames := 5, cells := 0, slots := 0, locals := 113 } : Room)).locals := ⟨Nat.le_refl _, Nat.le_refl _⟩
  rw [f5_houseItem] at h
  refine sa_aload_n C dX5_houseItem_0 rfl 0 rfl ?_
  refine sa_aload_n C dX5_houseItem_1 rfl 0 rfl ?_
  refine sa_getR C hh_X5 (k := 0) dX5_houseItem_2 q_837 (by decide) lr_0 rfl ?_
  refine sa_iconst C dX5_houseItem_5 ic_1 ?_
  obtain ⟨v1, ev1, h⟩ := sl_b h
  refine sa_iald C dX5_houseItem_6 lr_1 ev1 ?_
  refine sa_bipush C dX5_houseItem_7 bp_8 ?_
  refine sa_icmp_ge C dX5_houseItem_9 (tgt := 16) (by decide) (fun c2 => ?_) (fun c2 => ?_)
  · replace h := sl_t c2 h
    refine sa_iconst C dX5_houseItem_16 ic_0 ?_
    exact sa_sub [0] rfl (w5_houseItem_17 C hR h)
  · replace h := sl_n c2 h
    refine sa_iconst C dX5_houseItem_12 ic_1 ?_
    refine sa_goto C dX5_houseItem_13 (tgt := 17) (by decide) ?_
    exact sa_sub [0] rfl (w5_houseItem_17 C hR h)
/-! X5 item -/
def f5_item_81 (t0 : Int32) (M : sl_M) : Option sl_M := (f5_needs t0 M).bind fun r1 => (f5_number (0 : Int32) (99 : Int32) r1).bind fun r2 => (sl_st r2 1 111 (3 : Int32) (r2 0 14)).bind fun M3 => some M3
def f5_item (M : sl_M) : Option sl_M := (f5_kindHere M).bind fun r1 => (if r1 < 0 then (f5_word M).bind fun r3 => (if (lg_cmp r3 (8902245 : Int64)) = 0 then (f5_houseItem M).bind fun r11 => some r11 else (f5_word M).bind fun r5 => (if (lg_cmp r5 (264005 : Int64)) = 0 then (f5_perhaps (1 : Int32) (1 : Int32) (23 : Int32) (0 : Int32) M).bind fun r9 => (sl_st r9.2 1 111 (2 : Int32) r9.1).bind fun M10 => some M10 else (f5_word M).bind fun r7 => (if (lg_cmp r7 (591493 : Int64)) = 0 then f5_item_81 (1 : Int32) M else f5_item_81 (0 : Int32) M))) else (f5_cellItem r1 M).bind fun r12 => some r12)
theorem w5_item_81 {D : va_G} {cA : ClassId} {g : Nat → Nat} {A : Nat → Prop} {z : sl_K} {l : Launch} {p : Program} {e : Env} {R : Room} {s : State} {m : MethodId} {args : Array Value} {below : List Frame} {meth : Method} {c : Code} (C : sl_C RX5 cX5_item 2 none sl_cl LR D cA g A z p s m meth c) (hR : 7 ≤ R.frames ∧ 163 ≤ R.locals) {M : sl_M} {r : sl_M} {t0 : Int32} (h : f5_item_81 t0 M = some r) : sl_A sl_cl LR D cA g A p l e R s m args below meth c (MQ below (sl_Q sl_cl LR D cA g A none r) args s 0 0 A) 2 81 [(0, .ref (g 0))] [.int t0, .ref (g 0)] M := by
  rw [f5_item_81] at h
  obtain ⟨r1, er1, h⟩ := sl_b h
  refine sa_invVv C yy_X5_needs ⟨q_1261, q_88⟩ q_1259 dX5_item_81 (As := [.int t0]) (rest := []) rfl ⟨Nat.le_trans (Nat.le_of_ble_eq_true rfl) hR.1, Nat.le_trans (Nat.le_of_ble_eq_true rfl) hR.2⟩ (Nat.le_of_ble_eq_true rfl) hh_X5 lr_0 (cc5_needs er1) rfl ?_
  refine sa_aload_n C dX5_item_84 rfl 0 rfl ?_
  refine sa_iconst C dX5_item_85 ic_0 ?_
  refine sa_bipush C dX5_item_86 bp_99 ?_
  obtain ⟨r2, er2, h⟩ := sl_b h
  refine sa_invVv C yy_X5_number ⟨q_1265, q_89⟩ q_1263 dX5_item_88 (As := [.int (0 : Int32), .int (99 : Int32)]) (rest := []) rfl ⟨Nat.le_trans (Nat.le_of_ble_eq_true rfl) hR.1, Nat.le_trans (Nat.le_of_ble_eq_true rfl) hR.2⟩ (Nat.le_of_ble_eq_true rfl) hh_X5 lr_0 (cc5_number er2) rfl ?_
  refine sa_aload_n C dX5_item_91 rfl 0 rfl ?_
  refine sa_getR C hh_X5 (k := 0) dX5_item_92 q_837 (by decide) lr_0 rfl ?_
  refine sa_iconst C dX5_item_95 ic_3 ?_
  refine sa_aload_n C dX5_item_96 rfl 0 rfl ?_
  refine sa_getI C hh_X5 (k := 14) dX5_item_97 q_851 (by decide) lr_0 rfl ?_
  obtain ⟨M3, eM3, h⟩ := sl_b h
  refine sa_iast C dX5_item_100 lr_1 eM3 ?_
  exact sa_vret C dX5_item_101 (Option.some.inj h)
theorem cc5_item {D : va_G} {cA : ClassId} {g : Nat → Nat} {A : Nat → Prop} {z : sl_K} {l : Launch} {M : sl_M} {r : sl_M} (h : f5_item M = some r) : sl_N sl_cl LR D cA g A z l yX5_item cX5_item 2 none 7 163 [.ref (g 0)] M none r := by
  refine sl_N.of (by decide) (Nat.le_of_ble_eq_true rfl) rfl ?_
  intro p e s m args below meth c C
  replace C : sl_C RX5 cX5_item 2 none sl_cl LR D cA g A z p s m meth c := C
  have hR : 7 ≤ (({ frames := 7, cells := 0, slots := 0, locals := 163 } : Room)).frames ∧ 163 ≤ (({ frames := 7, cells := 0, slots := 0, locals := 163 } : Room)).locals := ⟨Nat.le_refl _, Nat.le_refl _⟩
  rw [f5_item] at h
  refine sa_aload_n C dX5_item_0 rfl 0 rfl ?_
  obtain ⟨r1, er1, h⟩ := sl_b h
  refine sa_invVi C yy_X5_kindHere ⟨q_1240, q_85⟩ q_1238 dX5_item_1 (As := []) (rest := []) rfl ⟨Nat.le_trans (Nat.le_of_ble_eq_true rfl) hR.1, Nat.le_trans (Nat.le_of_ble_eq_true rfl) hR.2⟩ (Nat.le_of_ble_eq_true rfl) hh_X5 lr_0 (cc5_kindHere er1) rfl ?_
  refine sa_istore_n C dX5_item_4 rfl (by decide) (lv2 := [(1, .int r1), (0, .ref (g 0))]) rfl ?_
  refine sa_iload_n C dX5_item_5 rfl 0 rfl ?_
  refine sa_if_lt C dX5_item_6 (tgt := 17) (by decide) (fun c2 => ?_) (fun c2 => ?_)
  · replace h := sl_t c2 h
    refine sa_aload_n C dX5_item_17 rfl 1 rfl ?_
    obtain ⟨r3, er3, h⟩ := sl_b h
    refine sa_invVl C yy_X5_word ⟨q_1244, q_86⟩ q_1242 dX5_item_18 (As := []) (rest := []) rfl ⟨Nat.le_trans (Nat.le_of_ble_eq_true rfl) hR.1, Nat.le_trans (Nat.le_of_ble_eq_true rfl) hR.2⟩ (Nat.le_of_ble_eq_true rfl) hh_X5 lr_0 (cc5_word er3) rfl ?_
    refine sa_ldc2 C dX5_item_21 q_1274 ?_
    refine sa_lcmp C dX5_item_24 ?_
    refine sa_if_ne C dX5_item_25 (tgt := 35) (by decide) (fun c4 => ?_) (fun c4 => ?_)
    · replace h := sl_n c4 h
      refine sa_aload_n C dX5_item_35 rfl 1 rfl ?_
      obtain ⟨r5, er5, h⟩ := sl_b h
      refine sa_invVl C yy_X5_word ⟨q_1244, q_86⟩ q_1242 dX5_item_36 (As := []) (rest := []) rfl ⟨Nat.le_trans (Nat.le_of_ble_eq_true rfl) hR.1, Nat.le_trans (Nat.le_of_ble_eq_true rfl) hR.2⟩ (Nat.le_of_ble_eq_true rfl) hh_X5 lr_0 (cc5_word er5) rfl ?_
      refine sa_ldc2 C dX5_item_39 q_1283 ?_
      refine sa_lcmp C dX5_item_42 ?_
      refine sa_if_ne C dX5_item_43 (tgt := 64) (by decide) (fun c6 => ?_) (fun c6 => ?_)
      · replace h := sl_n c6 h
        refine sa_aload_n C dX5_item_64 rfl 1 rfl ?_
        refine sa_aload_n C dX5_item_65 rfl 1 rfl ?_
        obtain ⟨r7, er7, h⟩ := sl_b h
        refine sa_invVl C yy_X5_word ⟨q_1244, q_86⟩ q_1242 dX5_item_66 (As := []) (rest := [.ref (g 0)]) rfl ⟨Nat.le_trans (Nat.le_of_ble_eq_true rfl) hR.1, Nat.le_trans (Nat.le_of_ble_eq_true rfl) hR.2⟩ (Nat.le_of_ble_eq_true rfl) hh_X5 lr_0 (cc5_word er7) rfl ?_
        refine sa_ldc2 C dX5_item_69 q_1284 ?_
        refine sa_lcmp C dX5_item_72 ?_
        refine sa_if_ne C dX5_item_73 (tgt := 80) (by decide) (fun c8 => ?_) (fun c8 => ?_)
        · replace h := sl_n c8 h
          refine sa_iconst C dX5_item_80 ic_0 ?_
          exact sa_sub [1] rfl (w5_item_81 C hR h)
        · replace h := sl_t c8 h
          refine sa_iconst C dX5_item_76 ic_1 ?_
          refine sa_goto C dX5_item_77 (tgt := 81) (by decide) ?_
          exact sa_sub [1] rfl (w5_item_81 C hR h)
      · replace h := sl_t c6 h
        refine sa_aload_n C dX5_item_46 rfl 1 rfl ?_
        refine sa_getR C hh_X5 (k := 0) dX5_item_47 q_837 (by decide) lr_0 rfl ?_
        refine sa_iconst C dX5_item_50 ic_2 ?_
        refine sa_aload_n C dX5_item_51 rfl 1 rfl ?_
        refine sa_iconst C dX5_item_52 ic_1 ?_
        refine sa_iconst C dX5_item_53 ic_1 ?_
        refine sa_bipush C dX5_item_54 bp_23 ?_
        refine sa_iconst C dX5_item_56 ic_0 ?_
        obtain ⟨r9, er9, h⟩ := sl_b h
        refine sa_invVi C yy_X5_perhaps ⟨q_1270, q_90⟩ q_1268 dX5_item_57 (As := [.int (1 : Int32), .int (1 : Int32), .int (23 : Int32), .int (0 : Int32)]) (rest := [.int (2 : Int32), .ref (g 1)]) rfl ⟨Nat.le_trans (Nat.le_of_ble_eq_true rfl) hR.1, Nat.le_trans (Nat.le_of_ble_eq_true rfl) hR.2⟩ (Nat.le_of_ble_eq_true rfl) hh_X5 lr_0 (cc5_perhaps er9) rfl ?_
        obtain ⟨M10, eM10, h⟩ := sl_b h
        refine sa_iast C dX5_item_60 lr_1 eM10 ?_
        refine sa_goto C dX5_item_61 (tgt := 101) (by decide) ?_
        exact sa_vret C dX5_item_101 (Option.some.inj h)
    · replace h := sl_t c4 h
      refine sa_aload_n C dX5_item_28 rfl 1 rfl ?_
      obtain ⟨r11, er11, h⟩ := sl_b h
      refine sa_invVv C yy_X5_houseItem ⟨q_1277, q_91⟩ q_1275 dX5_item_29 (As := []) (rest := []) rfl ⟨Nat.le_trans (Nat.le_of_ble_eq_true rfl) hR.1, Nat.le_trans (Nat.le_of_ble_eq_true rfl) hR.2⟩ (Nat.le_of_ble_eq_true rfl) hh_X5 lr_0 (cc5_houseItem er11) rfl ?_
      refine sa_goto C dX5_item_32 (tgt := 101) (by decide) ?_
      exact sa_vret C dX5_item_101 (Option.some.inj h)
  · replace h := sl_n c2 h
    refine sa_aload_n C dX5_item_9 rfl 1 rfl ?_
    refine sa_iload_n C dX5_item_10 rfl 0 rfl ?_
    obtain ⟨r12, er12, h⟩ := sl_b h
    refine sa_invVv C yy_X5_cellItem ⟨q_1257, q_87⟩ q_1255 dX5_item_11 (As := [.int r1]) (rest := []) rfl ⟨Nat.le_trans (Nat.le_of_ble_eq_true rfl) hR.1, Nat.le_trans (Nat.le_of_ble_eq_true rfl) hR.2⟩ (Nat.le_of_ble_eq_true rfl) hh_X5 lr_0 (cc5_cellItem er12) rfl ?_
    refine sa_goto C dX5_item_14 (tgt := 101) (by decide) ?_
    exact sa_vret C dX5_item_101 (Option.some.inj h)
/-! X5 text -/
def f5_text_74 (x1 : Int32) (M : sl_M) : Option (Int32 × sl_M) := (if ((sl_up M 0 11 (0 : Int32)) 0 15) = 0 then some (x1, (sl_up M 0 11 (0 : Int32))) else (f5_putsBack (sl_up M 0 11 (0 : Int32))).bind fun r2 => some (((-1 : Int32) - (r2 0 12)), r2))
def f5_text_61 (k24 : Int32 → sl_M → Option (Int32 × sl_M)) (x1 : Int32) (t0 : Int32) (M : sl_M) : Option (Int32 × sl_M) := (f5_needs t0 M).bind fun r1 => (f5_item r1).bind fun r2 => k24 (x1 + (1 : Int32)) r2
def f5_text_24 : Nat → Int32 → sl_M → Option (Int32 × sl_M)
  | 0, _, _ => none
  | n + 1, x1, M => (if (M 0 15) = 0 then (if (M 0 11) ≤ (M 0 12) then f5_text_74 x1 M else (f5_byteAt (M 0 12) M).bind fun r3 => (if r3 = (59 : Int32) then f5_text_61 (f5_text_24 n) x1 (1 : Int32) M else f5_text_61 (f5_text_24 n) x1 (0 : Int32) M)) else f5_text_74 x1 M)
def f5_text (M : sl_M) : Option (Int32 × sl_M) := (f5_puts M).bind fun r1 => (f5_token (sl_up (sl_up r1 0 13 (0 : Int32)) 0 15 (0 : Int32))).bind fun r2 => (f5_item r2).bind fun r3 => f5_text_24 400 (1 : Int32) r3
theorem w5_text_74 {D : va_G} {cA : ClassId} {g : Nat → Nat} {A : Nat → Prop} {z : sl_K} {l : Launch} {p : Program} {e : Env} {R : Room} {s : State} {m : MethodId} {args : Array Value} {below : List Frame} {meth : Method} {c : Code} (C : sl_C RX5 cX5_text 2 (some .int) sl_cl LR D cA g A z p s m meth c) (hR : 8 ≤ R.frames ∧ 184 ≤ R.locals) {M : sl_M} {r : Int32 × sl_M} {x1 : Int32} (h : f5_text_74 x1 M = some r) : sl_A sl_cl LR D cA g A p l e R s m args below meth c (MQ below (sl_Q sl_cl LR D cA g A (some (.int r.1)) r.2) args s 0 0 A) 2 74 [(0, .ref (g 0)), (1, .int x1)] [] M := by
  rw [f5_text_74] at h
  refine sa_aload_n C dX5_text_74 rfl 0 rfl ?_
  refine sa_iconst C dX5_text_75 ic_0 ?_
  refine sa_put C hh_X5 (k := 11) dX5_text_76 q_848 (by decide) rfl (fty := .int) (by decide) rfl rfl lr_0 rfl ?_
  refine sa_aload_n C dX5_text_79 rfl 0 rfl ?_
  refine sa_getI C hh_X5 (k := 15) dX5_text_80 q_852 (by decide) lr_0 rfl ?_
  refine sa_if_eq C dX5_text_83 (tgt := 97) (by decide) (fun c1 => ?_) (fun c1 => ?_)
  · replace h := sl_t c1 h
    refine sa_iload_n C dX5_text_97 rfl 1 rfl ?_
    exact sa_iret C dX5_text_98 (sl_p1 h) (sl_p2 h)
  · replace h := sl_n c1 h
    refine sa_aload_n C dX5_text_86 rfl 0 rfl ?_
    obtain ⟨r2, er2, h⟩ := sl_b h
    refine sa_invVv C yy_X5_putsBack ⟨q_1127, q_78⟩ q_1125 dX5_text_87 (As := []) (rest := []) rfl ⟨Nat.le_trans (Nat.le_of_ble_eq_true rfl) hR.1, Nat.le_trans (Nat.le_of_ble_eq_true rfl) hR.2⟩ (Nat.le_of_ble_eq_true rfl) hh_X5 lr_0 (cc5_putsBack er2) rfl ?_
    refine sa_iconst C dX5_text_90 ic_m1 ?_
    refine sa_aload_n C dX5_text_91 rfl 0 rfl ?_
    refine sa_getI C hh_X5 (k := 12) dX5_text_92 q_849 (by decide) lr_0 rfl ?_
    refine sa_isub C dX5_text_95 ?_
    exact sa_iret C dX5_text_96 (sl_p1 h) (sl_p2 h)
theorem w5_text_61 {D : va_G} {cA : ClassId} {g : Nat → Nat} {A : Nat → Prop} {z : sl_K} {l : Launch} {p : Program} {e : Env} {R : Room} {s : State} {m : MethodId} {args : Array Value} {below : List Frame} {meth : Method} {c : Code} (C : sl_C RX5 cX5_text 2 (some .int) sl_cl LR D cA g A z p s m meth c) (hR : 8 ≤ R.frames ∧ 184 ≤ R.locals) {M : sl_M} {r : Int32 × sl_M} {x1 : Int32} {t0 : Int32} {k24 : Int32 → sl_M → Option (Int32 × sl_M)} (hk24 : ∀ {x1 : Int32} {M : sl_M}, k24 x1 M = some r → sl_A sl_cl LR D cA g A p l e R s m args below meth c (MQ below (sl_Q sl_cl LR D cA g A (some (.int r.1)) r.2) args s 0 0 A) 2 24 [(0, .ref (g 0)), (1, .int x1)] [] M) (h : f5_text_61 k24 x1 t0 M = some r) : sl_A sl_cl LR D cA g A p l e R s m args below meth c (MQ below (sl_Q sl_cl LR D cA g A (some (.int r.1)) r.2) args s 0 0 A) 2 61 [(0, .ref (g 0)), (1, .int x1)] [.int t0, .ref (g 0)] M := by
  rw [f5_text_61] at h
  obtain ⟨r1, er1, h⟩ := sl_b h
  refine sa_invVv C yy_X5_needs ⟨q_1261, q_88⟩ q_1259 dX5_text_61 (As := [.int t0]) (rest := []) rfl ⟨Nat.le_trans (Nat.le_of_ble_eq_true rfl) hR.1, Nat.le_trans (Nat.le_of_ble_eq_true rfl) hR.2⟩ (Nat.le_of_ble_eq_true rfl) hh_X5 lr_0 (cc5_needs er1) rfl ?_
  refine sa_aload_n C dX5_text_64 rfl 0 rfl ?_
  obtain ⟨r2, er2, h⟩ := sl_b h
  refine sa_invVv C yy_X5_item ⟨q_1236, q_84⟩ q_1234 dX5_text_65 (As := []) (rest := []) rfl ⟨Nat.le_trans (Nat.le_of_ble_eq_true rfl) hR.1, Nat.le_trans (Nat.le_of_ble_eq_true rfl) hR.2⟩ (Nat.le_of_ble_eq_true rfl) hh_X5 lr_0 (cc5_item er2) rfl ?_
  refine sa_iinc C dX5_text_68 1 rfl (v := (x1 + (1 : Int32))) (by rw [ic_1]) (by decide) (lv2 := [(1, .int (x1 + (1 : Int32))), (0, .ref (g 0))]) rfl ?_
  refine sa_goto C dX5_text_71 (tgt := 24) (by decide) ?_
  exact sa_sub [1, 0] rfl (hk24 h)
theorem w5_text_24 {D : va_G} {cA : ClassId} {g : Nat → Nat} {A : Nat → Prop} {z : sl_K} {l : Launch} {p : Program} {e : Env} {R : Room} {s : State} {m : MethodId} {args : Array Value} {below : List Frame} {meth : Method} {c : Code} (C : sl_C RX5 cX5_text 2 (some .int) sl_cl LR D cA g A z p s m meth c) (hR : 8 ≤ R.frames ∧ 184 ≤ R.locals) {r : Int32 × sl_M} : ∀ (n : Nat) {x1 : Int32} {M : sl_M}, f5_text_24 n x1 M = some r → sl_A sl_cl LR D cA g A p l e R s m args below meth c (MQ below (sl_Q sl_cl LR D cA g A (some (.int r.1)) r.2) args s 0 0 A) 2 24 [(0, .ref (g 0)), (1, .int x1)] [] M := by
  intro n
  induction n with
  | zero =>
    intro x1 M h
    exact absurd h.symm (Option.some_ne_none _)
  | succ n ih =>
    intro x1 M h
    rw [f5_text_24] at h
    refine sa_aload_n C dX5_text_24 rfl 0 rfl ?_
    refine sa_getI C hh_X5 (k := 15) dX5_text_25 q_852 (by decide) lr_0 rfl ?_
    refine sa_if_ne C dX5_text_28 (tgt := 74) (by decide) (fun c1 => ?_) (fun c1 => ?_)
    · replace h := sl_n c1 h
      exact sa_sub [0, 1] rfl (w5_text_74 C hR h)
    · replace h := sl_t c1 h
      refine sa_aload_n C dX5_text_31 rfl 0 rfl ?_
      refine sa_getI C hh_X5 (k := 12) dX5_text_32 q_849 (by decide) lr_0 rfl ?_
      refine sa_aload_n C dX5_text_35 rfl 0 rfl ?_
      refine sa_getI C hh_X5 (k := 11) dX5_text_36 q_848 (by decide) lr_0 rfl ?_
      refine sa_icmp_ge C dX5_text_39 (tgt := 74) (by decide) (fun c2 => ?_) (fun c2 => ?_)
      · replace h := sl_t c2 h
        exact sa_sub [0, 1] rfl (w5_text_74 C hR h)
      · replace h := sl_n c2 h
        refine sa_aload_n C dX5_text_42 rfl 0 rfl ?_
        refine sa_aload_n C dX5_text_43 rfl 0 rfl ?_
        refine sa_aload_n C dX5_text_44 rfl 0 rfl ?_
        refine sa_getI C hh_X5 (k := 12) dX5_text_45 q_849 (by decide) lr_0 rfl ?_
        obtain ⟨r3, er3, h⟩ := sl_b h
        refine sa_invVi C yy_X5_byteAt ⟨q_1222, q_83⟩ q_1220 dX5_text_48 (As := [.int (M 0 12)]) (rest := [.ref (g 0)]) rfl ⟨Nat.le_trans (Nat.le_of_ble_eq_true rfl) hR.1, Nat.le_trans (Nat.le_of_ble_eq_true rfl) hR.2⟩ (Nat.le_of_ble_eq_true rfl) hh_X5 lr_0 (cc5_byteAt er3) rfl ?_
        refine sa_bipush C dX5_text_51 bp_59 ?_
        refine sa_icmp_ne C dX5_text_53 (tgt := 60) (by decide) (fun c4 => ?_) (fun c4 => ?_)
        · replace h := sl_n c4 h
          refine sa_iconst C dX5_text_60 ic_0 ?_
          exact sa_sub [0, 1] rfl (w5_text_61 C hR (fun h => ih h) h)
        · replace h := sl_t c4 h
          refine sa_iconst C dX5_text_56 ic_1 ?_
          refine sa_goto C dX5_text_57 (tgt := 61) (by decide) ?_
          exact sa_sub [0, 1] rfl (w5_text_61 C hR (fun h => ih h) h)
theorem cc5_text {D : va_G} {cA : ClassId} {g : Nat → Nat} {A : Nat → Prop} {z : sl_K} {l : Launch} {M : sl_M} {r : Int32 × sl_M} (h : f5_text M = some r) : sl_N sl_cl LR D cA g A z l yX5_text cX5_text 2 (some .int) 8 184 [.ref (g 0)] M (some (.int r.1)) r.2 := by
  refine sl_N.of (by decide) (Nat.le_of_ble_eq_true rfl) rfl ?_
  intro p e s m args below meth c C
  replace C : sl_C RX5 cX5_text 2 (some .int) sl_cl LR D cA g A z p s m meth c := C
  have hR : 8 ≤ (({ frames := 8, cells := 0, slots := 0, locals := 184 } : Room)).frames ∧ 184 ≤ (({ frames := 8, cells := 0, slots := 0, locals := 184 } : Room)).locals := ⟨Nat.le_refl _, Nat.le_refl _⟩
  rw [f5_text] at h
  refine sa_aload_n C dX5_text_0 rfl 0 rfl ?_
  obtain ⟨r1, er1, h⟩ := sl_b h
  refine sa_invVv C yy_X5_puts ⟨q_1115, q_75⟩ q_1113 dX5_text_1 (As := []) (rest := []) rfl ⟨Nat.le_trans (Nat.le_of_ble_eq_true rfl) hR.1, Nat.le_trans (Nat.le_of_ble_eq_true rfl) hR.2⟩ (Nat.le_of_ble_eq_true rfl) hh_X5 lr_0 (cc5_puts er1) rfl ?_
  refine sa_aload_n C dX5_text_4 rfl 0 rfl ?_
  refine sa_iconst C dX5_text_5 ic_0 ?_
  refine sa_put C hh_X5 (k := 13) dX5_text_6 q_850 (by decide) rfl (fty := .int) (by decide) rfl rfl lr_0 rfl ?_
  refine sa_aload_n C dX5_text_9 rfl 0 rfl ?_
  refine sa_iconst C dX5_text_10 ic_0 ?_
  refine sa_put C hh_X5 (k := 15) dX5_text_11 q_852 (by decide) rfl (fty := .boolean) (by decide) rfl rfl lr_0 rfl ?_
  refine sa_aload_n C dX5_text_14 rfl 0 rfl ?_
  obtain ⟨r2, er2, h⟩ := sl_b h
  refine sa_invVv C yy_X5_token ⟨q_1218, q_82⟩ q_1216 dX5_text_15 (As := []) (rest := []) rfl ⟨Nat.le_trans (Nat.le_of_ble_eq_true rfl) hR.1, Nat.le_trans (Nat.le_of_ble_eq_true rfl) hR.2⟩ (Nat.le_of_ble_eq_true rfl) hh_X5 lr_0 (cc5_token er2) rfl ?_
  refine sa_iconst C dX5_text_18 ic_1 ?_
  refine sa_istore_n C dX5_text_19 rfl (by decide) (lv2 := [(1, .int (1 : Int32)), (0, .ref (g 0))]) rfl ?_
  refine sa_aload_n C dX5_text_20 rfl 1 rfl ?_
  obtain ⟨r3, er3, h⟩ := sl_b h
  refine sa_invVv C yy_X5_item ⟨q_1236, q_84⟩ q_1234 dX5_text_21 (As := []) (rest := []) rfl ⟨Nat.le_trans (Nat.le_of_ble_eq_true rfl) hR.1, Nat.le_trans (Nat.le_of_ble_eq_true rfl) hR.2⟩ (Nat.le_of_ble_eq_true rfl) hh_X5 lr_0 (cc5_item er3) rfl ?_
  exact sa_sub [1, 0] rfl (w5_text_24 C hR 400 h)
/-! X5 hold -/
def f5_hold (x1 : Int32) (x2 : Int32) (M : sl_M) : Option (Int32 × sl_M) := (if (f5_in x1.toInt64 (0 : Int64) (9 : Int64)) = 0 then (f5_finds (-1000001 : Int32) M).bind fun r2 => some (r2.1, r2.2) else (if (f5_in x2.toInt64 (-1 : Int64) (23 : Int64)) = 0 then (f5_finds (-1000001 : Int32) M).bind fun r5 => some (r5.1, r5.2) else (sl_st M 1 111 ((101 : Int32) + x1) x2).bind fun M4 => some ((1 : Int32), M4)))
theorem cc5_hold {D : va_G} {cA : ClassId} {g : Nat → Nat} {A : Nat → Prop} {z : sl_K} {l : Launch} {x1 : Int32} {x2 : Int32} {M : sl_M} {r : Int32 × sl_M} (h : f5_hold x1 x2 M = some r) : sl_N sl_cl LR D cA g A z l yX5_hold cX5_hold 3 (some .int) 1 25 [.ref (g 0), .int x1, .int x2] M (some (.int r.1)) r.2 := by
  refine sl_N.of (by decide) (Nat.le_of_ble_eq_true rfl) rfl ?_
  intro p e s m args below meth c C
  replace C : sl_C RX5 cX5_hold 3 (some .int) sl_cl LR D cA g A z p s m meth c := C
  have hR : 1 ≤ (({ frames := 1, cells := 0, slots := 0, locals := 25 } : Room)).frames ∧ 25 ≤ (({ frames := 1, cells := 0, slots := 0, locals := 25 } : Room)).locals := ⟨Nat.le_refl _, Nat.le_refl _⟩
  rw [f5_hold] at h
  refine sa_iload_n C dX5_hold_0 rfl 1 rfl ?_
  refine sa_i2l C dX5_hold_1 ?_
  refine sa_lconst C dX5_hold_2 (v := 0) rfl ?_
  refine sa_ldc2 C dX5_hold_3 q_1289 ?_
  refine sa_invSi C yy_X5_in q_907 q_906 dX5_hold_6 (As := [.long x1.toInt64, .long (0 : Int64), .long (9 : Int64)]) (rest := []) rfl ⟨Nat.le_trans (Nat.le_of_ble_eq_true rfl) hR.1, Nat.le_trans (Nat.le_of_ble_eq_true rfl) hR.2⟩ (Nat.le_of_ble_eq_true rfl) (cc5_in rfl) rfl ?_
  refine sa_if_eq C dX5_hold_9 (tgt := 26) (by decide) (fun c1 => ?_) (fun c1 => ?_)
  · replace h := sl_t c1 h
    refine sa_aload_n C dX5_hold_26 rfl 0 rfl ?_
    refine sa_ldc C dX5_hold_27 q_910 ?_
    obtain ⟨r2, er2, h⟩ := sl_b h
    refine sa_invVi C yy_X5_finds ⟨q_913, q_54⟩ q_911 dX5_hold_29 (As := [.int (-1000001 : Int32)]) (rest := []) rfl ⟨Nat.le_trans (Nat.le_of_ble_eq_true rfl) hR.1, Nat.le_trans (Nat.le_of_ble_eq_true rfl) hR.2⟩ (Nat.le_of_ble_eq_true rfl) hh_X5 lr_0 (cc5_finds er2) rfl ?_
    exact sa_iret C dX5_hold_32 (sl_p1 h) (sl_p2 h)
  · replace h := sl_n c1 h
    refine sa_iload_n C dX5_hold_12 rfl 2 rfl ?_
    refine sa_i2l C dX5_hold_13 ?_
    refine sa_ldc2 C dX5_hold_14 q_1290 ?_
    refine sa_ldc2 C dX5_hold_17 q_905 ?_
    refine sa_invSi C yy_X5_in q_907 q_906 dX5_hold_20 (As := [.long x2.toInt64, .long (-1 : Int64), .long (23 : Int64)]) (rest := []) rfl ⟨Nat.le_trans (Nat.le_of_ble_eq_true rfl) hR.1, Nat.le_trans (Nat.le_of_ble_eq_true rfl) hR.2⟩ (Nat.le_of_ble_eq_true rfl) (cc5_in rfl) rfl ?_
    refine sa_if_ne C dX5_hold_23 (tgt := 33) (by decide) (fun c3 => ?_) (fun c3 => ?_)
    · replace h := sl_n c3 h
      refine sa_aload_n C dX5_hold_33 rfl 0 rfl ?_
      refine sa_getR C hh_X5 (k := 0) dX5_hold_34 q_837 (by decide) lr_0 rfl ?_
      refine sa_bipush C dX5_hold_37 bp_101 ?_
      refine sa_iload_n C dX5_hold_39 rfl 1 rfl ?_
      refine sa_iadd C dX5_hold_40 ?_
      refine sa_iload_n C dX5_hold_41 rfl 2 rfl ?_
      obtain ⟨M4, eM4, h⟩ := sl_b h
      refine sa_iast C dX5_hold_42 lr_1 eM4 ?_
      refine sa_iconst C dX5_hold_43 ic_1 ?_
      exact sa_iret C dX5_hold_44 (sl_p1 h) (sl_p2 h)
    · replace h := sl_t c3 h
      refine sa_aload_n C dX5_hold_26 rfl 0 rfl ?_
      refine sa_ldc C dX5_hold_27 q_910 ?_
      obtain ⟨r5, er5, h⟩ := sl_b h
      refine sa_invVi C yy_X5_finds ⟨q_913, q_54⟩ q_911 dX5_hold_29 (As := [.int (-1000001 : Int32)]) (rest := []) rfl ⟨Nat.le_trans (Nat.le_of_ble_eq_true rfl) hR.1, Nat.le_trans (Nat.le_of_ble_eq_true rfl) hR.2⟩ (Nat.le_of_ble_eq_true rfl) hh_X5 lr_0 (cc5_finds er5) rfl ?_
      exact sa_iret C dX5_hold_32 (sl_p1 h) (sl_p2 h)
/-! X5 as -/
def f5_as_93 (x3 : Int32) (t0 : Int32) (M : sl_M) : Option (Int32 × sl_M) := (if t0 = 0 then (f5_finds (-1000003 : Int32) M).bind fun r2 => some (r2.1, r2.2) else some (x3, M))
def f5_as_92 (x3 : Int32) (M : sl_M) : Option (Int32 × sl_M) := f5_as_93 x3 (0 : Int32) M
def f5_as_88 (x3 : Int32) (M : sl_M) : Option (Int32 × sl_M) := f5_as_93 x3 (1 : Int32) M
def f5_as_76 (x2 : Int32) (x3 : Int32) (x4 : Int32) (M : sl_M) : Option (Int32 × sl_M) := (if x2 = (5 : Int32) then (if x4 = (6 : Int32) then f5_as_88 x3 M else f5_as_92 x3 M) else f5_as_92 x3 M)
def f5_as (x1 : Int32) (x2 : Int32) (M : sl_M) : Option (Int32 × sl_M) := (if (f5_in x1.toInt64 (0 : Int64) (9 : Int64)) = 0 then (f5_finds (-1000001 : Int32) M).bind fun r2 => some (r2.1, r2.2) else (if (f5_isKind x2) = 0 then (f5_finds (-1000001 : Int32) M).bind fun r12 => some (r12.1, r12.2) else (sl_ld (M 1) 111 ((101 : Int32) + x1)).bind fun v4 => (if 0 ≤ v4 then (f5_kindOf v4 M).bind fun r6 => (if x2 = 0 then f5_as_88 v4 M else (if r6 = x2 then f5_as_88 v4 M else (if x2 = (1 : Int32) then (if r6 = (3 : Int32) then f5_as_88 v4 M else f5_as_76 x2 v4 r6 M) else f5_as_76 x2 v4 r6 M))) else (f5_finds (-1000006 : Int32) M).bind fun r11 => some (r11.1, r11.2))))
theorem w5_as_93 {D : va_G} {cA : ClassId} {g : Nat → Nat} {A : Nat → Prop} {z : sl_K} {l : Launch} {p : Program} {e : Env} {R : Room} {s : State} {m : MethodId} {args : Array Value} {below : List Frame} {meth : Method} {c : Code} (C : sl_C RX5 cX5_as 6 (some .int) sl_cl LR D cA g A z p s m meth c) (hR : 2 ≤ R.frames ∧ 45 ≤ R.locals) {M : sl_M} {r : Int32 × sl_M} {x3 : Int32} {t0 : Int32} (h : f5_as_93 x3 t0 M = some r) : sl_A sl_cl LR D cA g A p l e R s m args below meth c (MQ below (sl_Q sl_cl LR D cA g A (some (.int r.1)) r.2) args s 0 0 A) 6 93 [(0, .ref (g 0)), (3, .int x3)] [.int t0] M := by
  rw [f5_as_93] at h
  refine sa_istore C dX5_as_93 (by decide) (lv2 := [(5, .int t0), (0, .ref (g 0)), (3, .int x3)]) rfl ?_
  refine sa_iload C dX5_as_95 0 rfl ?_
  refine sa_if_eq C dX5_as_97 (tgt := 104) (by decide) (fun c1 => ?_) (fun c1 => ?_)
  · replace h := sl_t c1 h
    refine sa_aload_n C dX5_as_104 rfl 1 rfl ?_
    refine sa_ldcw C dX5_as_105 q_1296 ?_
    obtain ⟨r2, er2, h⟩ := sl_b h
    refine sa_invVi C yy_X5_finds ⟨q_913, q_54⟩ q_911 dX5_as_108 (As := [.int (-1000003 : Int32)]) (rest := []) rfl ⟨Nat.le_trans (Nat.le_of_ble_eq_true rfl) hR.1, Nat.le_trans (Nat.le_of_ble_eq_true rfl) hR.2⟩ (Nat.le_of_ble_eq_true rfl) hh_X5 lr_0 (cc5_finds er2) rfl ?_
    exact sa_iret C dX5_as_111 (sl_p1 h) (sl_p2 h)
  · replace h := sl_n c1 h
    refine sa_iload_n C dX5_as_100 rfl 2 rfl ?_
    refine sa_goto C dX5_as_101 (tgt := 111) (by decide) ?_
    exact sa_iret C dX5_as_111 (sl_p1 h) (sl_p2 h)
theorem w5_as_92 {D : va_G} {cA : ClassId} {g : Nat → Nat} {A : Nat → Prop} {z : sl_K} {l : Launch} {p : Program} {e : Env} {R : Room} {s : State} {m : MethodId} {args : Array Value} {below : List Frame} {meth : Method} {c : Code} (C : sl_C RX5 cX5_as 6 (some .int) sl_cl LR D cA g A z p s m meth c) (hR : 2 ≤ R.frames ∧ 45 ≤ R.locals) {M : sl_M} {r : Int32 × sl_M} {x3 : Int32} (h : f5_as_92 x3 M = some r) : sl_A sl_cl LR D cA g A p l e R s m args below meth c (MQ below (sl_Q sl_cl LR D cA g A (some (.int r.1)) r.2) args s 0 0 A) 6 92 [(0, .ref (g 0)), (3, .int x3)] [] M := by
  rw [f5_as_92] at h
  refine sa_iconst C dX5_as_92 ic_0 ?_
  exact sa_sub [0, 1] rfl (w5_as_93 C hR h)
theorem w5_as_88 {D : va_G} {cA : ClassId} {g : Nat → Nat} {A : Nat → Prop} {z : sl_K} {l : Launch} {p : Program} {e : Env} {R : Room} {s : State} {m : MethodId} {args : Array Value} {below : List Frame} {meth : Method} {c : Code} (C : sl_C RX5 cX5_as 6 (some .int) sl_cl LR D cA g A z p s m meth c) (hR : 2 ≤ R.frames ∧ 45 ≤ R.locals) {M : sl_M} {r : Int32 × sl_M} {x3 : Int32} (h : f5_as_88 x3 M = some r) : sl_A sl_cl LR D cA g A p l e R s m args below meth c (MQ below (sl_Q sl_cl LR D cA g A (some (.int r.1)) r.2) args s 0 0 A) 6 88 [(0, .ref (g 0)), (3, .int x3)] [] M := by
  rw [f5_as_88] at h
  refine sa_iconst C dX5_as_88 ic_1 ?_
  refine sa_goto C dX5_as_89 (tgt := 93) (by decide) ?_
  exact sa_sub [0, 1] rfl (w5_as_93 C hR h)
theorem w5_as_76 {D : va_G} {cA : ClassId} {g : Nat → Nat} {A : Nat → Prop} {z : sl_K} {l : Launch} {p : Program} {e : Env} {R : Room} {s : State} {m : MethodId} {args : Array Value} {below : List Frame} {meth : Method} {c : Code} (C : sl_C RX5 cX5_as 6 (some .int) sl_cl LR D cA g A z p s m meth c) (hR : 2 ≤ R.frames ∧ 45 ≤ R.locals) {M : sl_M} {r : Int32 × sl_M} {x2 : Int32} {x3 : Int32} {x4 : Int32} (h : f5_as_76 x2 x3 x4 M = some r) : sl_A sl_cl LR D cA g A p l e R s m args below meth c (MQ below (sl_Q sl_cl LR D cA g A (some (.int r.1)) r.2) args s 0 0 A) 6 76 [(0, .ref (g 0)), (2, .int x2), (3, .int x3), (4, .int x4)] [] M := by
  rw [f5_as_76] at h
  refine sa_iload_n C dX5_as_76 rfl 1 rfl ?_
  refine sa_iconst C dX5_as_77 ic_5 ?_
  refine sa_icmp_ne C dX5_as_78 (tgt := 92) (by decide) (fun c1 => ?_) (fun c1 => ?_)
  · replace h := sl_n c1 h
    exact sa_sub [0, 2] rfl (w5_as_92 C hR h)
  · replace h := sl_t c1 h
    refine sa_iload C dX5_as_81 3 rfl ?_
    refine sa_bipush C dX5_as_83 bp_6 ?_
    refine sa_icmp_ne C dX5_as_85 (tgt := 92) (by decide) (fun c2 => ?_) (fun c2 => ?_)
    · replace h := sl_n c2 h
      exact sa_sub [0, 2] rfl (w5_as_92 C hR h)
    · replace h := sl_t c2 h
      exact sa_sub [0, 2] rfl (w5_as_88 C hR h)
theorem cc5_as {D : va_G} {cA : ClassId} {g : Nat → Nat} {A : Nat → Prop} {z : sl_K} {l : Launch} {x1 : Int32} {x2 : Int32} {M : sl_M} {r : Int32 × sl_M} (h : f5_as x1 x2 M = some r) : sl_N sl_cl LR D cA g A z l yX5_as cX5_as 6 (some .int) 2 45 [.ref (g 0), .int x1, .int x2] M (some (.int r.1)) r.2 := by
  refine sl_N.of (by decide) (Nat.le_of_ble_eq_true rfl) rfl ?_
  intro p e s m args below meth c C
  replace C : sl_C RX5 cX5_as 6 (some .int) sl_cl LR D cA g A z p s m meth c := C
  have hR : 2 ≤ (({ frames := 2, cells := 0, slots := 0, locals := 45 } : Room)).frames ∧ 45 ≤ (({ frames := 2, cells := 0, slots := 0, locals := 45 } : Room)).locals := ⟨Nat.le_refl _, Nat.le_refl _⟩
  rw [f5_as] at h
  refine sa_iload_n C dX5_as_0 rfl 1 rfl ?_
  refine sa_i2l C dX5_as_1 ?_
  refine sa_lconst C dX5_as_2 (v := 0) rfl ?_
  refine sa_ldc2 C dX5_as_3 q_1289 ?_
  refine sa_invSi C yy_X5_in q_907 q_906 dX5_as_6 (As := [.long x1.toInt64, .long (0 : Int64), .long (9 : Int64)]) (rest := []) rfl ⟨Nat.le_trans (Nat.le_of_ble_eq_true rfl) hR.1, Nat.le_trans (Nat.le_of_ble_eq_true rfl) hR.2⟩ (Nat.le_of_ble_eq_true rfl) (cc5_in rfl) rfl ?_
  refine sa_if_eq C dX5_as_9 (tgt := 19) (by decide) (fun c1 => ?_) (fun c1 => ?_)
  · replace h := sl_t c1 h
    refine sa_aload_n C dX5_as_19 rfl 0 rfl ?_
    refine sa_ldc C dX5_as_20 q_910 ?_
    obtain ⟨r2, er2, h⟩ := sl_b h
    refine sa_invVi C yy_X5_finds ⟨q_913, q_54⟩ q_911 dX5_as_22 (As := [.int (-1000001 : Int32)]) (rest := []) rfl ⟨Nat.le_trans (Nat.le_of_ble_eq_true rfl) hR.1, Nat.le_trans (Nat.le_of_ble_eq_true rfl) hR.2⟩ (Nat.le_of_ble_eq_true rfl) hh_X5 lr_0 (cc5_finds er2) rfl ?_
    exact sa_iret C dX5_as_25 (sl_p1 h) (sl_p2 h)
  · replace h := sl_n c1 h
    refine sa_iload_n C dX5_as_12 rfl 2 rfl ?_
    refine sa_invSi C yy_X5_isKind q_920 q_919 dX5_as_13 (As := [.int x2]) (rest := []) rfl ⟨Nat.le_trans (Nat.le_of_ble_eq_true rfl) hR.1, Nat.le_trans (Nat.le_of_ble_eq_true rfl) hR.2⟩ (Nat.le_of_ble_eq_true rfl) (cc5_isKind rfl) rfl ?_
    refine sa_if_ne C dX5_as_16 (tgt := 26) (by decide) (fun c3 => ?_) (fun c3 => ?_)
    · replace h := sl_n c3 h
      refine sa_aload_n C dX5_as_26 rfl 0 rfl ?_
      refine sa_getR C hh_X5 (k := 0) dX5_as_27 q_837 (by decide) lr_0 rfl ?_
      refine sa_bipush C dX5_as_30 bp_101 ?_
      refine sa_iload_n C dX5_as_32 rfl 1 rfl ?_
      refine sa_iadd C dX5_as_33 ?_
      obtain ⟨v4, ev4, h⟩ := sl_b h
      refine sa_iald C dX5_as_34 lr_1 ev4 ?_
      refine sa_istore_n C dX5_as_35 rfl (by decide) (lv2 := [(3, .int v4), (0, .ref (g 0)), (1, .int x1), (2, .int x2)]) rfl ?_
      refine sa_iload_n C dX5_as_36 rfl 0 rfl ?_
      refine sa_if_ge C dX5_as_37 (tgt := 48) (by decide) (fun c5 => ?_) (fun c5 => ?_)
      · replace h := sl_t c5 h
        refine sa_aload_n C dX5_as_48 rfl 1 rfl ?_
        refine sa_iload_n C dX5_as_49 rfl 0 rfl ?_
        obtain ⟨r6, er6, h⟩ := sl_b h
        refine sa_invVi C yy_X5_kindOf ⟨q_925, q_55⟩ q_923 dX5_as_50 (As := [.int v4]) (rest := []) rfl ⟨Nat.le_trans (Nat.le_of_ble_eq_true rfl) hR.1, Nat.le_trans (Nat.le_of_ble_eq_true rfl) hR.2⟩ (Nat.le_of_ble_eq_true rfl) hh_X5 lr_0 (cc5_kindOf er6) rfl ?_
        refine sa_istore C dX5_as_53 (by decide) (lv2 := [(4, .int r6), (3, .int v4), (0, .ref (g 0)), (1, .int x1), (2, .int x2)]) rfl ?_
        refine sa_iload_n C dX5_as_55 rfl 4 rfl ?_
        refine sa_if_eq C dX5_as_56 (tgt := 88) (by decide) (fun c7 => ?_) (fun c7 => ?_)
        · replace h := sl_t c7 h
          exact sa_sub [2, 1] rfl (w5_as_88 C hR h)
        · replace h := sl_n c7 h
          refine sa_iload C dX5_as_59 0 rfl ?_
          refine sa_iload_n C dX5_as_61 rfl 4 rfl ?_
          refine sa_icmp_eq C dX5_as_62 (tgt := 88) (by decide) (fun c8 => ?_) (fun c8 => ?_)
          · replace h := sl_t c8 h
            exact sa_sub [2, 1] rfl (w5_as_88 C hR h)
          · replace h := sl_n c8 h
            refine sa_iload_n C dX5_as_65 rfl 4 rfl ?_
            refine sa_iconst C dX5_as_66 ic_1 ?_
            refine sa_icmp_ne C dX5_as_67 (tgt := 76) (by decide) (fun c9 => ?_) (fun c9 => ?_)
            · replace h := sl_n c9 h
              exact sa_sub [2, 4, 1, 0] rfl (w5_as_76 C hR h)
            · replace h := sl_t c9 h
              refine sa_iload C dX5_as_70 0 rfl ?_
              refine sa_iconst C dX5_as_72 ic_3 ?_
              refine sa_icmp_eq C dX5_as_73 (tgt := 88) (by decide) (fun c10 => ?_) (fun c10 => ?_)
              · replace h := sl_t c10 h
                exact sa_sub [2, 1] rfl (w5_as_88 C hR h)
              · replace h := sl_n c10 h
                exact sa_sub [2, 4, 1, 0] rfl (w5_as_76 C hR h)
      · replace h := sl_n c5 h
        refine sa_aload_n C dX5_as_40 rfl 1 rfl ?_
        refine sa_ldcw C dX5_as_41 q_1295 ?_
        obtain ⟨r11, er11, h⟩ := sl_b h
        refine sa_invVi C yy_X5_finds ⟨q_913, q_54⟩ q_911 dX5_as_44 (As := [.int (-1000006 : Int32)]) (rest := []) rfl ⟨Nat.le_trans (Nat.le_of_ble_eq_true rfl) hR.1, Nat.le_trans (Nat.le_of_ble_eq_true rfl) hR.2⟩ (Nat.le_of_ble_eq_true rfl) hh_X5 lr_0 (cc5_finds er11) rfl ?_
        exact sa_iret C dX5_as_47 (sl_p1 h) (sl_p2 h)
    · replace h := sl_t c3 h
      refine sa_aload_n C dX5_as_19 rfl 0 rfl ?_
      refine sa_ldc C dX5_as_20 q_910 ?_
      obtain ⟨r12, er12, h⟩ := sl_b h
      refine sa_invVi C yy_X5_finds ⟨q_913, q_54⟩ q_911 dX5_as_22 (As := [.int (-1000001 : Int32)]) (rest := []) rfl ⟨Nat.le_trans (Nat.le_of_ble_eq_true rfl) hR.1, Nat.le_trans (Nat.le_of_ble_eq_true rfl) hR.2⟩ (Nat.le_of_ble_eq_true rfl) hh_X5 lr_0 (cc5_finds er12) rfl ?_
      exact sa_iret C dX5_as_25 (sl_p1 h) (sl_p2 h)
/-! X5 isOne -/
def f5_isOne (x0 : Int32) : Int32 := (f5_in x0.toInt64 (0 : Int64) (3 : Int64))
theorem f5_isOne_b {x0 : Int32} : f5_isOne x0 = 0 ∨ f5_isOne x0 = 1 := by
  rw [f5_isOne]
  first | exact f5_in_b | ((repeat' split) <;> first | exact Or.inl rfl | exact Or.inr rfl)
theorem cc5_isOne {D : va_G} {cA : ClassId} {g : Nat → Nat} {A : Nat → Prop} {z : sl_K} {l : Launch} {x0 : Int32} {M : sl_M} {r : Int32} (h : f5_isOne x0 = r) : sl_N sl_cl LR D cA g A z l yX5_isOne cX5_isOne 1 (some .boolean) 1 25 [.int x0] M (some (.int r)) M := by
  refine sl_N.of (by decide) (Nat.le_of_ble_eq_true rfl) rfl ?_
  intro p e s m args below meth c C
  replace C : sl_C RX5 cX5_isOne 1 (some .boolean) sl_cl LR D cA g A z p s m meth c := C
  have hR : 1 ≤ (({ frames := 1, cells := 0, slots := 0, locals := 25 } : Room)).frames ∧ 25 ≤ (({ frames := 1, cells := 0, slots := 0, locals := 25 } : Room)).locals := ⟨Nat.le_refl _, Nat.le_refl _⟩
  rw [f5_isOne] at h
  refine sa_iload_n C dX5_isOne_0 rfl 0 rfl ?_
  refine sa_i2l C dX5_isOne_1 ?_
  refine sa_lconst C dX5_isOne_2 (v := 0) rfl ?_
  refine sa_ldc2 C dX5_isOne_3 q_973 ?_
  refine sa_invSi C yy_X5_in q_907 q_906 dX5_isOne_6 (As := [.long x0.toInt64, .long (0 : Int64), .long (3 : Int64)]) (rest := []) rfl ⟨Nat.le_trans (Nat.le_of_ble_eq_true rfl) hR.1, Nat.le_trans (Nat.le_of_ble_eq_true rfl) hR.2⟩ (Nat.le_of_ble_eq_true rfl) (cc5_in rfl) rfl ?_
  exact sa_zret C dX5_isOne_9 (by first | assumption | exact f5_in_b | ((repeat' split) <;> first | exact Or.inl rfl | exact Or.inr rfl)) h rfl
/-! X5 sheet -/
def f5_sheet_86 (x1 : Int32) : Nat → Int32 → sl_M → Option (Int32 × sl_M)
  | 0, _, _ => none
  | n + 1, x4, M => (if (40 : Int32) ≤ x4 then (sl_ld (M 9) 4 x1).bind fun v2 => some (v2, M) else (sl_st M 10 160 (((40 : Int32) * x1) + x4) (0 : Int32)).bind fun M3 => f5_sheet_86 x1 n (x4 + (1 : Int32)) M3)
def f5_sheet_36 (x1 : Int32) (x2 : Int32) (x3 : Int32) (M : sl_M) : Option (Int32 × sl_M) := (if 0 ≤ x3 then (if x3 ≤ (40 : Int32) then (sl_st M 8 4 x1 x2).bind fun M3 => (if x2 = 0 then (sl_st M3 9 4 x1 (0 : Int32)).bind fun M6 => f5_sheet_86 x1 400 (0 : Int32) M6 else (sl_st M3 9 4 x1 x3).bind fun M5 => f5_sheet_86 x1 400 (0 : Int32) M5) else (f5_finds (-1000001 : Int32) M).bind fun r7 => some (r7.1, r7.2)) else (f5_finds (-1000007 : Int32) M).bind fun r8 => some (r8.1, r8.2))
def f5_sheet (x1 : Int32) (x2 : Int32) (x3 : Int32) (M : sl_M) : Option (Int32 × sl_M) := (if (f5_isOne x1) = 0 then (f5_finds (-1000001 : Int32) M).bind fun r2 => some (r2.1, r2.2) else (if x2 = 0 then f5_sheet_36 x1 x2 x3 M else (if x2 = (8 : Int32) then f5_sheet_36 x1 x2 x3 M else (if x2 = (16 : Int32) then f5_sheet_36 x1 x2 x3 M else (if x2 = (32 : Int32) then f5_sheet_36 x1 x2 x3 M else (f5_finds (-1000001 : Int32) M).bind fun r7 => some (r7.1, r7.2))))))
theorem w5_sheet_86 {D : va_G} {cA : ClassId} {g : Nat → Nat} {A : Nat → Prop} {z : sl_K} {l : Launch} {p : Program} {e : Env} {R : Room} {s : State} {m : MethodId} {args : Array Value} {below : List Frame} {meth : Method} {c : Code} (C : sl_C RX5 cX5_sheet 5 (some .int) sl_cl LR D cA g A z p s m meth c) (hR : 2 ≤ R.frames ∧ 45 ≤ R.locals) {r : Int32 × sl_M} {x1 : Int32} : ∀ (n : Nat) {x4 : Int32} {M : sl_M}, f5_sheet_86 x1 n x4 M = some r → sl_A sl_cl LR D cA g A p l e R s m args below meth c (MQ below (sl_Q sl_cl LR D cA g A (some (.int r.1)) r.2) args s 0 0 A) 5 86 [(0, .ref (g 0)), (1, .int x1), (4, .int x4)] [] M := by
  intro n
  induction n with
  | zero =>
    intro x4 M h
    exact absurd h.symm (Option.some_ne_none _)
  | succ n ih =>
    intro x4 M h
    rw [f5_sheet_86] at h
    refine sa_iload C dX5_sheet_86 2 rfl ?_
    refine sa_bipush C dX5_sheet_88 bp_40 ?_
    refine sa_icmp_ge C dX5_sheet_90 (tgt := 112) (by decide) (fun c1 => ?_) (fun c1 => ?_)
    · replace h := sl_t c1 h
      refine sa_aload_n C dX5_sheet_112 rfl 0 rfl ?_
      refine sa_getR C hh_X5 (k := 17) dX5_sheet_113 q_854 (by decide) lr_0 rfl ?_
      refine sa_iload_n C dX5_sheet_116 rfl 1 rfl ?_
      obtain ⟨v2, ev2, h⟩ := sl_b h
      refine sa_iald C dX5_sheet_117 lr_9 ev2 ?_
      exact sa_iret C dX5_sheet_118 (sl_p1 h) (sl_p2 h)
    · replace h := sl_n c1 h
      refine sa_aload_n C dX5_sheet_93 rfl 0 rfl ?_
      refine sa_getR C hh_X5 (k := 18) dX5_sheet_94 q_855 (by decide) lr_0 rfl ?_
      refine sa_bipush C dX5_sheet_97 bp_40 ?_
      refine sa_iload_n C dX5_sheet_99 rfl 1 rfl ?_
      refine sa_imul C dX5_sheet_100 ?_
      refine sa_iload C dX5_sheet_101 2 rfl ?_
      refine sa_iadd C dX5_sheet_103 ?_
      refine sa_iconst C dX5_sheet_104 ic_0 ?_
      obtain ⟨M3, eM3, h⟩ := sl_b h
      refine sa_iast C dX5_sheet_105 lr_10 eM3 ?_
      refine sa_iinc C dX5_sheet_106 2 rfl (v := (x4 + (1 : Int32))) (by rw [ic_1]) (by decide) (lv2 := [(4, .int (x4 + (1 : Int32))), (0, .ref (g 0)), (1, .int x1)]) rfl ?_
      refine sa_goto C dX5_sheet_109 (tgt := 86) (by decide) ?_
      exact sa_sub [1, 2, 0] rfl (ih h)
theorem w5_sheet_36 {D : va_G} {cA : ClassId} {g : Nat → Nat} {A : Nat → Prop} {z : sl_K} {l : Launch} {p : Program} {e : Env} {R : Room} {s : State} {m : MethodId} {args : Array Value} {below : List Frame} {meth : Method} {c : Code} (C : sl_C RX5 cX5_sheet 5 (some .int) sl_cl LR D cA g A z p s m meth c) (hR : 2 ≤ R.frames ∧ 45 ≤ R.locals) {M : sl_M} {r : Int32 × sl_M} {x1 : Int32} {x2 : Int32} {x3 : Int32} (h : f5_sheet_36 x1 x2 x3 M = some r) : sl_A sl_cl LR D cA g A p l e R s m args below meth c (MQ below (sl_Q sl_cl LR D cA g A (some (.int r.1)) r.2) args s 0 0 A) 5 36 [(0, .ref (g 0)), (1, .int x1), (2, .int x2), (3, .int x3)] [] M := by
  rw [f5_sheet_36] at h
  refine sa_iload_n C dX5_sheet_36 rfl 3 rfl ?_
  refine sa_if_ge C dX5_sheet_37 (tgt := 48) (by decide) (fun c1 => ?_) (fun c1 => ?_)
  · replace h := sl_t c1 h
    refine sa_iload_n C dX5_sheet_48 rfl 3 rfl ?_
    refine sa_bipush C dX5_sheet_49 bp_40 ?_
    refine sa_icmp_le C dX5_sheet_51 (tgt := 61) (by decide) (fun c2 => ?_) (fun c2 => ?_)
    · replace h := sl_t c2 h
      refine sa_aload_n C dX5_sheet_61 rfl 0 rfl ?_
      refine sa_getR C hh_X5 (k := 16) dX5_sheet_62 q_853 (by decide) lr_0 rfl ?_
      refine sa_iload_n C dX5_sheet_65 rfl 1 rfl ?_
      refine sa_iload_n C dX5_sheet_66 rfl 2 rfl ?_
      obtain ⟨M3, eM3, h⟩ := sl_b h
      refine sa_iast C dX5_sheet_67 lr_8 eM3 ?_
      refine sa_aload_n C dX5_sheet_68 rfl 0 rfl ?_
      refine sa_getR C hh_X5 (k := 17) dX5_sheet_69 q_854 (by decide) lr_0 rfl ?_
      refine sa_iload_n C dX5_sheet_72 rfl 1 rfl ?_
      refine sa_iload_n C dX5_sheet_73 rfl 2 rfl ?_
      refine sa_if_ne C dX5_sheet_74 (tgt := 81) (by decide) (fun c4 => ?_) (fun c4 => ?_)
      · replace h := sl_n c4 h
        refine sa_iload_n C dX5_sheet_81 rfl 3 rfl ?_
        obtain ⟨M5, eM5, h⟩ := sl_b h
        refine sa_iast C dX5_sheet_82 lr_9 eM5 ?_
        refine sa_iconst C dX5_sheet_83 ic_0 ?_
        refine sa_istore C dX5_sheet_84 (by decide) (lv2 := [(4, .int (0 : Int32)), (0, .ref (g 0)), (1, .int x1), (2, .int x2), (3, .int x3)]) rfl ?_
        exact sa_sub [1, 2, 0] rfl (w5_sheet_86 C hR 400 h)
      · replace h := sl_t c4 h
        refine sa_iconst C dX5_sheet_77 ic_0 ?_
        refine sa_goto C dX5_sheet_78 (tgt := 82) (by decide) ?_
        obtain ⟨M6, eM6, h⟩ := sl_b h
        refine sa_iast C dX5_sheet_82 lr_9 eM6 ?_
        refine sa_iconst C dX5_sheet_83 ic_0 ?_
        refine sa_istore C dX5_sheet_84 (by decide) (lv2 := [(4, .int (0 : Int32)), (0, .ref (g 0)), (1, .int x1), (2, .int x2), (3, .int x3)]) rfl ?_
        exact sa_sub [1, 2, 0] rfl (w5_sheet_86 C hR 400 h)
    · replace h := sl_n c2 h
      refine sa_aload_n C dX5_sheet_54 rfl 0 rfl ?_
      refine sa_ldc C dX5_sheet_55 q_910 ?_
      obtain ⟨r7, er7, h⟩ := sl_b h
      refine sa_invVi C yy_X5_finds ⟨q_913, q_54⟩ q_911 dX5_sheet_57 (As := [.int (-1000001 : Int32)]) (rest := []) rfl ⟨Nat.le_trans (Nat.le_of_ble_eq_true rfl) hR.1, Nat.le_trans (Nat.le_of_ble_eq_true rfl) hR.2⟩ (Nat.le_of_ble_eq_true rfl) hh_X5 lr_0 (cc5_finds er7) rfl ?_
      exact sa_iret C dX5_sheet_60 (sl_p1 h) (sl_p2 h)
  · replace h := sl_n c1 h
    refine sa_aload_n C dX5_sheet_40 rfl 0 rfl ?_
    refine sa_ldcw C dX5_sheet_41 q_1304 ?_
    obtain ⟨r8, er8, h⟩ := sl_b h
    refine sa_invVi C yy_X5_finds ⟨q_913, q_54⟩ q_911 dX5_sheet_44 (As := [.int (-1000007 : Int32)]) (rest := []) rfl ⟨Nat.le_trans (Nat.le_of_ble_eq_true rfl) hR.1, Nat.le_trans (Nat.le_of_ble_eq_true rfl) hR.2⟩ (Nat.le_of_ble_eq_true rfl) hh_X5 lr_0 (cc5_finds er8) rfl ?_
    exact sa_iret C dX5_sheet_47 (sl_p1 h) (sl_p2 h)
theorem cc5_sheet {D : va_G} {cA : ClassId} {g : Nat → Nat} {A : Nat → Prop} {z : sl_K} {l : Launch} {x1 : Int32} {x2 : Int32} {x3 : Int32} {M : sl_M} {r : Int32 × sl_M} (h : f5_sheet x1 x2 x3 M = some r) : sl_N sl_cl LR D cA g A z l yX5_sheet cX5_sheet 5 (some .int) 2 45 [.ref (g 0), .int x1, .int x2, .int x3] M (some (.int r.1)) r.2 := by
  refine sl_N.of (by decide) (Nat.le_of_ble_eq_true rfl) rfl ?_
  intro p e s m args below meth c C
  replace C : sl_C RX5 cX5_sheet 5 (some .int) sl_cl LR D cA g A z p s m meth c := C
  have hR : 2 ≤ (({ frames := 2, cells := 0, slots := 0, locals := 45 } : Room)).frames ∧ 45 ≤ (({ frames := 2, cells := 0, slots := 0, locals := 45 } : Room)).locals := ⟨Nat.le_refl _, Nat.le_refl _⟩
  rw [f5_sheet] at h
  refine sa_iload_n C dX5_sheet_0 rfl 1 rfl ?_
  refine sa_invSi C yy_X5_isOne q_1302 q_1301 dX5_sheet_1 (As := [.int x1]) (rest := []) rfl ⟨Nat.le_trans (Nat.le_of_ble_eq_true rfl) hR.1, Nat.le_trans (Nat.le_of_ble_eq_true rfl) hR.2⟩ (Nat.le_of_ble_eq_true rfl) (cc5_isOne rfl) rfl ?_
  refine sa_if_eq C dX5_sheet_4 (tgt := 29) (by decide) (fun c1 => ?_) (fun c1 => ?_)
  · replace h := sl_t c1 h
    refine sa_aload_n C dX5_sheet_29 rfl 0 rfl ?_
    refine sa_ldc C dX5_sheet_30 q_910 ?_
    obtain ⟨r2, er2, h⟩ := sl_b h
    refine sa_invVi C yy_X5_finds ⟨q_913, q_54⟩ q_911 dX5_sheet_32 (As := [.int (-1000001 : Int32)]) (rest := []) rfl ⟨Nat.le_trans (Nat.le_of_ble_eq_true rfl) hR.1, Nat.le_trans (Nat.le_of_ble_eq_true rfl) hR.2⟩ (Nat.le_of_ble_eq_true rfl) hh_X5 lr_0 (cc5_finds er2) rfl ?_
    exact sa_iret C dX5_sheet_35 (sl_p1 h) (sl_p2 h)
  · replace h := sl_n c1 h
    refine sa_iload_n C dX5_sheet_7 rfl 2 rfl ?_
    refine sa_if_eq C dX5_sheet_8 (tgt := 36) (by decide) (fun c3 => ?_) (fun c3 => ?_)
    · replace h := sl_t c3 h
      exact sa_sub [0, 1, 2, 3] rfl (w5_sheet_36 C hR h)
    · replace h := sl_n c3 h
      refine sa_iload_n C dX5_sheet_11 rfl 2 rfl ?_
      refine sa_bipush C dX5_sheet_12 bp_8 ?_
      refine sa_icmp_eq C dX5_sheet_14 (tgt := 36) (by decide) (fun c4 => ?_) (fun c4 => ?_)
      · replace h := sl_t c4 h
        exact sa_sub [0, 1, 2, 3] rfl (w5_sheet_36 C hR h)
      · replace h := sl_n c4 h
        refine sa_iload_n C dX5_sheet_17 rfl 2 rfl ?_
        refine sa_bipush C dX5_sheet_18 bp_16 ?_
        refine sa_icmp_eq C dX5_sheet_20 (tgt := 36) (by decide) (fun c5 => ?_) (fun c5 => ?_)
        · replace h := sl_t c5 h
          exact sa_sub [0, 1, 2, 3] rfl (w5_sheet_36 C hR h)
        · replace h := sl_n c5 h
          refine sa_iload_n C dX5_sheet_23 rfl 2 rfl ?_
          refine sa_bipush C dX5_sheet_24 bp_32 ?_
          refine sa_icmp_eq C dX5_sheet_26 (tgt := 36) (by decide) (fun c6 => ?_) (fun c6 => ?_)
          · replace h := sl_t c6 h
            exact sa_sub [0, 1, 2, 3] rfl (w5_sheet_36 C hR h)
          · replace h := sl_n c6 h
            refine sa_aload_n C dX5_sheet_29 rfl 0 rfl ?_
            refine sa_ldc C dX5_sheet_30 q_910 ?_
            obtain ⟨r7, er7, h⟩ := sl_b h
            refine sa_invVi C yy_X5_finds ⟨q_913, q_54⟩ q_911 dX5_sheet_32 (As := [.int (-1000001 : Int32)]) (rest := []) rfl ⟨Nat.le_trans (Nat.le_of_ble_eq_true rfl) hR.1, Nat.le_trans (Nat.le_of_ble_eq_true rfl) hR.2⟩ (Nat.le_of_ble_eq_true rfl) hh_X5 lr_0 (cc5_finds er7) rfl ?_
            exact sa_iret C dX5_sheet_35 (sl_p1 h) (sl_p2 h)
/-! X5 narrowed -/
def f5_narrowed (x0 : Int32) (x1 : Int32) : Int32 := (if x0 = (8 : Int32) then x1.toInt8.toInt32 else (if x0 = (16 : Int32) then x1.toInt16.toInt32 else x1))
theorem cc5_narrowed {D : va_G} {cA : ClassId} {g : Nat → Nat} {A : Nat → Prop} {z : sl_K} {l : Launch} {x0 : Int32} {x1 : Int32} {M : sl_M} {r : Int32} (h : f5_narrowed x0 x1 = r) : sl_N sl_cl LR D cA g A z l yX5_narrowed cX5_narrowed 2 (some .int) 0 0 [.int x0, .int x1] M (some (.int r)) M := by
  refine sl_N.of (by decide) (Nat.le_of_ble_eq_true rfl) rfl ?_
  intro p e s m args below meth c C
  replace C : sl_C RX5 cX5_narrowed 2 (some .int) sl_cl LR D cA g A z p s m meth c := C
  have hR : 0 ≤ (({ frames := 0, cells := 0, slots := 0, locals := 0 } : Room)).frames ∧ 0 ≤ (({ frames := 0, cells := 0, slots := 0, locals := 0 } : Room)).locals := ⟨Nat.le_refl _, Nat.le_refl _⟩
  rw [f5_narrowed] at h
  refine sa_iload_n C dX5_narrowed_0 rfl 0 rfl ?_
  refine sa_bipush C dX5_narrowed_1 bp_8 ?_
  refine sa_icmp_ne C dX5_narrowed_3 (tgt := 11) (by decide) (fun c1 => ?_) (fun c1 => ?_)
  · replace h := sl_n c1 h
    refine sa_iload_n C dX5_narrowed_11 rfl 0 rfl ?_
    refine sa_bipush C dX5_narrowed_12 bp_16 ?_
    refine sa_icmp_ne C dX5_narrowed_14 (tgt := 22) (by decide) (fun c2 => ?_) (fun c2 => ?_)
    · replace h := sl_n c2 h
      refine sa_iload_n C dX5_narrowed_22 rfl 1 rfl ?_
      exact sa_iret C dX5_narrowed_23 h rfl
    · replace h := sl_t c2 h
      refine sa_iload_n C dX5_narrowed_17 rfl 1 rfl ?_
      refine sa_i2s C dX5_narrowed_18 ?_
      refine sa_goto C dX5_narrowed_19 (tgt := 23) (by decide) ?_
      exact sa_iret C dX5_narrowed_23 h rfl
  · replace h := sl_t c1 h
    refine sa_iload_n C dX5_narrowed_6 rfl 1 rfl ?_
    refine sa_i2b C dX5_narrowed_7 ?_
    refine sa_goto C dX5_narrowed_8 (tgt := 23) (by decide) ?_
    exact sa_iret C dX5_narrowed_23 h rfl
/-! X5 wrong -/
def f5_wrong (x1 : Int32) (M : sl_M) : Option Int32 := (if (f5_isOne x1) = 0 then some (-1000001 : Int32) else (sl_ld (M 8) 4 x1).bind fun v2 => (if v2 = 0 then some (-1000006 : Int32) else some (0 : Int32)))
theorem cc5_wrong {D : va_G} {cA : ClassId} {g : Nat → Nat} {A : Nat → Prop} {z : sl_K} {l : Launch} {x1 : Int32} {M : sl_M} {r : Int32} (h : f5_wrong x1 M = some r) : sl_N sl_cl LR D cA g A z l yX5_wrong cX5_wrong 2 (some .int) 2 45 [.ref (g 0), .int x1] M (some (.int r)) M := by
  refine sl_N.of (by decide) (Nat.le_of_ble_eq_true rfl) rfl ?_
  intro p e s m args below meth c C
  replace C : sl_C RX5 cX5_wrong 2 (some .int) sl_cl LR D cA g A z p s m meth c := C
  have hR : 2 ≤ (({ frames := 2, cells := 0, slots := 0, locals := 45 } : Room)).frames ∧ 45 ≤ (({ frames := 2, cells := 0, slots := 0, locals := 45 } : Room)).locals := ⟨Nat.le_refl _, Nat.le_refl _⟩
  rw [f5_wrong] at h
  refine sa_iload_n C dX5_wrong_0 rfl 1 rfl ?_
  refine sa_invSi C yy_X5_isOne q_1302 q_1301 dX5_wrong_1 (As := [.int x1]) (rest := []) rfl ⟨Nat.le_trans (Nat.le_of_ble_eq_true rfl) hR.1, Nat.le_trans (Nat.le_of_ble_eq_true rfl) hR.2⟩ (Nat.le_of_ble_eq_true rfl) (cc5_isOne rfl) rfl ?_
  refine sa_if_ne C dX5_wrong_4 (tgt := 12) (by decide) (fun c1 => ?_) (fun c1 => ?_)
  · replace h := sl_n c1 h
    refine sa_aload_n C dX5_wrong_12 rfl 0 rfl ?_
    refine sa_getR C hh_X5 (k := 16) dX5_wrong_13 q_853 (by decide) lr_0 rfl ?_
    refine sa_iload_n C dX5_wrong_16 rfl 1 rfl ?_
    obtain ⟨v2, ev2, h⟩ := sl_b h
    refine sa_iald C dX5_wrong_17 lr_8 ev2 ?_
    refine sa_if_ne C dX5_wrong_18 (tgt := 27) (by decide) (fun c3 => ?_) (fun c3 => ?_)
    · replace h := sl_n c3 h
      refine sa_iconst C dX5_wrong_27 ic_0 ?_
      exact sa_iret C dX5_wrong_28 (Option.some.inj h) rfl
    · replace h := sl_t c3 h
      refine sa_ldcw C dX5_wrong_21 q_1295 ?_
      refine sa_goto C dX5_wrong_24 (tgt := 28) (by decide) ?_
      exact sa_iret C dX5_wrong_28 (Option.some.inj h) rfl
  · replace h := sl_t c1 h
    refine sa_ldc C dX5_wrong_7 q_910 ?_
    refine sa_goto C dX5_wrong_9 (tgt := 28) (by decide) ?_
    exact sa_iret C dX5_wrong_28 (Option.some.inj h) rfl
/-! X5 write -/
def f5_write (x1 : Int32) (x2 : Int32) (x3 : Int32) (M : sl_M) : Option (Int32 × sl_M) := (f5_wrong x1 M).bind fun r1 => (if r1 = 0 then (sl_ld (M 9) 4 x1).bind fun v3 => (if (f5_in x2.toInt64 (0 : Int64) ((v3 - (1 : Int32)).toInt64)) = 0 then (f5_finds (-1000001 : Int32) M).bind fun r7 => some (r7.1, r7.2) else (sl_ld (M 8) 4 x1).bind fun v5 => (sl_st M 10 160 (((40 : Int32) * x1) + x2) (f5_narrowed v5 x3)).bind fun M6 => some ((1 : Int32), M6)) else (f5_finds r1 M).bind fun r8 => some (r8.1, r8.2))
theorem cc5_write {D : va_G} {cA : ClassId} {g : Nat → Nat} {A : Nat → Prop} {z : sl_K} {l : Launch} {x1 : Int32} {x2 : Int32} {x3 : Int32} {M : sl_M} {r : Int32 × sl_M} (h : f5_write x1 x2 x3 M = some r) : sl_N sl_cl LR D cA g A z l yX5_write cX5_write 5 (some .int) 3 66 [.ref (g 0), .int x1, .int x2, .int x3] M (some (.int r.1)) r.2 := by
  refine sl_N.of (by decide) (Nat.le_of_ble_eq_true rfl) rfl ?_
  intro p e s m args below meth c C
  replace C : sl_C RX5 cX5_write 5 (some .int) sl_cl LR D cA g A z p s m meth c := C
  have hR : 3 ≤ (({ frames := 3, cells := 0, slots := 0, locals := 66 } : Room)).frames ∧ 66 ≤ (({ frames := 3, cells := 0, slots := 0, locals := 66 } : Room)).locals := ⟨Nat.le_refl _, Nat.le_refl _⟩
  rw [f5_write] at h
  refine sa_aload_n C dX5_write_0 rfl 0 rfl ?_
  refine sa_iload_n C dX5_write_1 rfl 1 rfl ?_
  obtain ⟨r1, er1, h⟩ := sl_b h
  refine sa_invVi C yy_X5_wrong ⟨q_1311, q_92⟩ q_1309 dX5_write_2 (As := [.int x1]) (rest := []) rfl ⟨Nat.le_trans (Nat.le_of_ble_eq_true rfl) hR.1, Nat.le_trans (Nat.le_of_ble_eq_true rfl) hR.2⟩ (Nat.le_of_ble_eq_true rfl) hh_X5 lr_0 (cc5_wrong er1) rfl ?_
  refine sa_istore C dX5_write_5 (by decide) (lv2 := [(4, .int r1), (0, .ref (g 0)), (1, .int x1), (2, .int x2), (3, .int x3)]) rfl ?_
  refine sa_iload C dX5_write_7 0 rfl ?_
  refine sa_if_eq C dX5_write_9 (tgt := 19) (by decide) (fun c2 => ?_) (fun c2 => ?_)
  · replace h := sl_t c2 h
    refine sa_iload_n C dX5_write_19 rfl 3 rfl ?_
    refine sa_i2l C dX5_write_20 ?_
    refine sa_lconst C dX5_write_21 (v := 0) rfl ?_
    refine sa_aload_n C dX5_write_22 rfl 1 rfl ?_
    refine sa_getR C hh_X5 (k := 17) dX5_write_23 q_854 (by decide) lr_0 rfl ?_
    refine sa_iload_n C dX5_write_26 rfl 2 rfl ?_
    obtain ⟨v3, ev3, h⟩ := sl_b h
    refine sa_iald C dX5_write_27 lr_9 ev3 ?_
    refine sa_iconst C dX5_write_28 ic_1 ?_
    refine sa_isub C dX5_write_29 ?_
    refine sa_i2l C dX5_write_30 ?_
    refine sa_invSi C yy_X5_in q_907 q_906 dX5_write_31 (As := [.long x2.toInt64, .long (0 : Int64), .long (v3 - (1 : Int32)).toInt64]) (rest := []) rfl ⟨Nat.le_trans (Nat.le_of_ble_eq_true rfl) hR.1, Nat.le_trans (Nat.le_of_ble_eq_true rfl) hR.2⟩ (Nat.le_of_ble_eq_true rfl) (cc5_in rfl) rfl ?_
    refine sa_if_ne C dX5_write_34 (tgt := 44) (by decide) (fun c4 => ?_) (fun c4 => ?_)
    · replace h := sl_n c4 h
      refine sa_aload_n C dX5_write_44 rfl 1 rfl ?_
      refine sa_getR C hh_X5 (k := 18) dX5_write_45 q_855 (by decide) lr_0 rfl ?_
      refine sa_bipush C dX5_write_48 bp_40 ?_
      refine sa_iload_n C dX5_write_50 rfl 2 rfl ?_
      refine sa_imul C dX5_write_51 ?_
      refine sa_iload_n C dX5_write_52 rfl 3 rfl ?_
      refine sa_iadd C dX5_write_53 ?_
      refine sa_aload_n C dX5_write_54 rfl 1 rfl ?_
      refine sa_getR C hh_X5 (k := 16) dX5_write_55 q_853 (by decide) lr_0 rfl ?_
      refine sa_iload_n C dX5_write_58 rfl 2 rfl ?_
      obtain ⟨v5, ev5, h⟩ := sl_b h
      refine sa_iald C dX5_write_59 lr_8 ev5 ?_
      refine sa_iload_n C dX5_write_60 rfl 4 rfl ?_
      refine sa_invSi C yy_X5_narrowed q_1314 q_1313 dX5_write_61 (As := [.int v5, .int x3]) (rest := [.int (((40 : Int32) * x1) + x2), .ref (g 10)]) rfl ⟨Nat.le_trans (Nat.le_of_ble_eq_true rfl) hR.1, Nat.le_trans (Nat.le_of_ble_eq_true rfl) hR.2⟩ (Nat.le_of_ble_eq_true rfl) (cc5_narrowed rfl) rfl ?_
      obtain ⟨M6, eM6, h⟩ := sl_b h
      refine sa_iast C dX5_write_64 lr_10 eM6 ?_
      refine sa_iconst C dX5_write_65 ic_1 ?_
      exact sa_iret C dX5_write_66 (sl_p1 h) (sl_p2 h)
    · replace h := sl_t c4 h
      refine sa_aload_n C dX5_write_37 rfl 1 rfl ?_
      refine sa_ldc C dX5_write_38 q_910 ?_
      obtain ⟨r7, er7, h⟩ := sl_b h
      refine sa_invVi C yy_X5_finds ⟨q_913, q_54⟩ q_911 dX5_write_40 (As := [.int (-1000001 : Int32)]) (rest := []) rfl ⟨Nat.le_trans (Nat.le_of_ble_eq_true rfl) hR.1, Nat.le_trans (Nat.le_of_ble_eq_true rfl) hR.2⟩ (Nat.le_of_ble_eq_true rfl) hh_X5 lr_0 (cc5_finds er7) rfl ?_
      exact sa_iret C dX5_write_43 (sl_p1 h) (sl_p2 h)
  · replace h := sl_n c2 h
    refine sa_aload_n C dX5_write_12 rfl 1 rfl ?_
    refine sa_iload C dX5_write_13 0 rfl ?_
    obtain ⟨r8, er8, h⟩ := sl_b h
    refine sa_invVi C yy_X5_finds ⟨q_913, q_54⟩ q_911 dX5_write_15 (As := [.int r1]) (rest := []) rfl ⟨Nat.le_trans (Nat.le_of_ble_eq_true rfl) hR.1, Nat.le_trans (Nat.le_of_ble_eq_true rfl) hR.2⟩ (Nat.le_of_ble_eq_true rfl) hh_X5 lr_0 (cc5_finds er8) rfl ?_
    exact sa_iret C dX5_write_18 (sl_p1 h) (sl_p2 h)
/-! X5 copy -/
def f5_copy_158 (x3 : Int32) (x4 : Int32) (x5 : Int32) : Nat → Int32 → sl_M → Option (Int32 × sl_M)
  | 0, _, _ => none
  | n + 1, x6, M => (if x5 ≤ x6 then some (x5, M) else (sl_ld (M 11) 40 x6).bind fun v2 => (sl_st M 10 160 ((((40 : Int32) * x3) + x4) + x6) v2).bind fun M3 => f5_copy_158 x3 x4 x5 n (x6 + (1 : Int32)) M3)
def f5_copy_121 (x1 : Int32) (x2 : Int32) (x3 : Int32) (x4 : Int32) (x5 : Int32) : Nat → Int32 → sl_M → Option (Int32 × sl_M)
  | 0, _, _ => none
  | n + 1, x6, M => (if x5 ≤ x6 then f5_copy_158 x3 x4 x5 400 (0 : Int32) M else (sl_ld (M 10) 160 ((((40 : Int32) * x1) + x2) + x6)).bind fun v2 => (sl_st M 11 40 x6 v2).bind fun M3 => f5_copy_121 x1 x2 x3 x4 x5 n (x6 + (1 : Int32)) M3)
def f5_copy (x1 : Int32) (x2 : Int32) (x3 : Int32) (x4 : Int32) (x5 : Int32) (M : sl_M) : Option (Int32 × sl_M) := (if (f5_isOne x1) = 0 then (f5_finds (-1000001 : Int32) M).bind fun r2 => some (r2.1, r2.2) else (if (f5_isOne x3) = 0 then (f5_finds (-1000001 : Int32) M).bind fun r26 => some (r26.1, r26.2) else (sl_ld (M 8) 4 x1).bind fun v4 => (if v4 = 0 then (f5_finds (-1000006 : Int32) M).bind fun r6 => some (r6.1, r6.2) else (sl_ld (M 8) 4 x3).bind fun v7 => (if v7 = 0 then (f5_finds (-1000006 : Int32) M).bind fun r25 => some (r25.1, r25.2) else (sl_ld (M 8) 4 x1).bind fun v9 => (sl_ld (M 8) 4 x3).bind fun v10 => (if v9 = v10 then (if x2 < 0 then (f5_finds (-1000001 : Int32) M).bind fun r13 => some (r13.1, r13.2) else (if x4 < 0 then (f5_finds (-1000001 : Int32) M).bind fun r15 => some (r15.1, r15.2) else (if x5 < 0 then (f5_finds (-1000001 : Int32) M).bind fun r17 => some (r17.1, r17.2) else (sl_ld (M 9) 4 x1).bind fun v18 => (if (v18 - x2) < x5 then (f5_finds (-1000001 : Int32) M).bind fun r20 => some (r20.1, r20.2) else (sl_ld (M 9) 4 x3).bind fun v21 => (if x5 ≤ (v21 - x4) then f5_copy_121 x1 x2 x3 x4 x5 400 (0 : Int32) M else (f5_finds (-1000001 : Int32) M).bind fun r23 => some (r23.1, r23.2)))))) else (f5_finds (-1000003 : Int32) M).bind fun r24 => some (r24.1, r24.2))))))
theorem w5_copy_158 {D : va_G} {cA : ClassId} {g : Nat → Nat} {A : Nat → Prop} {z : sl_K} {l : Launch} {p : Program} {e : Env} {R : Room} {s : State} {m : MethodId} {args : Array Value} {below : List Frame} {meth : Method} {c : Code} (C : sl_C RX5 cX5_copy 7 (some .int) sl_cl LR D cA g A z p s m meth c) (hR : 2 ≤ R.frames ∧ 45 ≤ R.locals) {r : Int32 × sl_M} {x3 : Int32} {x4 : Int32} {x5 : Int32} : ∀ (n : Nat) {x6 : Int32} {M : sl_M}, f5_copy_158 x3 x4 x5 n x6 M = some r → sl_A sl_cl LR D cA g A p l e R s m args below meth c (MQ below (sl_Q sl_cl LR D cA g A (some (.int r.1)) r.2) args s 0 0 A) 7 158 [(0, .ref (g 0)), (3, .int x3), (4, .int x4), (5, .int x5), (6, .int x6)] [] M := by
  intro n
  induction n with
  | zero =>
    intro x6 M h
    exact absurd h.symm (Option.some_ne_none _)
  | succ n ih =>
    intro x6 M h
    rw [f5_copy_158] at h
    refine sa_iload C dX5_copy_158 4 rfl ?_
    refine sa_iload C dX5_copy_160 3 rfl ?_
    refine sa_icmp_ge C dX5_copy_162 (tgt := 193) (by decide) (fun c1 => ?_) (fun c1 => ?_)
    · replace h := sl_t c1 h
      refine sa_iload C dX5_copy_193 3 rfl ?_
      exact sa_iret C dX5_copy_195 (sl_p1 h) (sl_p2 h)
    · replace h := sl_n c1 h
      refine sa_aload_n C dX5_copy_165 rfl 0 rfl ?_
      refine sa_getR C hh_X5 (k := 18) dX5_copy_166 q_855 (by decide) lr_0 rfl ?_
      refine sa_bipush C dX5_copy_169 bp_40 ?_
      refine sa_iload_n C dX5_copy_171 rfl 1 rfl ?_
      refine sa_imul C dX5_copy_172 ?_
      refine sa_iload C dX5_copy_173 2 rfl ?_
      refine sa_iadd C dX5_copy_175 ?_
      refine sa_iload C dX5_copy_176 4 rfl ?_
      refine sa_iadd C dX5_copy_178 ?_
      refine sa_aload_n C dX5_copy_179 rfl 0 rfl ?_
      refine sa_getR C hh_X5 (k := 19) dX5_copy_180 q_856 (by decide) lr_0 rfl ?_
      refine sa_iload C dX5_copy_183 4 rfl ?_
      obtain ⟨v2, ev2, h⟩ := sl_b h
      refine sa_iald C dX5_copy_185 lr_11 ev2 ?_
      obtain ⟨M3, eM3, h⟩ := sl_b h
      refine sa_iast C dX5_copy_186 lr_10 eM3 ?_
      refine sa_iinc C dX5_copy_187 4 rfl (v := (x6 + (1 : Int32))) (by rw [ic_1]) (by decide) (lv2 := [(6, .int (x6 + (1 : Int32))), (0, .ref (g 0)), (3, .int x3), (4, .int x4), (5, .int x5)]) rfl ?_
      refine sa_goto C dX5_copy_190 (tgt := 158) (by decide) ?_
      exact sa_sub [1, 2, 3, 4, 0] rfl (ih h)
theorem w5_copy_121 {D : va_G} {cA : ClassId} {g : Nat → Nat} {A : Nat → Prop} {z : sl_K} {l : Launch} {p : Program} {e : Env} {R : Room} {s : State} {m : MethodId} {args : Array Value} {below : List Frame} {meth : Method} {c : Code} (C : sl_C RX5 cX5_copy 7 (some .int) sl_cl LR D cA g A z p s m meth c) (hR : 2 ≤ R.frames ∧ 45 ≤ R.locals) {r : Int32 × sl_M} {x1 : Int32} {x2 : Int32} {x3 : Int32} {x4 : Int32} {x5 : Int32} : ∀ (n : Nat) {x6 : Int32} {M : sl_M}, f5_copy_121 x1 x2 x3 x4 x5 n x6 M = some r → sl_A sl_cl LR D cA g A p l e R s m args below meth c (MQ below (sl_Q sl_cl LR D cA g A (some (.int r.1)) r.2) args s 0 0 A) 7 121 [(0, .ref (g 0)), (1, .int x1), (2, .int x2), (3, .int x3), (4, .int x4), (5, .int x5), (6, .int x6)] [] M := by
  intro n
  induction n with
  | zero =>
    intro x6 M h
    exact absurd h.symm (Option.some_ne_none _)
  | succ n ih =>
    intro x6 M h
    rw [f5_copy_121] at h
    refine sa_iload C dX5_copy_121 6 rfl ?_
    refine sa_iload C dX5_copy_123 5 rfl ?_
    refine sa_icmp_ge C dX5_copy_125 (tgt := 155) (by decide) (fun c1 => ?_) (fun c1 => ?_)
    · replace h := sl_t c1 h
      refine sa_iconst C dX5_copy_155 ic_0 ?_
      refine sa_istore C dX5_copy_156 (by decide) (lv2 := [(6, .int (0 : Int32)), (0, .ref (g 0)), (1, .int x1), (2, .int x2), (3, .int x3), (4, .int x4), (5, .int x5)]) rfl ?_
      exact sa_sub [1, 4, 5, 6, 0] rfl (w5_copy_158 C hR 400 h)
    · replace h := sl_n c1 h
      refine sa_aload_n C dX5_copy_128 rfl 0 rfl ?_
      refine sa_getR C hh_X5 (k := 19) dX5_copy_129 q_856 (by decide) lr_0 rfl ?_
      refine sa_iload C dX5_copy_132 6 rfl ?_
      refine sa_aload_n C dX5_copy_134 rfl 0 rfl ?_
      refine sa_getR C hh_X5 (k := 18) dX5_copy_135 q_855 (by decide) lr_0 rfl ?_
      refine sa_bipush C dX5_copy_138 bp_40 ?_
      refine sa_iload_n C dX5_copy_140 rfl 1 rfl ?_
      refine sa_imul C dX5_copy_141 ?_
      refine sa_iload_n C dX5_copy_142 rfl 2 rfl ?_
      refine sa_iadd C dX5_copy_143 ?_
      refine sa_iload C dX5_copy_144 6 rfl ?_
      refine sa_iadd C dX5_copy_146 ?_
      obtain ⟨v2, ev2, h⟩ := sl_b h
      refine sa_iald C dX5_copy_147 lr_10 ev2 ?_
      obtain ⟨M3, eM3, h⟩ := sl_b h
      refine sa_iast C dX5_copy_148 lr_11 eM3 ?_
      refine sa_iinc C dX5_copy_149 6 rfl (v := (x6 + (1 : Int32))) (by rw [ic_1]) (by decide) (lv2 := [(6, .int (x6 + (1 : Int32))), (0, .ref (g 0)), (1, .int x1), (2, .int x2), (3, .int x3), (4, .int x4), (5, .int x5)]) rfl ?_
      refine sa_goto C dX5_copy_152 (tgt := 121) (by decide) ?_
      exact sa_sub [1, 2, 3, 4, 5, 6, 0] rfl (ih h)
theorem cc5_copy {D : va_G} {cA : ClassId} {g : Nat → Nat} {A : Nat → Prop} {z : sl_K} {l : Launch} {x1 : Int32} {x2 : Int32} {x3 : Int32} {x4 : Int32} {x5 : Int32} {M : sl_M} {r : Int32 × sl_M} (h : f5_copy x1 x2 x3 x4 x5 M = some r) : sl_N sl_cl LR D cA g A z l yX5_copy cX5_copy 7 (some .int) 2 45 [.ref (g 0), .int x1, .int x2, .int x3, .int x4, .int x5] M (some (.int r.1)) r.2 := by
  refine sl_N.of (by decide) (Nat.le_of_ble_eq_true rfl) rfl ?_
  intro p e s m args below meth c C
  replace C : sl_C RX5 cX5_copy 7 (some .int) sl_cl LR D cA g A z p s m meth c := C
  have hR : 2 ≤ (({ frames := 2, cells := 0, slots := 0, locals := 45 } : Room)).frames ∧ 45 ≤ (({ frames := 2, cells := 0, slots := 0, locals := 45 } : Room)).locals := ⟨Nat.le_refl _, Nat.le_refl _⟩
  rw [f5_copy] at h
  refine sa_iload_n C dX5_copy_0 rfl 1 rfl ?_
  refine sa_invSi C yy_X5_isOne q_1302 q_1301 dX5_copy_1 (As := [.int x1]) (rest := []) rfl ⟨Nat.le_trans (Nat.le_of_ble_eq_true rfl) hR.1, Nat.le_trans (Nat.le_of_ble_eq_true rfl) hR.2⟩ (Nat.le_of_ble_eq_true rfl) (cc5_isOne rfl) rfl ?_
  refine sa_if_eq C dX5_copy_4 (tgt := 14) (by decide) (fun c1 => ?_) (fun c1 => ?_)
  · replace h := sl_t c1 h
    refine sa_aload_n C dX5_copy_14 rfl 0 rfl ?_
    refine sa_ldc C dX5_copy_15 q_910 ?_
    obtain ⟨r2, er2, h⟩ := sl_b h
    refine sa_invVi C yy_X5_finds ⟨q_913, q_54⟩ q_911 dX5_copy_17 (As := [.int (-1000001 : Int32)]) (rest := []) rfl ⟨Nat.le_trans (Nat.le_of_ble_eq_true rfl) hR.1, Nat.le_trans (Nat.le_of_ble_eq_true rfl) hR.2⟩ (Nat.le_of_ble_eq_true rfl) hh_X5 lr_0 (cc5_finds er2) rfl ?_
    exact sa_iret C dX5_copy_20 (sl_p1 h) (sl_p2 h)
  · replace h := sl_n c1 h
    refine sa_iload_n C dX5_copy_7 rfl 3 rfl ?_
    refine sa_invSi C yy_X5_isOne q_1302 q_1301 dX5_copy_8 (As := [.int x3]) (rest := []) rfl ⟨Nat.le_trans (Nat.le_of_ble_eq_true rfl) hR.1, Nat.le_trans (Nat.le_of_ble_eq_true rfl) hR.2⟩ (Nat.le_of_ble_eq_true rfl) (cc5_isOne rfl) rfl ?_
    refine sa_if_ne C dX5_copy_11 (tgt := 21) (by decide) (fun c3 => ?_) (fun c3 => ?_)
    · replace h := sl_n c3 h
      refine sa_aload_n C dX5_copy_21 rfl 0 rfl ?_
      refine sa_getR C hh_X5 (k := 16) dX5_copy_22 q_853 (by decide) lr_0 rfl ?_
      refine sa_iload_n C dX5_copy_25 rfl 1 rfl ?_
      obtain ⟨v4, ev4, h⟩ := sl_b h
      refine sa_iald C dX5_copy_26 lr_8 ev4 ?_
      refine sa_if_eq C dX5_copy_27 (tgt := 39) (by decide) (fun c5 => ?_) (fun c5 => ?_)
      · replace h := sl_t c5 h
        refine sa_aload_n C dX5_copy_39 rfl 0 rfl ?_
        refine sa_ldcw C dX5_copy_40 q_1295 ?_
        obtain ⟨r6, er6, h⟩ := sl_b h
        refine sa_invVi C yy_X5_finds ⟨q_913, q_54⟩ q_911 dX5_copy_43 (As := [.int (-1000006 : Int32)]) (rest := []) rfl ⟨Nat.le_trans (Nat.le_of_ble_eq_true rfl) hR.1, Nat.le_trans (Nat.le_of_ble_eq_true rfl) hR.2⟩ (Nat.le_of_ble_eq_true rfl) hh_X5 lr_0 (cc5_finds er6) rfl ?_
        exact sa_iret C dX5_copy_46 (sl_p1 h) (sl_p2 h)
      · replace h := sl_n c5 h
        refine sa_aload_n C dX5_copy_30 rfl 0 rfl ?_
        refine sa_getR C hh_X5 (k := 16) dX5_copy_31 q_853 (by decide) lr_0 rfl ?_
        refine sa_iload_n C dX5_copy_34 rfl 3 rfl ?_
        obtain ⟨v7, ev7, h⟩ := sl_b h
        refine sa_iald C dX5_copy_35 lr_8 ev7 ?_
        refine sa_if_ne C dX5_copy_36 (tgt := 47) (by decide) (fun c8 => ?_) (fun c8 => ?_)
        · replace h := sl_n c8 h
          refine sa_aload_n C dX5_copy_47 rfl 0 rfl ?_
          refine sa_getR C hh_X5 (k := 16) dX5_copy_48 q_853 (by decide) lr_0 rfl ?_
          refine sa_iload_n C dX5_copy_51 rfl 1 rfl ?_
          obtain ⟨v9, ev9, h⟩ := sl_b h
          refine sa_iald C dX5_copy_52 lr_8 ev9 ?_
          refine sa_aload_n C dX5_copy_53 rfl 0 rfl ?_
          refine sa_getR C hh_X5 (k := 16) dX5_copy_54 q_853 (by decide) lr_0 rfl ?_
          refine sa_iload_n C dX5_copy_57 rfl 3 rfl ?_
          obtain ⟨v10, ev10, h⟩ := sl_b h
          refine sa_iald C dX5_copy_58 lr_8 ev10 ?_
          refine sa_icmp_eq C dX5_copy_59 (tgt := 70) (by decide) (fun c11 => ?_) (fun c11 => ?_)
          · replace h := sl_t c11 h
            refine sa_iload_n C dX5_copy_70 rfl 2 rfl ?_
            refine sa_if_lt C dX5_copy_71 (tgt := 111) (by decide) (fun c12 => ?_) (fun c12 => ?_)
            · replace h := sl_t c12 h
              refine sa_aload_n C dX5_copy_111 rfl 0 rfl ?_
              refine sa_ldc C dX5_copy_112 q_910 ?_
              obtain ⟨r13, er13, h⟩ := sl_b h
              refine sa_invVi C yy_X5_finds ⟨q_913, q_54⟩ q_911 dX5_copy_114 (As := [.int (-1000001 : Int32)]) (rest := []) rfl ⟨Nat.le_trans (Nat.le_of_ble_eq_true rfl) hR.1, Nat.le_trans (Nat.le_of_ble_eq_true rfl) hR.2⟩ (Nat.le_of_ble_eq_true rfl) hh_X5 lr_0 (cc5_finds er13) rfl ?_
              exact sa_iret C dX5_copy_117 (sl_p1 h) (sl_p2 h)
            · replace h := sl_n c12 h
              refine sa_iload C dX5_copy_74 4 rfl ?_
              refine sa_if_lt C dX5_copy_76 (tgt := 111) (by decide) (fun c14 => ?_) (fun c14 => ?_)
              · replace h := sl_t c14 h
                refine sa_aload_n C dX5_copy_111 rfl 0 rfl ?_
                refine sa_ldc C dX5_copy_112 q_910 ?_
                obtain ⟨r15, er15, h⟩ := sl_b h
                refine sa_invVi C yy_X5_finds ⟨q_913, q_54⟩ q_911 dX5_copy_114 (As := [.int (-1000001 : Int32)]) (rest := []) rfl ⟨Nat.le_trans (Nat.le_of_ble_eq_true rfl) hR.1, Nat.le_trans (Nat.le_of_ble_eq_true rfl) hR.2⟩ (Nat.le_of_ble_eq_true rfl) hh_X5 lr_0 (cc5_finds er15) rfl ?_
                exact sa_iret C dX5_copy_117 (sl_p1 h) (sl_p2 h)
              · replace h := sl_n c14 h
                refine sa_iload C dX5_copy_79 5 rfl ?_
                refine sa_if_lt C dX5_copy_81 (tgt := 111) (by decide) (fun c16 => ?_) (fun c16 => ?_)
                · replace h := sl_t c16 h
                  refine sa_aload_n C dX5_copy_111 rfl 0 rfl ?_
                  refine sa_ldc C dX5_copy_112 q_910 ?_
                  obtain ⟨r17, er17, h⟩ := sl_b h
                  refine sa_invVi C yy_X5_finds ⟨q_913, q_54⟩ q_911 dX5_copy_114 (As := [.int (-1000001 : Int32)]) (rest := []) rfl ⟨Nat.le_trans (Nat.le_of_ble_eq_true rfl) hR.1, Nat.le_trans (Nat.le_of_ble_eq_true rfl) hR.2⟩ (Nat.le_of_ble_eq_true rfl) hh_X5 lr_0 (cc5_finds er17) rfl ?_
                  exact sa_iret C dX5_copy_117 (sl_p1 h) (sl_p2 h)
                · replace h := sl_n c16 h
                  refine sa_iload C dX5_copy_84 5 rfl ?_
                  refine sa_aload_n C dX5_copy_86 rfl 0 rfl ?_
                  refine sa_getR C hh_X5 (k := 17) dX5_copy_87 q_854 (by decide) lr_0 rfl ?_
                  refine sa_iload_n C dX5_copy_90 rfl 1 rfl ?_
                  obtain ⟨v18, ev18, h⟩ := sl_b h
                  refine sa_iald C dX5_copy_91 lr_9 ev18 ?_
                  refine sa_iload_n C dX5_copy_92 rfl 2 rfl ?_
                  refine sa_isub C dX5_copy_93 ?_
                  refine sa_icmp_gt C dX5_copy_94 (tgt := 111) (by decide) (fun c19 => ?_) (fun c19 => ?_)
                  · replace h := sl_t c19 h
                    refine sa_aload_n C dX5_copy_111 rfl 0 rfl ?_
                    refine sa_ldc C dX5_copy_112 q_910 ?_
                    obtain ⟨r20, er20, h⟩ := sl_b h
                    refine sa_invVi C yy_X5_finds ⟨q_913, q_54⟩ q_911 dX5_copy_114 (As := [.int (-1000001 : Int32)]) (rest := []) rfl ⟨Nat.le_trans (Nat.le_of_ble_eq_true rfl) hR.1, Nat.le_trans (Nat.le_of_ble_eq_true rfl) hR.2⟩ (Nat.le_of_ble_eq_true rfl) hh_X5 lr_0 (cc5_finds er20) rfl ?_
                    exact sa_iret C dX5_copy_117 (sl_p1 h) (sl_p2 h)
                  · replace h := sl_n c19 h
                    refine sa_iload C dX5_copy_97 5 rfl ?_
                    refine sa_aload_n C dX5_copy_99 rfl 0 rfl ?_
                    refine sa_getR C hh_X5 (k := 17) dX5_copy_100 q_854 (by decide) lr_0 rfl ?_
                    refine sa_iload_n C dX5_copy_103 rfl 3 rfl ?_
                    obtain ⟨v21, ev21, h⟩ := sl_b h
                    refine sa_iald C dX5_copy_104 lr_9 ev21 ?_
                    refine sa_iload C dX5_copy_105 4 rfl ?_
                    refine sa_isub C dX5_copy_107 ?_
                    refine sa_icmp_le C dX5_copy_108 (tgt := 118) (by decide) (fun c22 => ?_) (fun c22 => ?_)
                    · replace h := sl_t c22 h
                      refine sa_iconst C dX5_copy_118 ic_0 ?_
                      refine sa_istore C dX5_copy_119 (by decide) (lv2 := [(6, .int (0 : Int32)), (0, .ref (g 0)), (1, .int x1), (2, .int x2), (3, .int x3), (4, .int x4), (5, .int x5)]) rfl ?_
                      exact sa_sub [1, 2, 3, 4, 5, 6, 0] rfl (w5_copy_121 C hR 400 h)
                    · replace h := sl_n c22 h
                      refine sa_aload_n C dX5_copy_111 rfl 0 rfl ?_
                      refine sa_ldc C dX5_copy_112 q_910 ?_
                      obtain ⟨r23, er23, h⟩ := sl_b h
                      refine sa_invVi C yy_X5_finds ⟨q_913, q_54⟩ q_911 dX5_copy_114 (As := [.int (-1000001 : Int32)]) (rest := []) rfl ⟨Nat.le_trans (Nat.le_of_ble_eq_true rfl) hR.1, Nat.le_trans (Nat.le_of_ble_eq_true rfl) hR.2⟩ (Nat.le_of_ble_eq_true rfl) hh_X5 lr_0 (cc5_finds er23) rfl ?_
                      exact sa_iret C dX5_copy_117 (sl_p1 h) (sl_p2 h)
          · replace h := sl_n c11 h
            refine sa_aload_n C dX5_copy_62 rfl 0 rfl ?_
            refine sa_ldcw C dX5_copy_63 q_1296 ?_
            obtain ⟨r24, er24, h⟩ := sl_b h
            refine sa_invVi C yy_X5_finds ⟨q_913, q_54⟩ q_911 dX5_copy_66 (As := [.int (-1000003 : Int32)]) (rest := []) rfl ⟨Nat.le_trans (Nat.le_of_ble_eq_true rfl) hR.1, Nat.le_trans (Nat.le_of_ble_eq_true rfl) hR.2⟩ (Nat.le_of_ble_eq_true rfl) hh_X5 lr_0 (cc5_finds er24) rfl ?_
            exact sa_iret C dX5_copy_69 (sl_p1 h) (sl_p2 h)
        · replace h := sl_t c8 h
          refine sa_aload_n C dX5_copy_39 rfl 0 rfl ?_
          refine sa_ldcw C dX5_copy_40 q_1295 ?_
          obtain ⟨r25, er25, h⟩ := sl_b h
          refine sa_invVi C yy_X5_finds ⟨q_913, q_54⟩ q_911 dX5_copy_43 (As := [.int (-1000006 : Int32)]) (rest := []) rfl ⟨Nat.le_trans (Nat.le_of_ble_eq_true rfl) hR.1, Nat.le_trans (Nat.le_of_ble_eq_true rfl) hR.2⟩ (Nat.le_of_ble_eq_true rfl) hh_X5 lr_0 (cc5_finds er25) rfl ?_
          exact sa_iret C dX5_copy_46 (sl_p1 h) (sl_p2 h)
    · replace h := sl_t c3 h
      refine sa_aload_n C dX5_copy_14 rfl 0 rfl ?_
      refine sa_ldc C dX5_copy_15 q_910 ?_
      obtain ⟨r26, er26, h⟩ := sl_b h
      refine sa_invVi C yy_X5_finds ⟨q_913, q_54⟩ q_911 dX5_copy_17 (As := [.int (-1000001 : Int32)]) (rest := []) rfl ⟨Nat.le_trans (Nat.le_of_ble_eq_true rfl) hR.1, Nat.le_trans (Nat.le_of_ble_eq_true rfl) hR.2⟩ (Nat.le_of_ble_eq_true rfl) hh_X5 lr_0 (cc5_finds er26) rfl ?_
      exact sa_iret C dX5_copy_20 (sl_p1 h) (sl_p2 h)
/-! X5 load -/
def f5_load_33 (x1 : Int32) (x2 : Int32) : Nat → Int32 → sl_M → Option (Int32 × sl_M)
  | 0, _, _ => none
  | n + 1, x4, M => (sl_ld (M 9) 4 x1).bind fun v1 => (if v1 ≤ x4 then some (x4, M) else (if (24 : Int32) ≤ (x2 + x4) then some (x4, M) else (sl_ld (M 10) 160 (((40 : Int32) * x1) + x4)).bind fun v4 => (if (f5_in v4.toInt64 (0 : Int64) (99 : Int64)) = 0 then some (x4, M) else (sl_ld (M 10) 160 (((40 : Int32) * x1) + x4)).bind fun v6 => (sl_st M 1 111 (((5 : Int32) + ((3 : Int32) * (x2 + x4))) + (1 : Int32)) v6).bind fun M7 => f5_load_33 x1 x2 n (x4 + (1 : Int32)) M7)))
def f5_load (x1 : Int32) (x2 : Int32) (M : sl_M) : Option (Int32 × sl_M) := (f5_wrong x1 M).bind fun r1 => (if r1 = 0 then (if (f5_isCell x2) = 0 then (f5_finds (-1000001 : Int32) M).bind fun r4 => some (r4.1, r4.2) else f5_load_33 x1 x2 400 (0 : Int32) M) else (f5_finds r1 M).bind fun r5 => some (r5.1, r5.2))
theorem w5_load_33 {D : va_G} {cA : ClassId} {g : Nat → Nat} {A : Nat → Prop} {z : sl_K} {l : Launch} {p : Program} {e : Env} {R : Room} {s : State} {m : MethodId} {args : Array Value} {below : List Frame} {meth : Method} {c : Code} (C : sl_C RX5 cX5_load 5 (some .int) sl_cl LR D cA g A z p s m meth c) (hR : 3 ≤ R.frames ∧ 66 ≤ R.locals) {r : Int32 × sl_M} {x1 : Int32} {x2 : Int32} : ∀ (n : Nat) {x4 : Int32} {M : sl_M}, f5_load_33 x1 x2 n x4 M = some r → sl_A sl_cl LR D cA g A p l e R s m args below meth c (MQ below (sl_Q sl_cl LR D cA g A (some (.int r.1)) r.2) args s 0 0 A) 5 33 [(0, .ref (g 0)), (1, .int x1), (2, .int x2), (4, .int x4)] [] M := by
  intro n
  induction n with
  | zero =>
    intro x4 M h
    exact absurd h.symm (Option.some_ne_none _)
  | succ n ih =>
    intro x4 M h
    rw [f5_load_33] at h
    refine sa_iload C dX5_load_33 3 rfl ?_
    refine sa_aload_n C dX5_load_35 rfl 0 rfl ?_
    refine sa_getR C hh_X5 (k := 17) dX5_load_36 q_854 (by decide) lr_0 rfl ?_
    refine sa_iload_n C dX5_load_39 rfl 1 rfl ?_
    obtain ⟨v1, ev1, h⟩ := sl_b h
    refine sa_iald C dX5_load_40 lr_9 ev1 ?_
    refine sa_icmp_ge C dX5_load_41 (tgt := 109) (by decide) (fun c2 => ?_) (fun c2 => ?_)
    · replace h := sl_t c2 h
      refine sa_iload C dX5_load_109 3 rfl ?_
      exact sa_iret C dX5_load_111 (sl_p1 h) (sl_p2 h)
    · replace h := sl_n c2 h
      refine sa_iload_n C dX5_load_44 rfl 2 rfl ?_
      refine sa_iload C dX5_load_45 3 rfl ?_
      refine sa_iadd C dX5_load_47 ?_
      refine sa_bipush C dX5_load_48 bp_24 ?_
      refine sa_icmp_ge C dX5_load_50 (tgt := 109) (by decide) (fun c3 => ?_) (fun c3 => ?_)
      · replace h := sl_t c3 h
        refine sa_iload C dX5_load_109 3 rfl ?_
        exact sa_iret C dX5_load_111 (sl_p1 h) (sl_p2 h)
      · replace h := sl_n c3 h
        refine sa_aload_n C dX5_load_53 rfl 0 rfl ?_
        refine sa_getR C hh_X5 (k := 18) dX5_load_54 q_855 (by decide) lr_0 rfl ?_
        refine sa_bipush C dX5_load_57 bp_40 ?_
        refine sa_iload_n C dX5_load_59 rfl 1 rfl ?_
        refine sa_imul C dX5_load_60 ?_
        refine sa_iload C dX5_load_61 3 rfl ?_
        refine sa_iadd C dX5_load_63 ?_
        obtain ⟨v4, ev4, h⟩ := sl_b h
        refine sa_iald C dX5_load_64 lr_10 ev4 ?_
        refine sa_i2l C dX5_load_65 ?_
        refine sa_lconst C dX5_load_66 (v := 0) rfl ?_
        refine sa_ldc2 C dX5_load_67 q_909 ?_
        refine sa_invSi C yy_X5_in q_907 q_906 dX5_load_70 (As := [.long v4.toInt64, .long (0 : Int64), .long (99 : Int64)]) (rest := []) rfl ⟨Nat.le_trans (Nat.le_of_ble_eq_true rfl) hR.1, Nat.le_trans (Nat.le_of_ble_eq_true rfl) hR.2⟩ (Nat.le_of_ble_eq_true rfl) (cc5_in rfl) rfl ?_
        refine sa_if_eq C dX5_load_73 (tgt := 109) (by decide) (fun c5 => ?_) (fun c5 => ?_)
        · replace h := sl_t c5 h
          refine sa_iload C dX5_load_109 3 rfl ?_
          exact sa_iret C dX5_load_111 (sl_p1 h) (sl_p2 h)
        · replace h := sl_n c5 h
          refine sa_aload_n C dX5_load_76 rfl 0 rfl ?_
          refine sa_getR C hh_X5 (k := 0) dX5_load_77 q_837 (by decide) lr_0 rfl ?_
          refine sa_iconst C dX5_load_80 ic_5 ?_
          refine sa_iconst C dX5_load_81 ic_3 ?_
          refine sa_iload_n C dX5_load_82 rfl 2 rfl ?_
          refine sa_iload C dX5_load_83 3 rfl ?_
          refine sa_iadd C dX5_load_85 ?_
          refine sa_imul C dX5_load_86 ?_
          refine sa_iadd C dX5_load_87 ?_
          refine sa_iconst C dX5_load_88 ic_1 ?_
          refine sa_iadd C dX5_load_89 ?_
          refine sa_aload_n C dX5_load_90 rfl 0 rfl ?_
          refine sa_getR C hh_X5 (k := 18) dX5_load_91 q_855 (by decide) lr_0 rfl ?_
          refine sa_bipush C dX5_load_94 bp_40 ?_
          refine sa_iload_n C dX5_load_96 rfl 1 rfl ?_
          refine sa_imul C dX5_load_97 ?_
          refine sa_iload C dX5_load_98 3 rfl ?_
          refine sa_iadd C dX5_load_100 ?_
          obtain ⟨v6, ev6, h⟩ := sl_b h
          refine sa_iald C dX5_load_101 lr_10 ev6 ?_
          obtain ⟨M7, eM7, h⟩ := sl_b h
          refine sa_iast C dX5_load_102 lr_1 eM7 ?_
          refine sa_iinc C dX5_load_103 3 rfl (v := (x4 + (1 : Int32))) (by rw [ic_1]) (by decide) (lv2 := [(4, .int (x4 + (1 : Int32))), (0, .ref (g 0)), (1, .int x1), (2, .int x2)]) rfl ?_
          refine sa_goto C dX5_load_106 (tgt := 33) (by decide) ?_
          exact sa_sub [1, 2, 3, 0] rfl (ih h)
theorem cc5_load {D : va_G} {cA : ClassId} {g : Nat → Nat} {A : Nat → Prop} {z : sl_K} {l : Launch} {x1 : Int32} {x2 : Int32} {M : sl_M} {r : Int32 × sl_M} (h : f5_load x1 x2 M = some r) : sl_N sl_cl LR D cA g A z l yX5_load cX5_load 5 (some .int) 3 66 [.ref (g 0), .int x1, .int x2] M (some (.int r.1)) r.2 := by
  refine sl_N.of (by decide) (Nat.le_of_ble_eq_true rfl) rfl ?_
  intro p e s m args below meth c C
  replace C : sl_C RX5 cX5_load 5 (some .int) sl_cl LR D cA g A z p s m meth c := C
  have hR : 3 ≤ (({ frames := 3, cells := 0, slots := 0, locals := 66 } : Room)).frames ∧ 66 ≤ (({ frames := 3, cells := 0, slots := 0, locals := 66 } : Room)).locals := ⟨Nat.le_refl _, Nat.le_refl _⟩
  rw [f5_load] at h
  refine sa_aload_n C dX5_load_0 rfl 0 rfl ?_
  refine sa_iload_n C dX5_load_1 rfl 1 rfl ?_
  obtain ⟨r1, er1, h⟩ := sl_b h
  refine sa_invVi C yy_X5_wrong ⟨q_1311, q_92⟩ q_1309 dX5_load_2 (As := [.int x1]) (rest := []) rfl ⟨Nat.le_trans (Nat.le_of_ble_eq_true rfl) hR.1, Nat.le_trans (Nat.le_of_ble_eq_true rfl) hR.2⟩ (Nat.le_of_ble_eq_true rfl) hh_X5 lr_0 (cc5_wrong er1) rfl ?_
  refine sa_istore_n C dX5_load_5 rfl (by decide) (lv2 := [(3, .int r1), (0, .ref (g 0)), (1, .int x1), (2, .int x2)]) rfl ?_
  refine sa_iload_n C dX5_load_6 rfl 0 rfl ?_
  refine sa_if_eq C dX5_load_7 (tgt := 16) (by decide) (fun c2 => ?_) (fun c2 => ?_)
  · replace h := sl_t c2 h
    refine sa_iload_n C dX5_load_16 rfl 3 rfl ?_
    refine sa_invSi C yy_X5_isCell q_903 q_902 dX5_load_17 (As := [.int x2]) (rest := []) rfl ⟨Nat.le_trans (Nat.le_of_ble_eq_true rfl) hR.1, Nat.le_trans (Nat.le_of_ble_eq_true rfl) hR.2⟩ (Nat.le_of_ble_eq_true rfl) (cc5_isCell rfl) rfl ?_
    refine sa_if_ne C dX5_load_20 (tgt := 30) (by decide) (fun c3 => ?_) (fun c3 => ?_)
    · replace h := sl_n c3 h
      refine sa_iconst C dX5_load_30 ic_0 ?_
      refine sa_istore C dX5_load_31 (by decide) (lv2 := [(4, .int (0 : Int32)), (3, .int r1), (0, .ref (g 0)), (1, .int x1), (2, .int x2)]) rfl ?_
      exact sa_sub [2, 3, 4, 0] rfl (w5_load_33 C hR 400 h)
    · replace h := sl_t c3 h
      refine sa_aload_n C dX5_load_23 rfl 1 rfl ?_
      refine sa_ldc C dX5_load_24 q_910 ?_
      obtain ⟨r4, er4, h⟩ := sl_b h
      refine sa_invVi C yy_X5_finds ⟨q_913, q_54⟩ q_911 dX5_load_26 (As := [.int (-1000001 : Int32)]) (rest := []) rfl ⟨Nat.le_trans (Nat.le_of_ble_eq_true rfl) hR.1, Nat.le_trans (Nat.le_of_ble_eq_true rfl) hR.2⟩ (Nat.le_of_ble_eq_true rfl) hh_X5 lr_0 (cc5_finds er4) rfl ?_
      exact sa_iret C dX5_load_29 (sl_p1 h) (sl_p2 h)
  · replace h := sl_n c2 h
    refine sa_aload_n C dX5_load_10 rfl 1 rfl ?_
    refine sa_iload_n C dX5_load_11 rfl 0 rfl ?_
    obtain ⟨r5, er5, h⟩ := sl_b h
    refine sa_invVi C yy_X5_finds ⟨q_913, q_54⟩ q_911 dX5_load_12 (As := [.int r1]) (rest := []) rfl ⟨Nat.le_trans (Nat.le_of_ble_eq_true rfl) hR.1, Nat.le_trans (Nat.le_of_ble_eq_true rfl) hR.2⟩ (Nat.le_of_ble_eq_true rfl) hh_X5 lr_0 (cc5_finds er5) rfl ?_
    exact sa_iret C dX5_load_15 (sl_p1 h) (sl_p2 h)
/-! X5 judge -/
def f5_judge_106 (x1 : Int32) (x4 : Int32) (M : sl_M) : Option (Int32 × sl_M) := (f5_putsBack M).bind fun r1 => (sl_ld (r1 9) 4 x1).bind fun v2 => (if x4 = v2 then (sl_ld (r1 1) 111 (1 : Int32)).bind fun v4 => (if x4 = v4 then some ((0 : Int32), r1) else some (((1 : Int32) + x4), r1)) else some (((1 : Int32) + x4), r1))
def f5_judge_57 (x1 : Int32) : Nat → Int32 → sl_M → Option (Int32 × sl_M)
  | 0, _, _ => none
  | n + 1, x4, M => (sl_ld (M 9) 4 x1).bind fun v1 => (if v1 ≤ x4 then f5_judge_106 x1 x4 M else (sl_ld (M 1) 111 (1 : Int32)).bind fun v3 => (if v3 ≤ x4 then f5_judge_106 x1 x4 M else (sl_ld (M 10) 160 (((40 : Int32) * x1) + x4)).bind fun v5 => (f5_taxOf x4 M).bind fun r6 => (if v5 = r6 then f5_judge_57 x1 n (x4 + (1 : Int32)) M else f5_judge_106 x1 x4 M)))
def f5_judge (x1 : Int32) (x2 : Int32) (M : sl_M) : Option (Int32 × sl_M) := (f5_wrong x1 M).bind fun r1 => (if r1 = 0 then (if (f5_isAhead x2) = 0 then (f5_finds (-1000001 : Int32) M).bind fun r9 => some (r9.1, r9.2) else (f5_isTooFar x2 M).bind fun r4 => (if r4 = 0 then (f5_puts M).bind fun r6 => (f5_yearsGo x2 r6).bind fun r7 => f5_judge_57 x1 400 (0 : Int32) r7 else (f5_finds (-1000005 : Int32) M).bind fun r8 => some (r8.1, r8.2))) else (f5_finds r1 M).bind fun r10 => some (r10.1, r10.2))
theorem w5_judge_106 {D : va_G} {cA : ClassId} {g : Nat → Nat} {A : Nat → Prop} {z : sl_K} {l : Launch} {p : Program} {e : Env} {R : Room} {s : State} {m : MethodId} {args : Array Value} {below : List Frame} {meth : Method} {c : Code} (C : sl_C RX5 cX5_judge 5 (some .int) sl_cl LR D cA g A z p s m meth c) (hR : 7 ≤ R.frames ∧ 161 ≤ R.locals) {M : sl_M} {r : Int32 × sl_M} {x1 : Int32} {x4 : Int32} (h : f5_judge_106 x1 x4 M = some r) : sl_A sl_cl LR D cA g A p l e R s m args below meth c (MQ below (sl_Q sl_cl LR D cA g A (some (.int r.1)) r.2) args s 0 0 A) 5 106 [(0, .ref (g 0)), (1, .int x1), (4, .int x4)] [] M := by
  rw [f5_judge_106] at h
  refine sa_aload_n C dX5_judge_106 rfl 0 rfl ?_
  obtain ⟨r1, er1, h⟩ := sl_b h
  refine sa_invVv C yy_X5_putsBack ⟨q_1127, q_78⟩ q_1125 dX5_judge_107 (As := []) (rest := []) rfl ⟨Nat.le_trans (Nat.le_of_ble_eq_true rfl) hR.1, Nat.le_trans (Nat.le_of_ble_eq_true rfl) hR.2⟩ (Nat.le_of_ble_eq_true rfl) hh_X5 lr_0 (cc5_putsBack er1) rfl ?_
  refine sa_iload C dX5_judge_110 2 rfl ?_
  refine sa_aload_n C dX5_judge_112 rfl 0 rfl ?_
  refine sa_getR C hh_X5 (k := 17) dX5_judge_113 q_854 (by decide) lr_0 rfl ?_
  refine sa_iload_n C dX5_judge_116 rfl 1 rfl ?_
  obtain ⟨v2, ev2, h⟩ := sl_b h
  refine sa_iald C dX5_judge_117 lr_9 ev2 ?_
  refine sa_icmp_ne C dX5_judge_118 (tgt := 136) (by decide) (fun c3 => ?_) (fun c3 => ?_)
  · replace h := sl_n c3 h
    refine sa_iconst C dX5_judge_136 ic_1 ?_
    refine sa_iload C dX5_judge_137 2 rfl ?_
    refine sa_iadd C dX5_judge_139 ?_
    exact sa_iret C dX5_judge_140 (sl_p1 h) (sl_p2 h)
  · replace h := sl_t c3 h
    refine sa_iload C dX5_judge_121 2 rfl ?_
    refine sa_aload_n C dX5_judge_123 rfl 0 rfl ?_
    refine sa_getR C hh_X5 (k := 0) dX5_judge_124 q_837 (by decide) lr_0 rfl ?_
    refine sa_iconst C dX5_judge_127 ic_1 ?_
    obtain ⟨v4, ev4, h⟩ := sl_b h
    refine sa_iald C dX5_judge_128 lr_1 ev4 ?_
    refine sa_icmp_ne C dX5_judge_129 (tgt := 136) (by decide) (fun c5 => ?_) (fun c5 => ?_)
    · replace h := sl_n c5 h
      refine sa_iconst C dX5_judge_136 ic_1 ?_
      refine sa_iload C dX5_judge_137 2 rfl ?_
      refine sa_iadd C dX5_judge_139 ?_
      exact sa_iret C dX5_judge_140 (sl_p1 h) (sl_p2 h)
    · replace h := sl_t c5 h
      refine sa_iconst C dX5_judge_132 ic_0 ?_
      refine sa_goto C dX5_judge_133 (tgt := 140) (by decide) ?_
      exact sa_iret C dX5_judge_140 (sl_p1 h) (sl_p2 h)
theorem w5_judge_57 {D : va_G} {cA : ClassId} {g : Nat → Nat} {A : Nat → Prop} {z : sl_K} {l : Launch} {p : Program} {e : Env} {R : Room} {s : State} {m : MethodId} {args : Array Value} {below : List Frame} {meth : Method} {c : Code} (C : sl_C RX5 cX5_judge 5 (some .int) sl_cl LR D cA g A z p s m meth c) (hR : 7 ≤ R.frames ∧ 161 ≤ R.locals) {r : Int32 × sl_M} {x1 : Int32} : ∀ (n : Nat) {x4 : Int32} {M : sl_M}, f5_judge_57 x1 n x4 M = some r → sl_A sl_cl LR D cA g A p l e R s m args below meth c (MQ below (sl_Q sl_cl LR D cA g A (some (.int r.1)) r.2) args s 0 0 A) 5 57 [(0, .ref (g 0)), (1, .int x1), (4, .int x4)] [] M := by
  intro n
  induction n with
  | zero =>
    intro x4 M h
    exact absurd h.symm (Option.some_ne_none _)
  | succ n ih =>
    intro x4 M h
    rw [f5_judge_57] at h
    refine sa_iload C dX5_judge_57 2 rfl ?_
    refine sa_aload_n C dX5_judge_59 rfl 0 rfl ?_
    refine sa_getR C hh_X5 (k := 17) dX5_judge_60 q_854 (by decide) lr_0 rfl ?_
    refine sa_iload_n C dX5_judge_63 rfl 1 rfl ?_
    obtain ⟨v1, ev1, h⟩ := sl_b h
    refine sa_iald C dX5_judge_64 lr_9 ev1 ?_
    refine sa_icmp_ge C dX5_judge_65 (tgt := 106) (by decide) (fun c2 => ?_) (fun c2 => ?_)
    · replace h := sl_t c2 h
      exact sa_sub [0, 1, 2] rfl (w5_judge_106 C hR h)
    · replace h := sl_n c2 h
      refine sa_iload C dX5_judge_68 2 rfl ?_
      refine sa_aload_n C dX5_judge_70 rfl 0 rfl ?_
      refine sa_getR C hh_X5 (k := 0) dX5_judge_71 q_837 (by decide) lr_0 rfl ?_
      refine sa_iconst C dX5_judge_74 ic_1 ?_
      obtain ⟨v3, ev3, h⟩ := sl_b h
      refine sa_iald C dX5_judge_75 lr_1 ev3 ?_
      refine sa_icmp_ge C dX5_judge_76 (tgt := 106) (by decide) (fun c4 => ?_) (fun c4 => ?_)
      · replace h := sl_t c4 h
        exact sa_sub [0, 1, 2] rfl (w5_judge_106 C hR h)
      · replace h := sl_n c4 h
        refine sa_aload_n C dX5_judge_79 rfl 0 rfl ?_
        refine sa_getR C hh_X5 (k := 18) dX5_judge_80 q_855 (by decide) lr_0 rfl ?_
        refine sa_bipush C dX5_judge_83 bp_40 ?_
        refine sa_iload_n C dX5_judge_85 rfl 1 rfl ?_
        refine sa_imul C dX5_judge_86 ?_
        refine sa_iload C dX5_judge_87 2 rfl ?_
        refine sa_iadd C dX5_judge_89 ?_
        obtain ⟨v5, ev5, h⟩ := sl_b h
        refine sa_iald C dX5_judge_90 lr_10 ev5 ?_
        refine sa_aload_n C dX5_judge_91 rfl 0 rfl ?_
        refine sa_iload C dX5_judge_92 2 rfl ?_
        obtain ⟨r6, er6, h⟩ := sl_b h
        refine sa_invVi C yy_X5_taxOf ⟨q_1064, q_71⟩ q_1062 dX5_judge_94 (As := [.int x4]) (rest := [.int v5]) rfl ⟨Nat.le_trans (Nat.le_of_ble_eq_true rfl) hR.1, Nat.le_trans (Nat.le_of_ble_eq_true rfl) hR.2⟩ (Nat.le_of_ble_eq_true rfl) hh_X5 lr_0 (cc5_taxOf er6) rfl ?_
        refine sa_icmp_ne C dX5_judge_97 (tgt := 106) (by decide) (fun c7 => ?_) (fun c7 => ?_)
        · replace h := sl_n c7 h
          exact sa_sub [0, 1, 2] rfl (w5_judge_106 C hR h)
        · replace h := sl_t c7 h
          refine sa_iinc C dX5_judge_100 2 rfl (v := (x4 + (1 : Int32))) (by rw [ic_1]) (by decide) (lv2 := [(4, .int (x4 + (1 : Int32))), (0, .ref (g 0)), (1, .int x1)]) rfl ?_
          refine sa_goto C dX5_judge_103 (tgt := 57) (by decide) ?_
          exact sa_sub [1, 2, 0] rfl (ih h)
theorem cc5_judge {D : va_G} {cA : ClassId} {g : Nat → Nat} {A : Nat → Prop} {z : sl_K} {l : Launch} {x1 : Int32} {x2 : Int32} {M : sl_M} {r : Int32 × sl_M} (h : f5_judge x1 x2 M = some r) : sl_N sl_cl LR D cA g A z l yX5_judge cX5_judge 5 (some .int) 7 161 [.ref (g 0), .int x1, .int x2] M (some (.int r.1)) r.2 := by
  refine sl_N.of (by decide) (Nat.le_of_ble_eq_true rfl) rfl ?_
  intro p e s m args below meth c C
  replace C : sl_C RX5 cX5_judge 5 (some .int) sl_cl LR D cA g A z p s m meth c := C
  have hR : 7 ≤ (({ frames := 7, cells := 0, slots := 0, locals := 161 } : Room)).frames ∧ 161 ≤ (({ frames := 7, cells := 0, slots := 0, locals := 161 } : Room)).locals := ⟨Nat.le_refl _, Nat.le_refl _⟩
  rw [f5_judge] at h
  refine sa_aload_n C dX5_judge_0 rfl 0 rfl ?_
  refine sa_iload_n C dX5_judge_1 rfl 1 rfl ?_
  obtain ⟨r1, er1, h⟩ := sl_b h
  refine sa_invVi C yy_X5_wrong ⟨q_1311, q_92⟩ q_1309 dX5_judge_2 (As := [.int x1]) (rest := []) rfl ⟨Nat.le_trans (Nat.le_of_ble_eq_true rfl) hR.1, Nat.le_trans (Nat.le_of_ble_eq_true rfl) hR.2⟩ (Nat.le_of_ble_eq_true rfl) hh_X5 lr_0 (cc5_wrong er1) rfl ?_
  refine sa_istore_n C dX5_judge_5 rfl (by decide) (lv2 := [(3, .int r1), (0, .ref (g 0)), (1, .int x1), (2, .int x2)]) rfl ?_
  refine sa_iload_n C dX5_judge_6 rfl 0 rfl ?_
  refine sa_if_eq C dX5_judge_7 (tgt := 16) (by decide) (fun c2 => ?_) (fun c2 => ?_)
  · replace h := sl_t c2 h
    refine sa_iload_n C dX5_judge_16 rfl 3 rfl ?_
    refine sa_invSi C yy_X5_isAhead q_1106 q_1105 dX5_judge_17 (As := [.int x2]) (rest := []) rfl ⟨Nat.le_trans (Nat.le_of_ble_eq_true rfl) hR.1, Nat.le_trans (Nat.le_of_ble_eq_true rfl) hR.2⟩ (Nat.le_of_ble_eq_true rfl) (cc5_isAhead rfl) rfl ?_
    refine sa_if_ne C dX5_judge_20 (tgt := 30) (by decide) (fun c3 => ?_) (fun c3 => ?_)
    · replace h := sl_n c3 h
      refine sa_aload_n C dX5_judge_30 rfl 1 rfl ?_
      refine sa_iload_n C dX5_judge_31 rfl 3 rfl ?_
      obtain ⟨r4, er4, h⟩ := sl_b h
      refine sa_invVi C yy_X5_isTooFar ⟨q_1111, q_74⟩ q_1109 dX5_judge_32 (As := [.int x2]) (rest := []) rfl ⟨Nat.le_trans (Nat.le_of_ble_eq_true rfl) hR.1, Nat.le_trans (Nat.le_of_ble_eq_true rfl) hR.2⟩ (Nat.le_of_ble_eq_true rfl) hh_X5 lr_0 (cc5_isTooFar er4) rfl ?_
      refine sa_if_eq C dX5_judge_35 (tgt := 45) (by decide) (fun c5 => ?_) (fun c5 => ?_)
      · replace h := sl_t c5 h
        refine sa_aload_n C dX5_judge_45 rfl 1 rfl ?_
        obtain ⟨r6, er6, h⟩ := sl_b h
        refine sa_invVv C yy_X5_puts ⟨q_1115, q_75⟩ q_1113 dX5_judge_46 (As := []) (rest := []) rfl ⟨Nat.le_trans (Nat.le_of_ble_eq_true rfl) hR.1, Nat.le_trans (Nat.le_of_ble_eq_true rfl) hR.2⟩ (Nat.le_of_ble_eq_true rfl) hh_X5 lr_0 (cc5_puts er6) rfl ?_
        refine sa_aload_n C dX5_judge_49 rfl 1 rfl ?_
        refine sa_iload_n C dX5_judge_50 rfl 3 rfl ?_
        obtain ⟨r7, er7, h⟩ := sl_b h
        refine sa_invVv C yy_X5_yearsGo ⟨q_1119, q_76⟩ q_1117 dX5_judge_51 (As := [.int x2]) (rest := []) rfl ⟨Nat.le_trans (Nat.le_of_ble_eq_true rfl) hR.1, Nat.le_trans (Nat.le_of_ble_eq_true rfl) hR.2⟩ (Nat.le_of_ble_eq_true rfl) hh_X5 lr_0 (cc5_yearsGo er7) rfl ?_
        refine sa_iconst C dX5_judge_54 ic_0 ?_
        refine sa_istore C dX5_judge_55 (by decide) (lv2 := [(4, .int (0 : Int32)), (3, .int r1), (0, .ref (g 0)), (1, .int x1), (2, .int x2)]) rfl ?_
        exact sa_sub [2, 3, 0] rfl (w5_judge_57 C hR 400 h)
      · replace h := sl_n c5 h
        refine sa_aload_n C dX5_judge_38 rfl 1 rfl ?_
        refine sa_ldc C dX5_judge_39 q_1056 ?_
        obtain ⟨r8, er8, h⟩ := sl_b h
        refine sa_invVi C yy_X5_finds ⟨q_913, q_54⟩ q_911 dX5_judge_41 (As := [.int (-1000005 : Int32)]) (rest := []) rfl ⟨Nat.le_trans (Nat.le_of_ble_eq_true rfl) hR.1, Nat.le_trans (Nat.le_of_ble_eq_true rfl) hR.2⟩ (Nat.le_of_ble_eq_true rfl) hh_X5 lr_0 (cc5_finds er8) rfl ?_
        exact sa_iret C dX5_judge_44 (sl_p1 h) (sl_p2 h)
    · replace h := sl_t c3 h
      refine sa_aload_n C dX5_judge_23 rfl 1 rfl ?_
      refine sa_ldc C dX5_judge_24 q_910 ?_
      obtain ⟨r9, er9, h⟩ := sl_b h
      refine sa_invVi C yy_X5_finds ⟨q_913, q_54⟩ q_911 dX5_judge_26 (As := [.int (-1000001 : Int32)]) (rest := []) rfl ⟨Nat.le_trans (Nat.le_of_ble_eq_true rfl) hR.1, Nat.le_trans (Nat.le_of_ble_eq_true rfl) hR.2⟩ (Nat.le_of_ble_eq_true rfl) hh_X5 lr_0 (cc5_finds er9) rfl ?_
      exact sa_iret C dX5_judge_29 (sl_p1 h) (sl_p2 h)
  · replace h := sl_n c2 h
    refine sa_aload_n C dX5_judge_10 rfl 1 rfl ?_
    refine sa_iload_n C dX5_judge_11 rfl 0 rfl ?_
    obtain ⟨r10, er10, h⟩ := sl_b h
    refine sa_invVi C yy_X5_finds ⟨q_913, q_54⟩ q_911 dX5_judge_12 (As := [.int r1]) (rest := []) rfl ⟨Nat.le_trans (Nat.le_of_ble_eq_true rfl) hR.1, Nat.le_trans (Nat.le_of_ble_eq_true rfl) hR.2⟩ (Nat.le_of_ble_eq_true rfl) hh_X5 lr_0 (cc5_finds er10) rfl ?_
    exact sa_iret C dX5_judge_15 (sl_p1 h) (sl_p2 h)
/-! X5 image -/
def f5_image_2 : Nat → Int32 → sl_M → Option (Int32 × sl_M)
  | 0, _, _ => none
  | n + 1, x1, M => (if (111 : Int32) ≤ x1 then some ((1 : Int32), (sl_up M 0 4 (1 : Int32))) else (sl_ld (M 1) 111 x1).bind fun v2 => (sl_st M 2 111 x1 v2).bind fun M3 => f5_image_2 n (x1 + (1 : Int32)) M3)
def f5_image (M : sl_M) : Option (Int32 × sl_M) := f5_image_2 400 (0 : Int32) M
theorem w5_image_2 {D : va_G} {cA : ClassId} {g : Nat → Nat} {A : Nat → Prop} {z : sl_K} {l : Launch} {p : Program} {e : Env} {R : Room} {s : State} {m : MethodId} {args : Array Value} {below : List Frame} {meth : Method} {c : Code} (C : sl_C RX5 cX5_image 2 (some .int) sl_cl LR D cA g A z p s m meth c) (hR : 0 ≤ R.frames ∧ 0 ≤ R.locals) {r : Int32 × sl_M} : ∀ (n : Nat) {x1 : Int32} {M : sl_M}, f5_image_2 n x1 M = some r → sl_A sl_cl LR D cA g A p l e R s m args below meth c (MQ below (sl_Q sl_cl LR D cA g A (some (.int r.1)) r.2) args s 0 0 A) 2 2 [(0, .ref (g 0)), (1, .int x1)] [] M := by
  intro n
  induction n with
  | zero =>
    intro x1 M h
    exact absurd h.symm (Option.some_ne_none _)
  | succ n ih =>
    intro x1 M h
    rw [f5_image_2] at h
    refine sa_iload_n C dX5_image_2 rfl 1 rfl ?_
    refine sa_bipush C dX5_image_3 bp_111 ?_
    refine sa_icmp_ge C dX5_image_5 (tgt := 26) (by decide) (fun c1 => ?_) (fun c1 => ?_)
    · replace h := sl_t c1 h
      refine sa_aload_n C dX5_image_26 rfl 0 rfl ?_
      refine sa_iconst C dX5_image_27 ic_1 ?_
      refine sa_put C hh_X5 (k := 4) dX5_image_28 q_841 (by decide) rfl (fty := .boolean) (by decide) rfl rfl lr_0 rfl ?_
      refine sa_iconst C dX5_image_31 ic_1 ?_
      exact sa_iret C dX5_image_32 (sl_p1 h) (sl_p2 h)
    · replace h := sl_n c1 h
      refine sa_aload_n C dX5_image_8 rfl 0 rfl ?_
      refine sa_getR C hh_X5 (k := 1) dX5_image_9 q_838 (by decide) lr_0 rfl ?_
      refine sa_iload_n C dX5_image_12 rfl 1 rfl ?_
      refine sa_aload_n C dX5_image_13 rfl 0 rfl ?_
      refine sa_getR C hh_X5 (k := 0) dX5_image_14 q_837 (by decide) lr_0 rfl ?_
      refine sa_iload_n C dX5_image_17 rfl 1 rfl ?_
      obtain ⟨v2, ev2, h⟩ := sl_b h
      refine sa_iald C dX5_image_18 lr_1 ev2 ?_
      obtain ⟨M3, eM3, h⟩ := sl_b h
      refine sa_iast C dX5_image_19 lr_2 eM3 ?_
      refine sa_iinc C dX5_image_20 1 rfl (v := (x1 + (1 : Int32))) (by rw [ic_1]) (by decide) (lv2 := [(1, .int (x1 + (1 : Int32))), (0, .ref (g 0))]) rfl ?_
      refine sa_goto C dX5_image_23 (tgt := 2) (by decide) ?_
      exact sa_sub [1, 0] rfl (ih h)
theorem cc5_image {D : va_G} {cA : ClassId} {g : Nat → Nat} {A : Nat → Prop} {z : sl_K} {l : Launch} {M : sl_M} {r : Int32 × sl_M} (h : f5_image M = some r) : sl_N sl_cl LR D cA g A z l yX5_image cX5_image 2 (some .int) 0 0 [.ref (g 0)] M (some (.int r.1)) r.2 := by
  refine sl_N.of (by decide) (Nat.le_of_ble_eq_true rfl) rfl ?_
  intro p e s m args below meth c C
  replace C : sl_C RX5 cX5_image 2 (some .int) sl_cl LR D cA g A z p s m meth c := C
  have hR : 0 ≤ (({ frames := 0, cells := 0, slots := 0, locals := 0 } : Room)).frames ∧ 0 ≤ (({ frames := 0, cells := 0, slots := 0, locals := 0 } : Room)).locals := ⟨Nat.le_refl _, Nat.le_refl _⟩
  rw [f5_image] at h
  refine sa_iconst C dX5_image_0 ic_0 ?_
  refine sa_istore_n C dX5_image_1 rfl (by decide) (lv2 := [(1, .int (0 : Int32)), (0, .ref (g 0))]) rfl ?_
  exact sa_sub [1, 0] rfl (w5_image_2 C hR 400 h)
/-! X5 undo -/
def f5_undo_16 : Nat → Int32 → sl_M → Option (Int32 × sl_M)
  | 0, _, _ => none
  | n + 1, x1, M => (if (111 : Int32) ≤ x1 then (sl_ld (M 1) 111 (0 : Int32)).bind fun v2 => some (v2, M) else (sl_ld (M 2) 111 x1).bind fun v3 => (sl_st M 1 111 x1 v3).bind fun M4 => f5_undo_16 n (x1 + (1 : Int32)) M4)
def f5_undo (M : sl_M) : Option (Int32 × sl_M) := (if (M 0 4) = 0 then (f5_finds (-1000004 : Int32) M).bind fun r2 => some (r2.1, r2.2) else f5_undo_16 400 (0 : Int32) M)
theorem w5_undo_16 {D : va_G} {cA : ClassId} {g : Nat → Nat} {A : Nat → Prop} {z : sl_K} {l : Launch} {p : Program} {e : Env} {R : Room} {s : State} {m : MethodId} {args : Array Value} {below : List Frame} {meth : Method} {c : Code} (C : sl_C RX5 cX5_undo 2 (some .int) sl_cl LR D cA g A z p s m meth c) (hR : 1 ≤ R.frames ∧ 21 ≤ R.locals) {r : Int32 × sl_M} : ∀ (n : Nat) {x1 : Int32} {M : sl_M}, f5_undo_16 n x1 M = some r → sl_A sl_cl LR D cA g A p l e R s m args below meth c (MQ below (sl_Q sl_cl LR D cA g A (some (.int r.1)) r.2) args s 0 0 A) 2 16 [(0, .ref (g 0)), (1, .int x1)] [] M := by
  intro n
  induction n with
  | zero =>
    intro x1 M h
    exact absurd h.symm (Option.some_ne_none _)
  | succ n ih =>
    intro x1 M h
    rw [f5_undo_16] at h
    refine sa_iload_n C dX5_undo_16 rfl 1 rfl ?_
    refine sa_bipush C dX5_undo_17 bp_111 ?_
    refine sa_icmp_ge C dX5_undo_19 (tgt := 40) (by decide) (fun c1 => ?_) (fun c1 => ?_)
    · replace h := sl_t c1 h
      refine sa_aload_n C dX5_undo_40 rfl 0 rfl ?_
      refine sa_getR C hh_X5 (k := 0) dX5_undo_41 q_837 (by decide) lr_0 rfl ?_
      refine sa_iconst C dX5_undo_44 ic_0 ?_
      obtain ⟨v2, ev2, h⟩ := sl_b h
      refine sa_iald C dX5_undo_45 lr_1 ev2 ?_
      exact sa_iret C dX5_undo_46 (sl_p1 h) (sl_p2 h)
    · replace h := sl_n c1 h
      refine sa_aload_n C dX5_undo_22 rfl 0 rfl ?_
      refine sa_getR C hh_X5 (k := 0) dX5_undo_23 q_837 (by decide) lr_0 rfl ?_
      refine sa_iload_n C dX5_undo_26 rfl 1 rfl ?_
      refine sa_aload_n C dX5_undo_27 rfl 0 rfl ?_
      refine sa_getR C hh_X5 (k := 1) dX5_undo_28 q_838 (by decide) lr_0 rfl ?_
      refine sa_iload_n C dX5_undo_31 rfl 1 rfl ?_
      obtain ⟨v3, ev3, h⟩ := sl_b h
      refine sa_iald C dX5_undo_32 lr_2 ev3 ?_
      obtain ⟨M4, eM4, h⟩ := sl_b h
      refine sa_iast C dX5_undo_33 lr_1 eM4 ?_
      refine sa_iinc C dX5_undo_34 1 rfl (v := (x1 + (1 : Int32))) (by rw [ic_1]) (by decide) (lv2 := [(1, .int (x1 + (1 : Int32))), (0, .ref (g 0))]) rfl ?_
      refine sa_goto C dX5_undo_37 (tgt := 16) (by decide) ?_
      exact sa_sub [1, 0] rfl (ih h)
theorem cc5_undo {D : va_G} {cA : ClassId} {g : Nat → Nat} {A : Nat → Prop} {z : sl_K} {l : Launch} {M : sl_M} {r : Int32 × sl_M} (h : f5_undo M = some r) : sl_N sl_cl LR D cA g A z l yX5_undo cX5_undo 2 (some .int) 1 21 [.ref (g 0)] M (some (.int r.1)) r.2 := by
  refine sl_N.of (by decide) (Nat.le_of_ble_eq_true rfl) rfl ?_
  intro p e s m args below meth c C
  replace C : sl_C RX5 cX5_undo 2 (some .int) sl_cl LR D cA g A z p s m meth c := C
  have hR : 1 ≤ (({ frames := 1, cells := 0, slots := 0, locals := 21 } : Room)).frames ∧ 21 ≤ (({ frames := 1, cells := 0, slots := 0, locals := 21 } : Room)).locals := ⟨Nat.le_refl _, Nat.le_refl _⟩
  rw [f5_undo] at h
  refine sa_aload_n C dX5_undo_0 rfl 0 rfl ?_
  refine sa_getI C hh_X5 (k := 4) dX5_undo_1 q_841 (by decide) lr_0 rfl ?_
  refine sa_if_ne C dX5_undo_4 (tgt := 14) (by decide) (fun c1 => ?_) (fun c1 => ?_)
  · replace h := sl_n c1 h
    refine sa_iconst C dX5_undo_14 ic_0 ?_
    refine sa_istore_n C dX5_undo_15 rfl (by decide) (lv2 := [(1, .int (0 : Int32)), (0, .ref (g 0))]) rfl ?_
    exact sa_sub [1, 0] rfl (w5_undo_16 C hR 400 h)
  · replace h := sl_t c1 h
    refine sa_aload_n C dX5_undo_7 rfl 0 rfl ?_
    refine sa_ldc C dX5_undo_8 q_1057 ?_
    obtain ⟨r2, er2, h⟩ := sl_b h
    refine sa_invVi C yy_X5_finds ⟨q_913, q_54⟩ q_911 dX5_undo_10 (As := [.int (-1000004 : Int32)]) (rest := []) rfl ⟨Nat.le_trans (Nat.le_of_ble_eq_true rfl) hR.1, Nat.le_trans (Nat.le_of_ble_eq_true rfl) hR.2⟩ (Nat.le_of_ble_eq_true rfl) hh_X5 lr_0 (cc5_finds er2) rfl ?_
    exact sa_iret C dX5_undo_13 (sl_p1 h) (sl_p2 h)
/-! X5 tear -/
def f5_tear_12 (t0 : Int32) (M : sl_M) : Option (Int32 × sl_M) := some (t0, (sl_up M 0 4 (0 : Int32)))
def f5_tear (M : sl_M) : Option (Int32 × sl_M) := (if (M 0 4) = 0 then f5_tear_12 (0 : Int32) M else f5_tear_12 (1 : Int32) M)
theorem w5_tear_12 {D : va_G} {cA : ClassId} {g : Nat → Nat} {A : Nat → Prop} {z : sl_K} {l : Launch} {p : Program} {e : Env} {R : Room} {s : State} {m : MethodId} {args : Array Value} {below : List Frame} {meth : Method} {c : Code} (C : sl_C RX5 cX5_tear 2 (some .int) sl_cl LR D cA g A z p s m meth c) (hR : 0 ≤ R.frames ∧ 0 ≤ R.locals) {M : sl_M} {r : Int32 × sl_M} {t0 : Int32} (h : f5_tear_12 t0 M = some r) : sl_A sl_cl LR D cA g A p l e R s m args below meth c (MQ below (sl_Q sl_cl LR D cA g A (some (.int r.1)) r.2) args s 0 0 A) 2 12 [(0, .ref (g 0))] [.int t0] M := by
  rw [f5_tear_12] at h
  refine sa_istore_n C dX5_tear_12 rfl (by decide) (lv2 := [(1, .int t0), (0, .ref (g 0))]) rfl ?_
  refine sa_aload_n C dX5_tear_13 rfl 1 rfl ?_
  refine sa_iconst C dX5_tear_14 ic_0 ?_
  refine sa_put C hh_X5 (k := 4) dX5_tear_15 q_841 (by decide) rfl (fty := .boolean) (by decide) rfl rfl lr_0 rfl ?_
  refine sa_iload_n C dX5_tear_18 rfl 0 rfl ?_
  exact sa_iret C dX5_tear_19 (sl_p1 h) (sl_p2 h)
theorem cc5_tear {D : va_G} {cA : ClassId} {g : Nat → Nat} {A : Nat → Prop} {z : sl_K} {l : Launch} {M : sl_M} {r : Int32 × sl_M} (h : f5_tear M = some r) : sl_N sl_cl LR D cA g A z l yX5_tear cX5_tear 2 (some .int) 0 0 [.ref (g 0)] M (some (.int r.1)) r.2 := by
  refine sl_N.of (by decide) (Nat.le_of_ble_eq_true rfl) rfl ?_
  intro p e s m args below meth c C
  replace C : sl_C RX5 cX5_tear 2 (some .int) sl_cl LR D cA g A z p s m meth c := C
  have hR : 0 ≤ (({ frames := 0, cells := 0, slots := 0, locals := 0 } : Room)).frames ∧ 0 ≤ (({ frames := 0, cells := 0, slots := 0, locals := 0 } : Room)).locals := ⟨Nat.le_refl _, Nat.le_refl _⟩
  rw [f5_tear] at h
  refine sa_aload_n C dX5_tear_0 rfl 0 rfl ?_
  refine sa_getI C hh_X5 (k := 4) dX5_tear_1 q_841 (by decide) lr_0 rfl ?_
  refine sa_if_eq C dX5_tear_4 (tgt := 11) (by decide) (fun c1 => ?_) (fun c1 => ?_)
  · replace h := sl_t c1 h
    refine sa_iconst C dX5_tear_11 ic_0 ?_
    exact sa_sub [0] rfl (w5_tear_12 C hR h)
  · replace h := sl_n c1 h
    refine sa_iconst C dX5_tear_7 ic_1 ?_
    refine sa_goto C dX5_tear_8 (tgt := 12) (by decide) ?_
    exact sa_sub [0] rfl (w5_tear_12 C hR h)
/-! X5 count -/
def f5_count_87 : Nat → Int32 → Int32 → sl_M → Option (Int32 × sl_M)
  | 0, _, _, _ => none
  | n + 1, x2, x3, M => (if (10 : Int32) ≤ x3 then some (x2, M) else (sl_ld (M 1) 111 ((101 : Int32) + x3)).bind fun v2 => (if 0 ≤ v2 then f5_count_87 n (x2 + (1 : Int32)) (x3 + (1 : Int32)) M else f5_count_87 n (x2 + (0 : Int32)) (x3 + (1 : Int32)) M))
def f5_count (x1 : Int32) (M : sl_M) : Option (Int32 × sl_M) := (if x1 = (0 : Int32) then (sl_ld (M 1) 111 (0 : Int32)).bind fun v2 => some (v2, M) else (if x1 = (1 : Int32) then (sl_ld (M 1) 111 (1 : Int32)).bind fun v4 => some (v4, M) else (if x1 = (2 : Int32) then (f5_allTax M).bind fun r6 => some (r6, M) else (if x1 = (3 : Int32) then (f5_findSights M).bind fun r8 => (f5_ones r8.1).bind fun r9 => some (r9, r8.2) else (if x1 = (4 : Int32) then some ((M 0 11), M) else (if x1 = (5 : Int32) then (sl_ld (M 1) 111 (4 : Int32)).bind fun v12 => some (v12, M) else (if x1 = (6 : Int32) then f5_count_87 400 (0 : Int32) (0 : Int32) M else (f5_finds (-1000001 : Int32) M).bind fun r14 => some (r14.1, r14.2))))))))
theorem w5_count_87 {D : va_G} {cA : ClassId} {g : Nat → Nat} {A : Nat → Prop} {z : sl_K} {l : Launch} {p : Program} {e : Env} {R : Room} {s : State} {m : MethodId} {args : Array Value} {below : List Frame} {meth : Method} {c : Code} (C : sl_C RX5 cX5_count 4 (some .int) sl_cl LR D cA g A z p s m meth c) (hR : 8 ≤ R.frames ∧ 183 ≤ R.locals) {r : Int32 × sl_M} : ∀ (n : Nat) {x2 : Int32} {x3 : Int32} {M : sl_M}, f5_count_87 n x2 x3 M = some r → sl_A sl_cl LR D cA g A p l e R s m args below meth c (MQ below (sl_Q sl_cl LR D cA g A (some (.int r.1)) r.2) args s 0 0 A) 4 87 [(0, .ref (g 0)), (2, .int x2), (3, .int x3)] [] M := by
  intro n
  induction n with
  | zero =>
    intro x2 x3 M h
    exact absurd h.symm (Option.some_ne_none _)
  | succ n ih =>
    intro x2 x3 M h
    rw [f5_count_87] at h
    refine sa_iload_n C dX5_count_87 rfl 2 rfl ?_
    refine sa_bipush C dX5_count_88 bp_10 ?_
    refine sa_icmp_ge C dX5_count_90 (tgt := 119) (by decide) (fun c1 => ?_) (fun c1 => ?_)
    · replace h := sl_t c1 h
      refine sa_iload_n C dX5_count_119 rfl 1 rfl ?_
      exact sa_iret C dX5_count_120 (sl_p1 h) (sl_p2 h)
    · replace h := sl_n c1 h
      refine sa_iload_n C dX5_count_93 rfl 1 rfl ?_
      refine sa_aload_n C dX5_count_94 rfl 0 rfl ?_
      refine sa_getR C hh_X5 (k := 0) dX5_count_95 q_837 (by decide) lr_0 rfl ?_
      refine sa_bipush C dX5_count_98 bp_101 ?_
      refine sa_iload_n C dX5_count_100 rfl 2 rfl ?_
      refine sa_iadd C dX5_count_101 ?_
      obtain ⟨v2, ev2, h⟩ := sl_b h
      refine sa_iald C dX5_count_102 lr_1 ev2 ?_
      refine sa_if_ge C dX5_count_103 (tgt := 110) (by decide) (fun c3 => ?_) (fun c3 => ?_)
      · replace h := sl_t c3 h
        refine sa_iconst C dX5_count_110 ic_1 ?_
        refine sa_iadd C dX5_count_111 ?_
        refine sa_istore_n C dX5_count_112 rfl (by decide) (lv2 := [(2, .int (x2 + (1 : Int32))), (0, .ref (g 0)), (3, .int x3)]) rfl ?_
        refine sa_iinc C dX5_count_113 2 rfl (v := (x3 + (1 : Int32))) (by rw [ic_1]) (by decide) (lv2 := [(3, .int (x3 + (1 : Int32))), (2, .int (x2 + (1 : Int32))), (0, .ref (g 0))]) rfl ?_
        refine sa_goto C dX5_count_116 (tgt := 87) (by decide) ?_
        exact sa_sub [2, 1, 0] rfl (ih h)
      · replace h := sl_n c3 h
        refine sa_iconst C dX5_count_106 ic_0 ?_
        refine sa_goto C dX5_count_107 (tgt := 111) (by decide) ?_
        refine sa_iadd C dX5_count_111 ?_
        refine sa_istore_n C dX5_count_112 rfl (by decide) (lv2 := [(2, .int (x2 + (0 : Int32))), (0, .ref (g 0)), (3, .int x3)]) rfl ?_
        refine sa_iinc C dX5_count_113 2 rfl (v := (x3 + (1 : Int32))) (by rw [ic_1]) (by decide) (lv2 := [(3, .int (x3 + (1 : Int32))), (2, .int (x2 + (0 : Int32))), (0, .ref (g 0))]) rfl ?_
        refine sa_goto C dX5_count_116 (tgt := 87) (by decide) ?_
        exact sa_sub [2, 1, 0] rfl (ih h)
theorem cc5_count {D : va_G} {cA : ClassId} {g : Nat → Nat} {A : Nat → Prop} {z : sl_K} {l : Launch} {x1 : Int32} {M : sl_M} {r : Int32 × sl_M} (h : f5_count x1 M = some r) : sl_N sl_cl LR D cA g A z l yX5_count cX5_count 4 (some .int) 8 183 [.ref (g 0), .int x1] M (some (.int r.1)) r.2 := by
  refine sl_N.of (by decide) (Nat.le_of_ble_eq_true rfl) rfl ?_
  intro p e s m args below meth c C
  replace C : sl_C RX5 cX5_count 4 (some .int) sl_cl LR D cA g A z p s m meth c := C
  have hR : 8 ≤ (({ frames := 8, cells := 0, slots := 0, locals := 183 } : Room)).frames ∧ 183 ≤ (({ frames := 8, cells := 0, slots := 0, locals := 183 } : Room)).locals := ⟨Nat.le_refl _, Nat.le_refl _⟩
  rw [f5_count] at h
  refine sa_iload_n C dX5_count_0 rfl 1 rfl ?_
  by_cases c1 : x1 = (0 : Int32)
  · replace h := sl_t c1 h
    refine sa_swIn C dX5_count_1 c1 (k := (0 : Int32)) ⟨by decide, by decide, rfl⟩ (tgt := 44) (by decide) ?_
    refine sa_aload_n C dX5_count_44 rfl 0 rfl ?_
    refine sa_getR C hh_X5 (k := 0) dX5_count_45 q_837 (by decide) lr_0 rfl ?_
    refine sa_iconst C dX5_count_48 ic_0 ?_
    obtain ⟨v2, ev2, h⟩ := sl_b h
    refine sa_iald C dX5_count_49 lr_1 ev2 ?_
    exact sa_iret C dX5_count_50 (sl_p1 h) (sl_p2 h)
  · replace h := sl_n c1 h
    by_cases c3 : x1 = (1 : Int32)
    · replace h := sl_t c3 h
      refine sa_swIn C dX5_count_1 c3 (k := (1 : Int32)) ⟨by decide, by decide, rfl⟩ (tgt := 51) (by decide) ?_
      refine sa_aload_n C dX5_count_51 rfl 0 rfl ?_
      refine sa_getR C hh_X5 (k := 0) dX5_count_52 q_837 (by decide) lr_0 rfl ?_
      refine sa_iconst C dX5_count_55 ic_1 ?_
      obtain ⟨v4, ev4, h⟩ := sl_b h
      refine sa_iald C dX5_count_56 lr_1 ev4 ?_
      exact sa_iret C dX5_count_57 (sl_p1 h) (sl_p2 h)
    · replace h := sl_n c3 h
      by_cases c5 : x1 = (2 : Int32)
      · replace h := sl_t c5 h
        refine sa_swIn C dX5_count_1 c5 (k := (2 : Int32)) ⟨by decide, by decide, rfl⟩ (tgt := 58) (by decide) ?_
        refine sa_aload_n C dX5_count_58 rfl 0 rfl ?_
        obtain ⟨r6, er6, h⟩ := sl_b h
        refine sa_invVi C yy_X5_allTax ⟨q_1072, q_72⟩ q_1070 dX5_count_59 (As := []) (rest := []) rfl ⟨Nat.le_trans (Nat.le_of_ble_eq_true rfl) hR.1, Nat.le_trans (Nat.le_of_ble_eq_true rfl) hR.2⟩ (Nat.le_of_ble_eq_true rfl) hh_X5 lr_0 (cc5_allTax er6) rfl ?_
        exact sa_iret C dX5_count_62 (sl_p1 h) (sl_p2 h)
      · replace h := sl_n c5 h
        by_cases c7 : x1 = (3 : Int32)
        · replace h := sl_t c7 h
          refine sa_swIn C dX5_count_1 c7 (k := (3 : Int32)) ⟨by decide, by decide, rfl⟩ (tgt := 63) (by decide) ?_
          refine sa_aload_n C dX5_count_63 rfl 0 rfl ?_
          obtain ⟨r8, er8, h⟩ := sl_b h
          refine sa_invVi C yy_X5_findSights ⟨q_1151, q_79⟩ q_1149 dX5_count_64 (As := []) (rest := []) rfl ⟨Nat.le_trans (Nat.le_of_ble_eq_true rfl) hR.1, Nat.le_trans (Nat.le_of_ble_eq_true rfl) hR.2⟩ (Nat.le_of_ble_eq_true rfl) hh_X5 lr_0 (cc5_findSights er8) rfl ?_
          obtain ⟨r9, er9, h⟩ := sl_b h
          refine sa_invSi C yy_X5_ones q_1087 q_1086 dX5_count_67 (As := [.int r8.1]) (rest := []) rfl ⟨Nat.le_trans (Nat.le_of_ble_eq_true rfl) hR.1, Nat.le_trans (Nat.le_of_ble_eq_true rfl) hR.2⟩ (Nat.le_of_ble_eq_true rfl) (cc5_ones er9) rfl ?_
          exact sa_iret C dX5_count_70 (sl_p1 h) (sl_p2 h)
        · replace h := sl_n c7 h
          by_cases c10 : x1 = (4 : Int32)
          · replace h := sl_t c10 h
            refine sa_swIn C dX5_count_1 c10 (k := (4 : Int32)) ⟨by decide, by decide, rfl⟩ (tgt := 71) (by decide) ?_
            refine sa_aload_n C dX5_count_71 rfl 0 rfl ?_
            refine sa_getI C hh_X5 (k := 11) dX5_count_72 q_848 (by decide) lr_0 rfl ?_
            exact sa_iret C dX5_count_75 (sl_p1 h) (sl_p2 h)
          · replace h := sl_n c10 h
            by_cases c11 : x1 = (5 : Int32)
            · replace h := sl_t c11 h
              refine sa_swIn C dX5_count_1 c11 (k := (5 : Int32)) ⟨by decide, by decide, rfl⟩ (tgt := 76) (by decide) ?_
              refine sa_aload_n C dX5_count_76 rfl 0 rfl ?_
              refine sa_getR C hh_X5 (k := 0) dX5_count_77 q_837 (by decide) lr_0 rfl ?_
              refine sa_iconst C dX5_count_80 ic_4 ?_
              obtain ⟨v12, ev12, h⟩ := sl_b h
              refine sa_iald C dX5_count_81 lr_1 ev12 ?_
              exact sa_iret C dX5_count_82 (sl_p1 h) (sl_p2 h)
            · replace h := sl_n c11 h
              by_cases c13 : x1 = (6 : Int32)
              · replace h := sl_t c13 h
                refine sa_swIn C dX5_count_1 c13 (k := (6 : Int32)) ⟨by decide, by decide, rfl⟩ (tgt := 83) (by decide) ?_
                refine sa_iconst C dX5_count_83 ic_0 ?_
                refine sa_istore_n C dX5_count_84 rfl (by decide) (lv2 := [(2, .int (0 : Int32)), (0, .ref (g 0)), (1, .int x1)]) rfl ?_
                refine sa_iconst C dX5_count_85 ic_0 ?_
                refine sa_istore_n C dX5_count_86 rfl (by decide) (lv2 := [(3, .int (0 : Int32)), (2, .int (0 : Int32)), (0, .ref (g 0)), (1, .int x1)]) rfl ?_
                exact sa_sub [2, 1, 0] rfl (w5_count_87 C hR 400 h)
              · replace h := sl_n c13 h
                refine sa_swOut C dX5_count_1 (by have := lv_neT (a := 0) c1 (by decide); have := lv_neT (a := 1) c3 (by decide); have := lv_neT (a := 2) c5 (by decide); have := lv_neT (a := 3) c7 (by decide); have := lv_neT (a := 4) c10 (by decide); have := lv_neT (a := 5) c11 (by decide); have := lv_neT (a := 6) c13 (by decide); omega) (tgt := 121) (by decide) ?_
                refine sa_aload_n C dX5_count_121 rfl 0 rfl ?_
                refine sa_ldc C dX5_count_122 q_910 ?_
                obtain ⟨r14, er14, h⟩ := sl_b h
                refine sa_invVi C yy_X5_finds ⟨q_913, q_54⟩ q_911 dX5_count_124 (As := [.int (-1000001 : Int32)]) (rest := []) rfl ⟨Nat.le_trans (Nat.le_of_ble_eq_true rfl) hR.1, Nat.le_trans (Nat.le_of_ble_eq_true rfl) hR.2⟩ (Nat.le_of_ble_eq_true rfl) hh_X5 lr_0 (cc5_finds er14) rfl ?_
                exact sa_iret C dX5_count_127 (sl_p1 h) (sl_p2 h)
/-! X5 status -/
def f5_status_41 (k25 : Int32 → Int32 → sl_M → Option (Int32 × sl_M)) (x1 : Int32) (x3 : Int32) (t0 : Int32) (M : sl_M) : Option (Int32 × sl_M) := (sl_ld (M 4) 7 x3).bind fun v1 => k25 (t0 + v1) (x3 + (1 : Int32)) M
def f5_status_25 (x1 : Int32) : Nat → Int32 → Int32 → sl_M → Option (Int32 × sl_M)
  | 0, _, _, _ => none
  | n + 1, x2, x3, M => (if (7 : Int32) ≤ x3 then some (x2, M) else (if x1 < 0 then f5_status_41 (f5_status_25 x1 n) x1 x3 x2 M else (if x3 = x1 then f5_status_41 (f5_status_25 x1 n) x1 x3 x2 M else f5_status_25 x1 n (x2 + (0 : Int32)) (x3 + (1 : Int32)) M)))
def f5_status (x1 : Int32) (M : sl_M) : Option (Int32 × sl_M) := (if (f5_in x1.toInt64 (-1 : Int64) (6 : Int64)) = 0 then (f5_finds (-1000001 : Int32) M).bind fun r2 => some (r2.1, r2.2) else f5_status_25 x1 400 (0 : Int32) (0 : Int32) M)
theorem w5_status_41 {D : va_G} {cA : ClassId} {g : Nat → Nat} {A : Nat → Prop} {z : sl_K} {l : Launch} {p : Program} {e : Env} {R : Room} {s : State} {m : MethodId} {args : Array Value} {below : List Frame} {meth : Method} {c : Code} (C : sl_C RX5 cX5_status 4 (some .int) sl_cl LR D cA g A z p s m meth c) (hR : 1 ≤ R.frames ∧ 25 ≤ R.locals) {M : sl_M} {r : Int32 × sl_M} {x1 : Int32} {x3 : Int32} {t0 : Int32} {k25 : Int32 → Int32 → sl_M → Option (Int32 × sl_M)} (hk25 : ∀ {x2 : Int32} {x3 : Int32} {M : sl_M}, k25 x2 x3 M = some r → sl_A sl_cl LR D cA g A p l e R s m args below meth c (MQ below (sl_Q sl_cl LR D cA g A (some (.int r.1)) r.2) args s 0 0 A) 4 25 [(0, .ref (g 0)), (1, .int x1), (2, .int x2), (3, .int x3)] [] M) (h : f5_status_41 k25 x1 x3 t0 M = some r) : sl_A sl_cl LR D cA g A p l e R s m args below meth c (MQ below (sl_Q sl_cl LR D cA g A (some (.int r.1)) r.2) args s 0 0 A) 4 41 [(0, .ref (g 0)), (1, .int x1), (3, .int x3)] [.int t0] M := by
  rw [f5_status_41] at h
  refine sa_aload_n C dX5_status_41 rfl 0 rfl ?_
  refine sa_getR C hh_X5 (k := 3) dX5_status_42 q_840 (by decide) lr_0 rfl ?_
  refine sa_iload_n C dX5_status_45 rfl 2 rfl ?_
  obtain ⟨v1, ev1, h⟩ := sl_b h
  refine sa_iald C dX5_status_46 lr_4 ev1 ?_
  refine sa_goto C dX5_status_47 (tgt := 51) (by decide) ?_
  refine sa_iadd C dX5_status_51 ?_
  refine sa_istore_n C dX5_status_52 rfl (by decide) (lv2 := [(2, .int (t0 + v1)), (0, .ref (g 0)), (1, .int x1), (3, .int x3)]) rfl ?_
  refine sa_iinc C dX5_status_53 3 rfl (v := (x3 + (1 : Int32))) (by rw [ic_1]) (by decide) (lv2 := [(3, .int (x3 + (1 : Int32))), (2, .int (t0 + v1)), (0, .ref (g 0)), (1, .int x1)]) rfl ?_
  refine sa_goto C dX5_status_56 (tgt := 25) (by decide) ?_
  exact sa_sub [2, 3, 1, 0] rfl (hk25 h)
theorem w5_status_25 {D : va_G} {cA : ClassId} {g : Nat → Nat} {A : Nat → Prop} {z : sl_K} {l : Launch} {p : Program} {e : Env} {R : Room} {s : State} {m : MethodId} {args : Array Value} {below : List Frame} {meth : Method} {c : Code} (C : sl_C RX5 cX5_status 4 (some .int) sl_cl LR D cA g A z p s m meth c) (hR : 1 ≤ R.frames ∧ 25 ≤ R.locals) {r : Int32 × sl_M} {x1 : Int32} : ∀ (n : Nat) {x2 : Int32} {x3 : Int32} {M : sl_M}, f5_status_25 x1 n x2 x3 M = some r → sl_A sl_cl LR D cA g A p l e R s m args below meth c (MQ below (sl_Q sl_cl LR D cA g A (some (.int r.1)) r.2) args s 0 0 A) 4 25 [(0, .ref (g 0)), (1, .int x1), (2, .int x2), (3, .int x3)] [] M := by
  intro n
  induction n with
  | zero =>
    intro x2 x3 M h
    exact absurd h.symm (Option.some_ne_none _)
  | succ n ih =>
    intro x2 x3 M h
    rw [f5_status_25] at h
    refine sa_iload_n C dX5_status_25 rfl 3 rfl ?_
    refine sa_bipush C dX5_status_26 bp_7 ?_
    refine sa_icmp_ge C dX5_status_28 (tgt := 59) (by decide) (fun c1 => ?_) (fun c1 => ?_)
    · replace h := sl_t c1 h
      refine sa_iload_n C dX5_status_59 rfl 2 rfl ?_
      exact sa_iret C dX5_status_60 (sl_p1 h) (sl_p2 h)
    · replace h := sl_n c1 h
      refine sa_iload_n C dX5_status_31 rfl 2 rfl ?_
      refine sa_iload_n C dX5_status_32 rfl 1 rfl ?_
      refine sa_if_lt C dX5_status_33 (tgt := 41) (by decide) (fun c2 => ?_) (fun c2 => ?_)
      · replace h := sl_t c2 h
        exact sa_sub [0, 1, 3] rfl (w5_status_41 C hR (fun h => ih h) h)
      · replace h := sl_n c2 h
        refine sa_iload_n C dX5_status_36 rfl 3 rfl ?_
        refine sa_iload_n C dX5_status_37 rfl 1 rfl ?_
        refine sa_icmp_ne C dX5_status_38 (tgt := 50) (by decide) (fun c3 => ?_) (fun c3 => ?_)
        · replace h := sl_n c3 h
          refine sa_iconst C dX5_status_50 ic_0 ?_
          refine sa_iadd C dX5_status_51 ?_
          refine sa_istore_n C dX5_status_52 rfl (by decide) (lv2 := [(2, .int (x2 + (0 : Int32))), (0, .ref (g 0)), (1, .int x1), (3, .int x3)]) rfl ?_
          refine sa_iinc C dX5_status_53 3 rfl (v := (x3 + (1 : Int32))) (by rw [ic_1]) (by decide) (lv2 := [(3, .int (x3 + (1 : Int32))), (2, .int (x2 + (0 : Int32))), (0, .ref (g 0)), (1, .int x1)]) rfl ?_
          refine sa_goto C dX5_status_56 (tgt := 25) (by decide) ?_
          exact sa_sub [2, 3, 1, 0] rfl (ih h)
        · replace h := sl_t c3 h
          exact sa_sub [0, 1, 3] rfl (w5_status_41 C hR (fun h => ih h) h)
theorem cc5_status {D : va_G} {cA : ClassId} {g : Nat → Nat} {A : Nat → Prop} {z : sl_K} {l : Launch} {x1 : Int32} {M : sl_M} {r : Int32 × sl_M} (h : f5_status x1 M = some r) : sl_N sl_cl LR D cA g A z l yX5_status cX5_status 4 (some .int) 1 25 [.ref (g 0), .int x1] M (some (.int r.1)) r.2 := by
  refine sl_N.of (by decide) (Nat.le_of_ble_eq_true rfl) rfl ?_
  intro p e s m args below meth c C
  replace C : sl_C RX5 cX5_status 4 (some .int) sl_cl LR D cA g A z p s m meth c := C
  have hR : 1 ≤ (({ frames := 1, cells := 0, slots := 0, locals := 25 } : Room)).frames ∧ 25 ≤ (({ frames := 1, cells := 0, slots := 0, locals := 25 } : Room)).locals := ⟨Nat.le_refl _, Nat.le_refl _⟩
  rw [f5_status] at h
  refine sa_iload_n C dX5_status_0 rfl 1 rfl ?_
  refine sa_i2l C dX5_status_1 ?_
  refine sa_ldc2 C dX5_status_2 q_1290 ?_
  refine sa_ldc2 C dX5_status_5 q_922 ?_
  refine sa_invSi C yy_X5_in q_907 q_906 dX5_status_8 (As := [.long x1.toInt64, .long (-1 : Int64), .long (6 : Int64)]) (rest := []) rfl ⟨Nat.le_trans (Nat.le_of_ble_eq_true rfl) hR.1, Nat.le_trans (Nat.le_of_ble_eq_true rfl) hR.2⟩ (Nat.le_of_ble_eq_true rfl) (cc5_in rfl) rfl ?_
  refine sa_if_ne C dX5_status_11 (tgt := 21) (by decide) (fun c1 => ?_) (fun c1 => ?_)
  · replace h := sl_n c1 h
    refine sa_iconst C dX5_status_21 ic_0 ?_
    refine sa_istore_n C dX5_status_22 rfl (by decide) (lv2 := [(2, .int (0 : Int32)), (0, .ref (g 0)), (1, .int x1)]) rfl ?_
    refine sa_iconst C dX5_status_23 ic_0 ?_
    refine sa_istore_n C dX5_status_24 rfl (by decide) (lv2 := [(3, .int (0 : Int32)), (2, .int (0 : Int32)), (0, .ref (g 0)), (1, .int x1)]) rfl ?_
    exact sa_sub [2, 3, 1, 0] rfl (w5_status_25 C hR 400 h)
  · replace h := sl_t c1 h
    refine sa_aload_n C dX5_status_14 rfl 0 rfl ?_
    refine sa_ldc C dX5_status_15 q_910 ?_
    obtain ⟨r2, er2, h⟩ := sl_b h
    refine sa_invVi C yy_X5_finds ⟨q_913, q_54⟩ q_911 dX5_status_17 (As := [.int (-1000001 : Int32)]) (rest := []) rfl ⟨Nat.le_trans (Nat.le_of_ble_eq_true rfl) hR.1, Nat.le_trans (Nat.le_of_ble_eq_true rfl) hR.2⟩ (Nat.le_of_ble_eq_true rfl) hh_X5 lr_0 (cc5_finds er2) rfl ?_
    exact sa_iret C dX5_status_20 (sl_p1 h) (sl_p2 h)
