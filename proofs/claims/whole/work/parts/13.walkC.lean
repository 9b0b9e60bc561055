/-! X4 isWithin -/
def f4_isWithin (x0 : Int32) (x1 : Int32) (x2 : Int32) : Int32 := (if x0 < x1 then (0 : Int32) else (if x2 < x0 then (0 : Int32) else (1 : Int32)))
theorem f4_isWithin_b {x0 : Int32} {x1 : Int32} {x2 : Int32} : f4_isWithin x0 x1 x2 = 0 ∨ f4_isWithin x0 x1 x2 = 1 := by
  rw [f4_isWithin]
  first | exact if_b | ((repeat' split) <;> first | exact Or.inl rfl | exact Or.inr rfl)
theorem cc4_isWithin {D : va_G} {cA : ClassId} {g : Nat → Nat} {A : Nat → Prop} {z : sl_K} {l : Launch} {x0 : Int32} {x1 : Int32} {x2 : Int32} {M : sl_M} {r : Int32} (h : f4_isWithin x0 x1 x2 = r) : sl_N sl_cl LX D cA g A z l yX4_isWithin cX4_isWithin 3 (some .boolean) 0 0 [.int x0, .int x1, .int x2] M (some (.int r)) M := by
  refine sl_N.of (by decide) (Nat.le_of_ble_eq_true rfl) rfl ?_
  intro p e s m args below meth c C
  replace C : sl_C RX4 cX4_isWithin 3 (some .boolean) sl_cl LX D cA g A z p s m meth c := C
  have hR : 0 ≤ (({ frames := 0, cells := 0, slots := 0, locals := 0 } : Room)).frames ∧ 0 ≤ (({ frames := 0, cells := 0, slots := 0, locals := 0 } : Room)).locals := ⟨Nat.le_refl _, Nat.le_refl _⟩
  rw [f4_isWithin] at h
  refine sa_iload_n C dX4_isWithin_0 rfl 0 rfl ?_
  refine sa_iload_n C dX4_isWithin_1 rfl 1 rfl ?_
  refine sa_icmp_lt C dX4_isWithin_2 (tgt := 14) (by decide) (fun c1 => ?_) (fun c1 => ?_)
  · replace h := sl_t c1 h
    refine sa_iconst C dX4_isWithin_14 ic_0 ?_
    exact sa_zret C dX4_isWithin_15 (Or.inl rfl) h rfl
  · replace h := sl_n c1 h
    refine sa_iload_n C dX4_isWithin_5 rfl 0 rfl ?_
    refine sa_iload_n C dX4_isWithin_6 rfl 2 rfl ?_
    refine sa_icmp_gt C dX4_isWithin_7 (tgt := 14) (by decide) (fun c2 => ?_) (fun c2 => ?_)
    · replace h := sl_t c2 h
      refine sa_iconst C dX4_isWithin_14 ic_0 ?_
      exact sa_zret C dX4_isWithin_15 (Or.inl rfl) h rfl
    · replace h := sl_n c2 h
      refine sa_iconst C dX4_isWithin_10 ic_1 ?_
      refine sa_goto C dX4_isWithin_11 (tgt := 15) (by decide) ?_
      exact sa_zret C dX4_isWithin_15 (Or.inr rfl) h rfl
/-! X4 isCell -/
def f4_isCell (x0 : Int32) : Int32 := (f4_isWithin x0 (0 : Int32) (23 : Int32))
theorem f4_isCell_b {x0 : Int32} : f4_isCell x0 = 0 ∨ f4_isCell x0 = 1 := by
  rw [f4_isCell]
  first | exact f4_isWithin_b | ((repeat' split) <;> first | exact Or.inl rfl | exact Or.inr rfl)
theorem cc4_isCell {D : va_G} {cA : ClassId} {g : Nat → Nat} {A : Nat → Prop} {z : sl_K} {l : Launch} {x0 : Int32} {M : sl_M} {r : Int32} (h : f4_isCell x0 = r) : sl_N sl_cl LX D cA g A z l yX4_isCell cX4_isCell 1 (some .boolean) 1 22 [.int x0] M (some (.int r)) M := by
  refine sl_N.of (by decide) (Nat.le_of_ble_eq_true rfl) rfl ?_
  intro p e s m args below meth c C
  replace C : sl_C RX4 cX4_isCell 1 (some .boolean) sl_cl LX D cA g A z p s m meth c := C
  have hR : 1 ≤ (({ frames := 1, cells := 0, slots := 0, locals := 22 } : Room)).frames ∧ 22 ≤ (({ frames := 1, cells := 0, slots := 0, locals := 22 } : Room)).locals := ⟨Nat.le_refl _, Nat.le_refl _⟩
  rw [f4_isCell] at h
  refine sa_iload_n C dX4_isCell_0 rfl 0 rfl ?_
  refine sa_iconst C dX4_isCell_1 ic_0 ?_
  refine sa_bipush C dX4_isCell_2 bp_23 ?_
  refine sa_invSi C yy_X4_isWithin q_268 q_267 dX4_isCell_4 (As := [.int x0, .int (0 : Int32), .int (23 : Int32)]) (rest := []) rfl ⟨Nat.le_trans (Nat.le_of_ble_eq_true rfl) hR.1, Nat.le_trans (Nat.le_of_ble_eq_true rfl) hR.2⟩ (Nat.le_of_ble_eq_true rfl) (cc4_isWithin rfl) rfl ?_
  exact sa_zret C dX4_isCell_7 (by first | assumption | exact f4_isWithin_b | ((repeat' split) <;> first | exact Or.inl rfl | exact Or.inr rfl)) h rfl
/-! X4 tell -/
def f4_tell (x1 : Int32) (M : sl_M) : Option (Int32 × sl_M) := (sl_ld (M 35) 7 x1).bind fun v1 => (sl_st M 35 7 x1 (v1 + (1 : Int32))).bind fun M2 => some (((-1000001 : Int32) - x1), M2)
theorem cc4_tell {D : va_G} {cA : ClassId} {g : Nat → Nat} {A : Nat → Prop} {z : sl_K} {l : Launch} {x1 : Int32} {M : sl_M} {r : Int32 × sl_M} (h : f4_tell x1 M = some r) : sl_N sl_cl LX D cA g A z l yX4_tell cX4_tell 2 (some .int) 0 0 [.ref (g 27), .int x1] M (some (.int r.1)) r.2 := by
  refine sl_N.of (by decide) (Nat.le_of_ble_eq_true rfl) rfl ?_
  intro p e s m args below meth c C
  replace C : sl_C RX4 cX4_tell 2 (some .int) sl_cl LX D cA g A z p s m meth c := C
  have hR : 0 ≤ (({ frames := 0, cells := 0, slots := 0, locals := 0 } : Room)).frames ∧ 0 ≤ (({ frames := 0, cells := 0, slots := 0, locals := 0 } : Room)).locals := ⟨Nat.le_refl _, Nat.le_refl _⟩
  rw [f4_tell] at h
  refine sa_aload_n C dX4_tell_0 rfl 0 rfl ?_
  refine sa_getR C hh_X4 (k := 6) dX4_tell_1 q_241 (by decide) lx_27 rfl ?_
  refine sa_iload_n C dX4_tell_4 rfl 1 rfl ?_
  refine sa_dup2 C dX4_tell_5 rfl rfl ?_
  obtain ⟨v1, ev1, h⟩ := sl_b h
  refine sa_iald C dX4_tell_6 lx_35 ev1 ?_
  refine sa_iconst C dX4_tell_7 ic_1 ?_
  refine sa_iadd C dX4_tell_8 ?_
  obtain ⟨M2, eM2, h⟩ := sl_b h
  refine sa_iast C dX4_tell_9 lx_35 eM2 ?_
  refine sa_ldcw C dX4_tell_10 q_274 ?_
  refine sa_iload_n C dX4_tell_13 rfl 1 rfl ?_
  refine sa_isub C dX4_tell_14 ?_
  exact sa_iret C dX4_tell_15 (sl_p1 h) (sl_p2 h)
/-! X4 cell -/
def f4_cell (x1 : Int32) (x2 : Int32) (x3 : Int32) (M : sl_M) : Option (Int32 × sl_M) := (if (f4_isCell x1) = 0 then (f4_tell (0 : Int32) M).bind fun r2 => some (r2.1, r2.2) else (if (f4_isWithin x2 (0 : Int32) (1 : Int32)) = 0 then (f4_tell (0 : Int32) M).bind fun r4 => some (r4.1, r4.2) else (if (f4_isWithin x3 (0 : Int32) (99 : Int32)) = 0 then (f4_tell (0 : Int32) M).bind fun r11 => some (r11.1, r11.2) else (if x2 = 0 then (sl_ld (M 2) 24 x1).bind fun v9 => (f0_raiseTo 0 x1 x3 M).bind fun r10 => some (v9, r10) else (sl_ld (M 3) 24 x1).bind fun v7 => (f0_ageTo 0 x1 x3 M).bind fun r8 => some (v7, r8)))))
theorem cc4_cell {D : va_G} {cA : ClassId} {g : Nat → Nat} {A : Nat → Prop} {z : sl_K} {l : Launch} {x1 : Int32} {x2 : Int32} {x3 : Int32} {M : sl_M} {r : Int32 × sl_M} (h : f4_cell x1 x2 x3 M = some r) : sl_N sl_cl LX D cA g A z l yX4_cell cX4_cell 5 (some .int) 4 86 [.ref (g 27), .int x1, .int x2, .int x3] M (some (.int r.1)) r.2 := by
  refine sl_N.of (by decide) (Nat.le_of_ble_eq_true rfl) rfl ?_
  intro p e s m args below meth c C
  replace C : sl_C RX4 cX4_cell 5 (some .int) sl_cl LX D cA g A z p s m meth c := C
  have hR : 4 ≤ (({ frames := 4, cells := 0, slots := 0, locals := 86 } : Room)).frames ∧ 86 ≤ (({ frames := 4, cells := 0, slots := 0, locals := 86 } : Room)).locals := ⟨Nat.le_refl _, Nat.le_refl _⟩
  rw [f4_cell] at h
  refine sa_iload_n C dX4_cell_0 rfl 1 rfl ?_
  refine sa_invSi C yy_X4_isCell q_265 q_264 dX4_cell_1 (As := [.int x1]) (rest := []) rfl ⟨Nat.le_trans (Nat.le_of_ble_eq_true rfl) hR.1, Nat.le_trans (Nat.le_of_ble_eq_true rfl) hR.2⟩ (Nat.le_of_ble_eq_true rfl) (cc4_isCell rfl) rfl ?_
  refine sa_if_eq C dX4_cell_4 (tgt := 26) (by decide) (fun c1 => ?_) (fun c1 => ?_)
  · replace h := sl_t c1 h
    refine sa_aload_n C dX4_cell_26 rfl 0 rfl ?_
    refine sa_iconst C dX4_cell_27 ic_0 ?_
    obtain ⟨r2, er2, h⟩ := sl_b h
    refine sa_invVi C yy_X4_tell ⟨q_272, q_0⟩ q_270 dX4_cell_28 (As := [.int (0 : Int32)]) (rest := []) rfl ⟨Nat.le_trans (Nat.le_of_ble_eq_true rfl) hR.1, Nat.le_trans (Nat.le_of_ble_eq_true rfl) hR.2⟩ (Nat.le_of_ble_eq_true rfl) hh_X4 lx_27 (cc4_tell er2) rfl ?_
    exact sa_iret C dX4_cell_31 (sl_p1 h) (sl_p2 h)
  · replace h := sl_n c1 h
    refine sa_iload_n C dX4_cell_7 rfl 2 rfl ?_
    refine sa_iconst C dX4_cell_8 ic_0 ?_
    refine sa_iconst C dX4_cell_9 ic_1 ?_
    refine sa_invSi C yy_X4_isWithin q_268 q_267 dX4_cell_10 (As := [.int x2, .int (0 : Int32), .int (1 : Int32)]) (rest := []) rfl ⟨Nat.le_trans (Nat.le_of_ble_eq_true rfl) hR.1, Nat.le_trans (Nat.le_of_ble_eq_true rfl) hR.2⟩ (Nat.le_of_ble_eq_true rfl) (cc4_isWithin rfl) rfl ?_
    refine sa_if_eq C dX4_cell_13 (tgt := 26) (by decide) (fun c3 => ?_) (fun c3 => ?_)
    · replace h := sl_t c3 h
      refine sa_aload_n C dX4_cell_26 rfl 0 rfl ?_
      refine sa_iconst C dX4_cell_27 ic_0 ?_
      obtain ⟨r4, er4, h⟩ := sl_b h
      refine sa_invVi C yy_X4_tell ⟨q_272, q_0⟩ q_270 dX4_cell_28 (As := [.int (0 : Int32)]) (rest := []) rfl ⟨Nat.le_trans (Nat.le_of_ble_eq_true rfl) hR.1, Nat.le_trans (Nat.le_of_ble_eq_true rfl) hR.2⟩ (Nat.le_of_ble_eq_true rfl) hh_X4 lx_27 (cc4_tell er4) rfl ?_
      exact sa_iret C dX4_cell_31 (sl_p1 h) (sl_p2 h)
    · replace h := sl_n c3 h
      refine sa_iload_n C dX4_cell_16 rfl 3 rfl ?_
      refine sa_iconst C dX4_cell_17 ic_0 ?_
      refine sa_bipush C dX4_cell_18 bp_99 ?_
      refine sa_invSi C yy_X4_isWithin q_268 q_267 dX4_cell_20 (As := [.int x3, .int (0 : Int32), .int (99 : Int32)]) (rest := []) rfl ⟨Nat.le_trans (Nat.le_of_ble_eq_true rfl) hR.1, Nat.le_trans (Nat.le_of_ble_eq_true rfl) hR.2⟩ (Nat.le_of_ble_eq_true rfl) (cc4_isWithin rfl) rfl ?_
      refine sa_if_ne C dX4_cell_23 (tgt := 32) (by decide) (fun c5 => ?_) (fun c5 => ?_)
      · replace h := sl_n c5 h
        refine sa_iload_n C dX4_cell_32 rfl 2 rfl ?_
        refine sa_if_ne C dX4_cell_33 (tgt := 59) (by decide) (fun c6 => ?_) (fun c6 => ?_)
        · replace h := sl_n c6 h
          refine sa_aload_n C dX4_cell_59 rfl 0 rfl ?_
          refine sa_getR C hh_X4 (k := 0) dX4_cell_60 q_235 (by decide) lx_27 rfl ?_
          refine sa_getRN C hh_X0 (k := 2) dX4_cell_63 q_126 (by decide) lx_0 rfl ?_
          refine sa_iload_n C dX4_cell_66 rfl 1 rfl ?_
          obtain ⟨v7, ev7, h⟩ := sl_b h
          refine sa_iald C dX4_cell_67 lx_3 ev7 ?_
          refine sa_istore C dX4_cell_68 (by decide) (lv2 := [(4, .int v7), (0, .ref (g 27)), (1, .int x1), (2, .int x2), (3, .int x3)]) rfl ?_
          refine sa_aload_n C dX4_cell_70 rfl 1 rfl ?_
          refine sa_getR C hh_X4 (k := 0) dX4_cell_71 q_235 (by decide) lx_27 rfl ?_
          refine sa_iload_n C dX4_cell_74 rfl 2 rfl ?_
          refine sa_iload_n C dX4_cell_75 rfl 4 rfl ?_
          obtain ⟨r8, er8, h⟩ := sl_b h
          refine sa_invVNv C yy_X0_ageTo ⟨q_291, q_3⟩ q_289 dX4_cell_76 (As := [.int x1, .int x3]) (rest := []) rfl ⟨Nat.le_trans (Nat.le_of_ble_eq_true rfl) hR.1, Nat.le_trans (Nat.le_of_ble_eq_true rfl) hR.2⟩ (Nat.le_of_ble_eq_true rfl) hh_X0 lx_0 (cc0_ageTo sl_j0 er8) rfl ?_
          refine sa_iload C dX4_cell_79 0 rfl ?_
          exact sa_iret C dX4_cell_81 (sl_p1 h) (sl_p2 h)
        · replace h := sl_t c6 h
          refine sa_aload_n C dX4_cell_36 rfl 0 rfl ?_
          refine sa_getR C hh_X4 (k := 0) dX4_cell_37 q_235 (by decide) lx_27 rfl ?_
          refine sa_getRN C hh_X0 (k := 1) dX4_cell_40 q_124 (by decide) lx_0 rfl ?_
          refine sa_iload_n C dX4_cell_43 rfl 1 rfl ?_
          obtain ⟨v9, ev9, h⟩ := sl_b h
          refine sa_iald C dX4_cell_44 lx_2 ev9 ?_
          refine sa_istore C dX4_cell_45 (by decide) (lv2 := [(4, .int v9), (0, .ref (g 27)), (1, .int x1), (2, .int x2), (3, .int x3)]) rfl ?_
          refine sa_aload_n C dX4_cell_47 rfl 1 rfl ?_
          refine sa_getR C hh_X4 (k := 0) dX4_cell_48 q_235 (by decide) lx_27 rfl ?_
          refine sa_iload_n C dX4_cell_51 rfl 2 rfl ?_
          refine sa_iload_n C dX4_cell_52 rfl 4 rfl ?_
          obtain ⟨r10, er10, h⟩ := sl_b h
          refine sa_invVNv C yy_X0_raiseTo ⟨q_277, q_1⟩ q_275 dX4_cell_53 (As := [.int x1, .int x3]) (rest := []) rfl ⟨Nat.le_trans (Nat.le_of_ble_eq_true rfl) hR.1, Nat.le_trans (Nat.le_of_ble_eq_true rfl) hR.2⟩ (Nat.le_of_ble_eq_true rfl) hh_X0 lx_0 (cc0_raiseTo sl_j0 er10) rfl ?_
          refine sa_iload C dX4_cell_56 0 rfl ?_
          exact sa_iret C dX4_cell_58 (sl_p1 h) (sl_p2 h)
      · replace h := sl_t c5 h
        refine sa_aload_n C dX4_cell_26 rfl 0 rfl ?_
        refine sa_iconst C dX4_cell_27 ic_0 ?_
        obtain ⟨r11, er11, h⟩ := sl_b h
        refine sa_invVi C yy_X4_tell ⟨q_272, q_0⟩ q_270 dX4_cell_28 (As := [.int (0 : Int32)]) (rest := []) rfl ⟨Nat.le_trans (Nat.le_of_ble_eq_true rfl) hR.1, Nat.le_trans (Nat.le_of_ble_eq_true rfl) hR.2⟩ (Nat.le_of_ble_eq_true rfl) hh_X4 lx_27 (cc4_tell er11) rfl ?_
        exact sa_iret C dX4_cell_31 (sl_p1 h) (sl_p2 h)
/-! X4 isKind -/
def f4_isKind (x0 : Int32) : Int32 := (f4_isWithin x0 (0 : Int32) (6 : Int32))
theorem f4_isKind_b {x0 : Int32} : f4_isKind x0 = 0 ∨ f4_isKind x0 = 1 := by
  rw [f4_isKind]
  first | exact f4_isWithin_b | ((repeat' split) <;> first | exact Or.inl rfl | exact Or.inr rfl)
theorem cc4_isKind {D : va_G} {cA : ClassId} {g : Nat → Nat} {A : Nat → Prop} {z : sl_K} {l : Launch} {x0 : Int32} {M : sl_M} {r : Int32} (h : f4_isKind x0 = r) : sl_N sl_cl LX D cA g A z l yX4_isKind cX4_isKind 1 (some .boolean) 1 22 [.int x0] M (some (.int r)) M := by
  refine sl_N.of (by decide) (Nat.le_of_ble_eq_true rfl) rfl ?_
  intro p e s m args below meth c C
  replace C : sl_C RX4 cX4_isKind 1 (some .boolean) sl_cl LX D cA g A z p s m meth c := C
  have hR : 1 ≤ (({ frames := 1, cells := 0, slots := 0, locals := 22 } : Room)).frames ∧ 22 ≤ (({ frames := 1, cells := 0, slots := 0, locals := 22 } : Room)).locals := ⟨Nat.le_refl _, Nat.le_refl _⟩
  rw [f4_isKind] at h
  refine sa_iload_n C dX4_isKind_0 rfl 0 rfl ?_
  refine sa_iconst C dX4_isKind_1 ic_0 ?_
  refine sa_bipush C dX4_isKind_2 bp_6 ?_
  refine sa_invSi C yy_X4_isWithin q_268 q_267 dX4_isKind_4 (As := [.int x0, .int (0 : Int32), .int (6 : Int32)]) (rest := []) rfl ⟨Nat.le_trans (Nat.le_of_ble_eq_true rfl) hR.1, Nat.le_trans (Nat.le_of_ble_eq_true rfl) hR.2⟩ (Nat.le_of_ble_eq_true rfl) (cc4_isWithin rfl) rfl ?_
  exact sa_zret C dX4_isKind_7 (by first | assumption | exact f4_isWithin_b | ((repeat' split) <;> first | exact Or.inl rfl | exact Or.inr rfl)) h rfl
/-! X4 set -/
def f4_set (x1 : Int32) (x2 : Int32) (M : sl_M) : Option (Int32 × sl_M) := (if (f4_isCell x1) = 0 then (f4_tell (0 : Int32) M).bind fun r2 => some (r2.1, r2.2) else (if (f4_isKind x2) = 0 then (f4_tell (0 : Int32) M).bind fun r6 => some (r6.1, r6.2) else (sl_ld (M 1) 24 x1).bind fun v4 => (f0_place 0 x1 x2 M).bind fun r5 => some (v4, r5)))
theorem cc4_set {D : va_G} {cA : ClassId} {g : Nat → Nat} {A : Nat → Prop} {z : sl_K} {l : Launch} {x1 : Int32} {x2 : Int32} {M : sl_M} {r : Int32 × sl_M} (h : f4_set x1 x2 M = some r) : sl_N sl_cl LX D cA g A z l yX4_set cX4_set 4 (some .int) 4 86 [.ref (g 27), .int x1, .int x2] M (some (.int r.1)) r.2 := by
  refine sl_N.of (by decide) (Nat.le_of_ble_eq_true rfl) rfl ?_
  intro p e s m args below meth c C
  replace C : sl_C RX4 cX4_set 4 (some .int) sl_cl LX D cA g A z p s m meth c := C
  have hR : 4 ≤ (({ frames := 4, cells := 0, slots := 0, locals := 86 } : Room)).frames ∧ 86 ≤ (({ frames := 4, cells := 0, slots := 0, locals := 86 } : Room)).locals := ⟨Nat.le_refl _, Nat.le_refl _⟩
  rw [f4_set] at h
  refine sa_iload_n C dX4_set_0 rfl 1 rfl ?_
  refine sa_invSi C yy_X4_isCell q_265 q_264 dX4_set_1 (As := [.int x1]) (rest := []) rfl ⟨Nat.le_trans (Nat.le_of_ble_eq_true rfl) hR.1, Nat.le_trans (Nat.le_of_ble_eq_true rfl) hR.2⟩ (Nat.le_of_ble_eq_true rfl) (cc4_isCell rfl) rfl ?_
  refine sa_if_eq C dX4_set_4 (tgt := 14) (by decide) (fun c1 => ?_) (fun c1 => ?_)
  · replace h := sl_t c1 h
    refine sa_aload_n C dX4_set_14 rfl 0 rfl ?_
    refine sa_iconst C dX4_set_15 ic_0 ?_
    obtain ⟨r2, er2, h⟩ := sl_b h
    refine sa_invVi C yy_X4_tell ⟨q_272, q_0⟩ q_270 dX4_set_16 (As := [.int (0 : Int32)]) (rest := []) rfl ⟨Nat.le_trans (Nat.le_of_ble_eq_true rfl) hR.1, Nat.le_trans (Nat.le_of_ble_eq_true rfl) hR.2⟩ (Nat.le_of_ble_eq_true rfl) hh_X4 lx_27 (cc4_tell er2) rfl ?_
    exact sa_iret C dX4_set_19 (sl_p1 h) (sl_p2 h)
  · replace h := sl_n c1 h
    refine sa_iload_n C dX4_set_7 rfl 2 rfl ?_
    refine sa_invSi C yy_X4_isKind q_298 q_297 dX4_set_8 (As := [.int x2]) (rest := []) rfl ⟨Nat.le_trans (Nat.le_of_ble_eq_true rfl) hR.1, Nat.le_trans (Nat.le_of_ble_eq_true rfl) hR.2⟩ (Nat.le_of_ble_eq_true rfl) (cc4_isKind rfl) rfl ?_
    refine sa_if_ne C dX4_set_11 (tgt := 20) (by decide) (fun c3 => ?_) (fun c3 => ?_)
    · replace h := sl_n c3 h
      refine sa_aload_n C dX4_set_20 rfl 0 rfl ?_
      refine sa_getR C hh_X4 (k := 0) dX4_set_21 q_235 (by decide) lx_27 rfl ?_
      refine sa_getRN C hh_X0 (k := 0) dX4_set_24 q_122 (by decide) lx_0 rfl ?_
      refine sa_iload_n C dX4_set_27 rfl 1 rfl ?_
      obtain ⟨v4, ev4, h⟩ := sl_b h
      refine sa_iald C dX4_set_28 lx_1 ev4 ?_
      refine sa_istore_n C dX4_set_29 rfl (by decide) (lv2 := [(3, .int v4), (0, .ref (g 27)), (1, .int x1), (2, .int x2)]) rfl ?_
      refine sa_aload_n C dX4_set_30 rfl 1 rfl ?_
      refine sa_getR C hh_X4 (k := 0) dX4_set_31 q_235 (by decide) lx_27 rfl ?_
      refine sa_iload_n C dX4_set_34 rfl 2 rfl ?_
      refine sa_iload_n C dX4_set_35 rfl 3 rfl ?_
      obtain ⟨r5, er5, h⟩ := sl_b h
      refine sa_invVNv C yy_X0_place ⟨q_302, q_4⟩ q_300 dX4_set_36 (As := [.int x1, .int x2]) (rest := []) rfl ⟨Nat.le_trans (Nat.le_of_ble_eq_true rfl) hR.1, Nat.le_trans (Nat.le_of_ble_eq_true rfl) hR.2⟩ (Nat.le_of_ble_eq_true rfl) hh_X0 lx_0 (cc0_place sl_j0 er5) rfl ?_
      refine sa_iload_n C dX4_set_39 rfl 0 rfl ?_
      exact sa_iret C dX4_set_40 (sl_p1 h) (sl_p2 h)
    · replace h := sl_t c3 h
      refine sa_aload_n C dX4_set_14 rfl 0 rfl ?_
      refine sa_iconst C dX4_set_15 ic_0 ?_
      obtain ⟨r6, er6, h⟩ := sl_b h
      refine sa_invVi C yy_X4_tell ⟨q_272, q_0⟩ q_270 dX4_set_16 (As := [.int (0 : Int32)]) (rest := []) rfl ⟨Nat.le_trans (Nat.le_of_ble_eq_true rfl) hR.1, Nat.le_trans (Nat.le_of_ble_eq_true rfl) hR.2⟩ (Nat.le_of_ble_eq_true rfl) hh_X4 lx_27 (cc4_tell er6) rfl ?_
      exact sa_iret C dX4_set_19 (sl_p1 h) (sl_p2 h)
/-! X4 cellOf -/
def f4_cellOf (x1 : Int32) (x2 : Int32) (M : sl_M) : Option (Int32 × sl_M) := (if (f4_isCell x1) = 0 then (f4_tell (0 : Int32) M).bind fun r13 => some (r13.1, r13.2) else (if x2 = (0 : Int32) then (sl_ld (M 1) 24 x1).bind fun v3 => some (v3, M) else (if x2 = (1 : Int32) then (sl_ld (M 2) 24 x1).bind fun v5 => some (v5, M) else (if x2 = (2 : Int32) then (sl_ld (M 3) 24 x1).bind fun v7 => some (v7, M) else (if x2 = (3 : Int32) then (sl_ld (M 4) 24 x1).bind fun v9 => some (v9, M) else (if x2 = (4 : Int32) then (f0_worthOf 0 x1 M).bind fun r11 => some (r11, M) else (f4_tell (0 : Int32) M).bind fun r12 => some (r12.1, r12.2)))))))
theorem cc4_cellOf {D : va_G} {cA : ClassId} {g : Nat → Nat} {A : Nat → Prop} {z : sl_K} {l : Launch} {x1 : Int32} {x2 : Int32} {M : sl_M} {r : Int32 × sl_M} (h : f4_cellOf x1 x2 M = some r) : sl_N sl_cl LX D cA g A z l yX4_cellOf cX4_cellOf 3 (some .int) 2 42 [.ref (g 27), .int x1, .int x2] M (some (.int r.1)) r.2 := by
  refine sl_N.of (by decide) (Nat.le_of_ble_eq_true rfl) rfl ?_
  intro p e s m args below meth c C
  replace C : sl_C RX4 cX4_cellOf 3 (some .int) sl_cl LX D cA g A z p s m meth c := C
  have hR : 2 ≤ (({ frames := 2, cells := 0, slots := 0, locals := 42 } : Room)).frames ∧ 42 ≤ (({ frames := 2, cells := 0, slots := 0, locals := 42 } : Room)).locals := ⟨Nat.le_refl _, Nat.le_refl _⟩
  rw [f4_cellOf] at h
  refine sa_iload_n C dX4_cellOf_0 rfl 1 rfl ?_
  refine sa_invSi C yy_X4_isCell q_265 q_264 dX4_cellOf_1 (As := [.int x1]) (rest := []) rfl ⟨Nat.le_trans (Nat.le_of_ble_eq_true rfl) hR.1, Nat.le_trans (Nat.le_of_ble_eq_true rfl) hR.2⟩ (Nat.le_of_ble_eq_true rfl) (cc4_isCell rfl) rfl ?_
  refine sa_if_ne C dX4_cellOf_4 (tgt := 13) (by decide) (fun c1 => ?_) (fun c1 => ?_)
  · replace h := sl_n c1 h
    refine sa_iload_n C dX4_cellOf_13 rfl 2 rfl ?_
    by_cases c2 : x2 = (0 : Int32)
    · replace h := sl_t c2 h
      refine sa_swIn C dX4_cellOf_14 c2 (k := (0 : Int32)) ⟨by decide, by decide, rfl⟩ (tgt := 48) (by decide) ?_
      refine sa_aload_n C dX4_cellOf_48 rfl 0 rfl ?_
      refine sa_getR C hh_X4 (k := 0) dX4_cellOf_49 q_235 (by decide) lx_27 rfl ?_
      refine sa_getRN C hh_X0 (k := 0) dX4_cellOf_52 q_122 (by decide) lx_0 rfl ?_
      refine sa_iload_n C dX4_cellOf_55 rfl 1 rfl ?_
      obtain ⟨v3, ev3, h⟩ := sl_b h
      refine sa_iald C dX4_cellOf_56 lx_1 ev3 ?_
      exact sa_iret C dX4_cellOf_57 (sl_p1 h) (sl_p2 h)
    · replace h := sl_n c2 h
      by_cases c4 : x2 = (1 : Int32)
      · replace h := sl_t c4 h
        refine sa_swIn C dX4_cellOf_14 c4 (k := (1 : Int32)) ⟨by decide, by decide, rfl⟩ (tgt := 58) (by decide) ?_
        refine sa_aload_n C dX4_cellOf_58 rfl 0 rfl ?_
        refine sa_getR C hh_X4 (k := 0) dX4_cellOf_59 q_235 (by decide) lx_27 rfl ?_
        refine sa_getRN C hh_X0 (k := 1) dX4_cellOf_62 q_124 (by decide) lx_0 rfl ?_
        refine sa_iload_n C dX4_cellOf_65 rfl 1 rfl ?_
        obtain ⟨v5, ev5, h⟩ := sl_b h
        refine sa_iald C dX4_cellOf_66 lx_2 ev5 ?_
        exact sa_iret C dX4_cellOf_67 (sl_p1 h) (sl_p2 h)
      · replace h := sl_n c4 h
        by_cases c6 : x2 = (2 : Int32)
        · replace h := sl_t c6 h
          refine sa_swIn C dX4_cellOf_14 c6 (k := (2 : Int32)) ⟨by decide, by decide, rfl⟩ (tgt := 68) (by decide) ?_
          refine sa_aload_n C dX4_cellOf_68 rfl 0 rfl ?_
          refine sa_getR C hh_X4 (k := 0) dX4_cellOf_69 q_235 (by decide) lx_27 rfl ?_
          refine sa_getRN C hh_X0 (k := 2) dX4_cellOf_72 q_126 (by decide) lx_0 rfl ?_
          refine sa_iload_n C dX4_cellOf_75 rfl 1 rfl ?_
          obtain ⟨v7, ev7, h⟩ := sl_b h
          refine sa_iald C dX4_cellOf_76 lx_3 ev7 ?_
          exact sa_iret C dX4_cellOf_77 (sl_p1 h) (sl_p2 h)
        · replace h := sl_n c6 h
          by_cases c8 : x2 = (3 : Int32)
          · replace h := sl_t c8 h
            refine sa_swIn C dX4_cellOf_14 c8 (k := (3 : Int32)) ⟨by decide, by decide, rfl⟩ (tgt := 78) (by decide) ?_
            refine sa_aload_n C dX4_cellOf_78 rfl 0 rfl ?_
            refine sa_getR C hh_X4 (k := 0) dX4_cellOf_79 q_235 (by decide) lx_27 rfl ?_
            refine sa_getRN C hh_X0 (k := 3) dX4_cellOf_82 q_128 (by decide) lx_0 rfl ?_
            refine sa_iload_n C dX4_cellOf_85 rfl 1 rfl ?_
            obtain ⟨v9, ev9, h⟩ := sl_b h
            refine sa_iald C dX4_cellOf_86 lx_4 ev9 ?_
            exact sa_iret C dX4_cellOf_87 (sl_p1 h) (sl_p2 h)
          · replace h := sl_n c8 h
            by_cases c10 : x2 = (4 : Int32)
            · replace h := sl_t c10 h
              refine sa_swIn C dX4_cellOf_14 c10 (k := (4 : Int32)) ⟨by decide, by decide, rfl⟩ (tgt := 88) (by decide) ?_
              refine sa_aload_n C dX4_cellOf_88 rfl 0 rfl ?_
              refine sa_getR C hh_X4 (k := 0) dX4_cellOf_89 q_235 (by decide) lx_27 rfl ?_
              refine sa_iload_n C dX4_cellOf_92 rfl 1 rfl ?_
              obtain ⟨r11, er11, h⟩ := sl_b h
              refine sa_invVNi C yy_X0_worthOf ⟨q_310, q_5⟩ q_308 dX4_cellOf_93 (As := [.int x1]) (rest := []) rfl ⟨Nat.le_trans (Nat.le_of_ble_eq_true rfl) hR.1, Nat.le_trans (Nat.le_of_ble_eq_true rfl) hR.2⟩ (Nat.le_of_ble_eq_true rfl) hh_X0 lx_0 (cc0_worthOf sl_j0 er11) rfl ?_
              exact sa_iret C dX4_cellOf_96 (sl_p1 h) (sl_p2 h)
            · replace h := sl_n c10 h
              refine sa_swOut C dX4_cellOf_14 (by have := lv_neT (a := 0) c2 (by decide); have := lv_neT (a := 1) c4 (by decide); have := lv_neT (a := 2) c6 (by decide); have := lv_neT (a := 3) c8 (by decide); have := lv_neT (a := 4) c10 (by decide); omega) (tgt := 97) (by decide) ?_
              refine sa_aload_n C dX4_cellOf_97 rfl 0 rfl ?_
              refine sa_iconst C dX4_cellOf_98 ic_0 ?_
              obtain ⟨r12, er12, h⟩ := sl_b h
              refine sa_invVi C yy_X4_tell ⟨q_272, q_0⟩ q_270 dX4_cellOf_99 (As := [.int (0 : Int32)]) (rest := []) rfl ⟨Nat.le_trans (Nat.le_of_ble_eq_true rfl) hR.1, Nat.le_trans (Nat.le_of_ble_eq_true rfl) hR.2⟩ (Nat.le_of_ble_eq_true rfl) hh_X4 lx_27 (cc4_tell er12) rfl ?_
              exact sa_iret C dX4_cellOf_102 (sl_p1 h) (sl_p2 h)
  · replace h := sl_t c1 h
    refine sa_aload_n C dX4_cellOf_7 rfl 0 rfl ?_
    refine sa_iconst C dX4_cellOf_8 ic_0 ?_
    obtain ⟨r13, er13, h⟩ := sl_b h
    refine sa_invVi C yy_X4_tell ⟨q_272, q_0⟩ q_270 dX4_cellOf_9 (As := [.int (0 : Int32)]) (rest := []) rfl ⟨Nat.le_trans (Nat.le_of_ble_eq_true rfl) hR.1, Nat.le_trans (Nat.le_of_ble_eq_true rfl) hR.2⟩ (Nat.le_of_ble_eq_true rfl) hh_X4 lx_27 (cc4_tell er13) rfl ?_
    exact sa_iret C dX4_cellOf_12 (sl_p1 h) (sl_p2 h)
/-! X4 isFloor -/
def f4_isFloor (x0 : Int32) : Int32 := (f4_isWithin x0 (1 : Int32) (40 : Int32))
theorem f4_isFloor_b {x0 : Int32} : f4_isFloor x0 = 0 ∨ f4_isFloor x0 = 1 := by
  rw [f4_isFloor]
  first | exact f4_isWithin_b | ((repeat' split) <;> first | exact Or.inl rfl | exact Or.inr rfl)
theorem cc4_isFloor {D : va_G} {cA : ClassId} {g : Nat → Nat} {A : Nat → Prop} {z : sl_K} {l : Launch} {x0 : Int32} {M : sl_M} {r : Int32} (h : f4_isFloor x0 = r) : sl_N sl_cl LX D cA g A z l yX4_isFloor cX4_isFloor 1 (some .boolean) 1 22 [.int x0] M (some (.int r)) M := by
  refine sl_N.of (by decide) (Nat.le_of_ble_eq_true rfl) rfl ?_
  intro p e s m args below meth c C
  replace C : sl_C RX4 cX4_isFloor 1 (some .boolean) sl_cl LX D cA g A z p s m meth c := C
  have hR : 1 ≤ (({ frames := 1, cells := 0, slots := 0, locals := 22 } : Room)).frames ∧ 22 ≤ (({ frames := 1, cells := 0, slots := 0, locals := 22 } : Room)).locals := ⟨Nat.le_refl _, Nat.le_refl _⟩
  rw [f4_isFloor] at h
  refine sa_iload_n C dX4_isFloor_0 rfl 0 rfl ?_
  refine sa_iconst C dX4_isFloor_1 ic_1 ?_
  refine sa_bipush C dX4_isFloor_2 bp_40 ?_
  refine sa_invSi C yy_X4_isWithin q_268 q_267 dX4_isFloor_4 (As := [.int x0, .int (1 : Int32), .int (40 : Int32)]) (rest := []) rfl ⟨Nat.le_trans (Nat.le_of_ble_eq_true rfl) hR.1, Nat.le_trans (Nat.le_of_ble_eq_true rfl) hR.2⟩ (Nat.le_of_ble_eq_true rfl) (cc4_isWithin rfl) rfl ?_
  exact sa_zret C dX4_isFloor_7 (by first | assumption | exact f4_isWithin_b | ((repeat' split) <;> first | exact Or.inl rfl | exact Or.inr rfl)) h rfl
/-! X4 house -/
def f4_house (x1 : Int32) (x2 : Int32) (M : sl_M) : Option (Int32 × sl_M) := (if (f4_isCell x1) = 0 then (f4_tell (0 : Int32) M).bind fun r2 => some (r2.1, r2.2) else (if (f4_isFloor x2) = 0 then (f4_tell (0 : Int32) M).bind fun r7 => some (r7.1, r7.2) else (if (f0_isBuiltUp 0 M) = 0 then (f0_build 0 x1 x2 (3 : Int32) M).bind fun r5 => some (((r5 0 8) - (1 : Int32)), r5) else (f4_tell (1 : Int32) M).bind fun r6 => some (r6.1, r6.2))))
theorem cc4_house {D : va_G} {cA : ClassId} {g : Nat → Nat} {A : Nat → Prop} {z : sl_K} {l : Launch} {x1 : Int32} {x2 : Int32} {M : sl_M} {r : Int32 × sl_M} (h : f4_house x1 x2 M = some r) : sl_N sl_cl LX D cA g A z l yX4_house cX4_house 3 (some .int) 2 42 [.ref (g 27), .int x1, .int x2] M (some (.int r.1)) r.2 := by
  refine sl_N.of (by decide) (Nat.le_of_ble_eq_true rfl) rfl ?_
  intro p e s m args below meth c C
  replace C : sl_C RX4 cX4_house 3 (some .int) sl_cl LX D cA g A z p s m meth c := C
  have hR : 2 ≤ (({ frames := 2, cells := 0, slots := 0, locals := 42 } : Room)).frames ∧ 42 ≤ (({ frames := 2, cells := 0, slots := 0, locals := 42 } : Room)).locals := ⟨Nat.le_refl _, Nat.le_refl _⟩
  rw [f4_house] at h
  refine sa_iload_n C dX4_house_0 rfl 1 rfl ?_
  refine sa_invSi C yy_X4_isCell q_265 q_264 dX4_house_1 (As := [.int x1]) (rest := []) rfl ⟨Nat.le_trans (Nat.le_of_ble_eq_true rfl) hR.1, Nat.le_trans (Nat.le_of_ble_eq_true rfl) hR.2⟩ (Nat.le_of_ble_eq_true rfl) (cc4_isCell rfl) rfl ?_
  refine sa_if_eq C dX4_house_4 (tgt := 14) (by decide) (fun c1 => ?_) (fun c1 => ?_)
  · replace h := sl_t c1 h
    refine sa_aload_n C dX4_house_14 rfl 0 rfl ?_
    refine sa_iconst C dX4_house_15 ic_0 ?_
    obtain ⟨r2, er2, h⟩ := sl_b h
    refine sa_invVi C yy_X4_tell ⟨q_272, q_0⟩ q_270 dX4_house_16 (As := [.int (0 : Int32)]) (rest := []) rfl ⟨Nat.le_trans (Nat.le_of_ble_eq_true rfl) hR.1, Nat.le_trans (Nat.le_of_ble_eq_true rfl) hR.2⟩ (Nat.le_of_ble_eq_true rfl) hh_X4 lx_27 (cc4_tell er2) rfl ?_
    exact sa_iret C dX4_house_19 (sl_p1 h) (sl_p2 h)
  · replace h := sl_n c1 h
    refine sa_iload_n C dX4_house_7 rfl 2 rfl ?_
    refine sa_invSi C yy_X4_isFloor q_319 q_318 dX4_house_8 (As := [.int x2]) (rest := []) rfl ⟨Nat.le_trans (Nat.le_of_ble_eq_true rfl) hR.1, Nat.le_trans (Nat.le_of_ble_eq_true rfl) hR.2⟩ (Nat.le_of_ble_eq_true rfl) (cc4_isFloor rfl) rfl ?_
    refine sa_if_ne C dX4_house_11 (tgt := 20) (by decide) (fun c3 => ?_) (fun c3 => ?_)
    · replace h := sl_n c3 h
      refine sa_aload_n C dX4_house_20 rfl 0 rfl ?_
      refine sa_getR C hh_X4 (k := 0) dX4_house_21 q_235 (by decide) lx_27 rfl ?_
      refine sa_invVNi C yy_X0_isBuiltUp ⟨q_323, q_6⟩ q_321 dX4_house_24 (As := []) (rest := []) rfl ⟨Nat.le_trans (Nat.le_of_ble_eq_true rfl) hR.1, Nat.le_trans (Nat.le_of_ble_eq_true rfl) hR.2⟩ (Nat.le_of_ble_eq_true rfl) hh_X0 lx_0 (cc0_isBuiltUp sl_j0 rfl) rfl ?_
      refine sa_if_eq C dX4_house_27 (tgt := 36) (by decide) (fun c4 => ?_) (fun c4 => ?_)
      · replace h := sl_t c4 h
        refine sa_aload_n C dX4_house_36 rfl 0 rfl ?_
        refine sa_getR C hh_X4 (k := 0) dX4_house_37 q_235 (by decide) lx_27 rfl ?_
        refine sa_iload_n C dX4_house_40 rfl 1 rfl ?_
        refine sa_iload_n C dX4_house_41 rfl 2 rfl ?_
        refine sa_iconst C dX4_house_42 ic_3 ?_
        obtain ⟨r5, er5, h⟩ := sl_b h
        refine sa_invVNv C yy_X0_build ⟨q_327, q_7⟩ q_325 dX4_house_43 (As := [.int x1, .int x2, .int (3 : Int32)]) (rest := []) rfl ⟨Nat.le_trans (Nat.le_of_ble_eq_true rfl) hR.1, Nat.le_trans (Nat.le_of_ble_eq_true rfl) hR.2⟩ (Nat.le_of_ble_eq_true rfl) hh_X0 lx_0 (cc0_build sl_j0 er5) rfl ?_
        refine sa_aload_n C dX4_house_46 rfl 0 rfl ?_
        refine sa_getR C hh_X4 (k := 0) dX4_house_47 q_235 (by decide) lx_27 rfl ?_
        refine sa_getIN C hh_X0 (k := 8) dX4_house_50 q_138 (by decide) lx_0 rfl ?_
        refine sa_iconst C dX4_house_53 ic_1 ?_
        refine sa_isub C dX4_house_54 ?_
        exact sa_iret C dX4_house_55 (sl_p1 h) (sl_p2 h)
      · replace h := sl_n c4 h
        refine sa_aload_n C dX4_house_30 rfl 0 rfl ?_
        refine sa_iconst C dX4_house_31 ic_1 ?_
        obtain ⟨r6, er6, h⟩ := sl_b h
        refine sa_invVi C yy_X4_tell ⟨q_272, q_0⟩ q_270 dX4_house_32 (As := [.int (1 : Int32)]) (rest := []) rfl ⟨Nat.le_trans (Nat.le_of_ble_eq_true rfl) hR.1, Nat.le_trans (Nat.le_of_ble_eq_true rfl) hR.2⟩ (Nat.le_of_ble_eq_true rfl) hh_X4 lx_27 (cc4_tell er6) rfl ?_
        exact sa_iret C dX4_house_35 (sl_p1 h) (sl_p2 h)
    · replace h := sl_t c3 h
      refine sa_aload_n C dX4_house_14 rfl 0 rfl ?_
      refine sa_iconst C dX4_house_15 ic_0 ?_
      obtain ⟨r7, er7, h⟩ := sl_b h
      refine sa_invVi C yy_X4_tell ⟨q_272, q_0⟩ q_270 dX4_house_16 (As := [.int (0 : Int32)]) (rest := []) rfl ⟨Nat.le_trans (Nat.le_of_ble_eq_true rfl) hR.1, Nat.le_trans (Nat.le_of_ble_eq_true rfl) hR.2⟩ (Nat.le_of_ble_eq_true rfl) hh_X4 lx_27 (cc4_tell er7) rfl ?_
      exact sa_iret C dX4_house_19 (sl_p1 h) (sl_p2 h)
/-! X4 isHouse -/
def f4_isHouse (x1 : Int32) (M : sl_M) : Int32 := (f4_isWithin x1 (0 : Int32) ((M 0 8) - (1 : Int32)))
theorem f4_isHouse_b {x1 : Int32} {M : sl_M} : f4_isHouse x1 M = 0 ∨ f4_isHouse x1 M = 1 := by
  rw [f4_isHouse]
  first | exact f4_isWithin_b | ((repeat' split) <;> first | exact Or.inl rfl | exact Or.inr rfl)
theorem cc4_isHouse {D : va_G} {cA : ClassId} {g : Nat → Nat} {A : Nat → Prop} {z : sl_K} {l : Launch} {x1 : Int32} {M : sl_M} {r : Int32} (h : f4_isHouse x1 M = r) : sl_N sl_cl LX D cA g A z l yX4_isHouse cX4_isHouse 2 (some .boolean) 1 22 [.ref (g 27), .int x1] M (some (.int r)) M := by
  refine sl_N.of (by decide) (Nat.le_of_ble_eq_true rfl) rfl ?_
  intro p e s m args below meth c C
  replace C : sl_C RX4 cX4_isHouse 2 (some .boolean) sl_cl LX D cA g A z p s m meth c := C
  have hR : 1 ≤ (({ frames := 1, cells := 0, slots := 0, locals := 22 } : Room)).frames ∧ 22 ≤ (({ frames := 1, cells := 0, slots := 0, locals := 22 } : Room)).locals := ⟨Nat.le_refl _, Nat.le_refl _⟩
  rw [f4_isHouse] at h
  refine sa_iload_n C dX4_isHouse_0 rfl 1 rfl ?_
  refine sa_iconst C dX4_isHouse_1 ic_0 ?_
  refine sa_aload_n C dX4_isHouse_2 rfl 0 rfl ?_
  refine sa_getR C hh_X4 (k := 0) dX4_isHouse_3 q_235 (by decide) lx_27 rfl ?_
  refine sa_getIN C hh_X0 (k := 8) dX4_isHouse_6 q_138 (by decide) lx_0 rfl ?_
  refine sa_iconst C dX4_isHouse_9 ic_1 ?_
  refine sa_isub C dX4_isHouse_10 ?_
  refine sa_invSi C yy_X4_isWithin q_268 q_267 dX4_isHouse_11 (As := [.int x1, .int (0 : Int32), .int ((M 0 8) - (1 : Int32))]) (rest := []) rfl ⟨Nat.le_trans (Nat.le_of_ble_eq_true rfl) hR.1, Nat.le_trans (Nat.le_of_ble_eq_true rfl) hR.2⟩ (Nat.le_of_ble_eq_true rfl) (cc4_isWithin rfl) rfl ?_
  exact sa_zret C dX4_isHouse_14 (by first | assumption | exact f4_isWithin_b | ((repeat' split) <;> first | exact Or.inl rfl | exact Or.inr rfl)) h rfl
/-! X4 houseOf -/
def f4_houseOf (x1 : Int32) (x2 : Int32) (M : sl_M) : Option (Int32 × sl_M) := (if (f4_isHouse x1 M) = 0 then (f4_tell (0 : Int32) M).bind fun r11 => some (r11.1, r11.2) else (if x2 = (0 : Int32) then (sl_ld (M 5) 8 x1).bind fun v3 => some (v3, M) else (if x2 = (1 : Int32) then (sl_ld (M 6) 8 x1).bind fun v5 => some (v5, M) else (if x2 = (2 : Int32) then (f0_eyeOf 0 x1 M).bind fun r7 => some (r7, M) else (if x2 = (3 : Int32) then (sl_ld (M 7) 8 x1).bind fun v9 => some (v9, M) else (f4_tell (0 : Int32) M).bind fun r10 => some (r10.1, r10.2))))))
theorem cc4_houseOf {D : va_G} {cA : ClassId} {g : Nat → Nat} {A : Nat → Prop} {z : sl_K} {l : Launch} {x1 : Int32} {x2 : Int32} {M : sl_M} {r : Int32 × sl_M} (h : f4_houseOf x1 x2 M = some r) : sl_N sl_cl LX D cA g A z l yX4_houseOf cX4_houseOf 3 (some .int) 2 43 [.ref (g 27), .int x1, .int x2] M (some (.int r.1)) r.2 := by
  refine sl_N.of (by decide) (Nat.le_of_ble_eq_true rfl) rfl ?_
  intro p e s m args below meth c C
  replace C : sl_C RX4 cX4_houseOf 3 (some .int) sl_cl LX D cA g A z p s m meth c := C
  have hR : 2 ≤ (({ frames := 2, cells := 0, slots := 0, locals := 43 } : Room)).frames ∧ 43 ≤ (({ frames := 2, cells := 0, slots := 0, locals := 43 } : Room)).locals := ⟨Nat.le_refl _, Nat.le_refl _⟩
  rw [f4_houseOf] at h
  refine sa_aload_n C dX4_houseOf_0 rfl 0 rfl ?_
  refine sa_iload_n C dX4_houseOf_1 rfl 1 rfl ?_
  refine sa_invVi C yy_X4_isHouse ⟨q_335, q_8⟩ q_333 dX4_houseOf_2 (As := [.int x1]) (rest := []) rfl ⟨Nat.le_trans (Nat.le_of_ble_eq_true rfl) hR.1, Nat.le_trans (Nat.le_of_ble_eq_true rfl) hR.2⟩ (Nat.le_of_ble_eq_true rfl) hh_X4 lx_27 (cc4_isHouse rfl) rfl ?_
  refine sa_if_ne C dX4_houseOf_5 (tgt := 14) (by decide) (fun c1 => ?_) (fun c1 => ?_)
  · replace h := sl_n c1 h
    refine sa_iload_n C dX4_houseOf_14 rfl 2 rfl ?_
    by_cases c2 : x2 = (0 : Int32)
    · replace h := sl_t c2 h
      refine sa_swIn C dX4_houseOf_15 c2 (k := (0 : Int32)) ⟨by decide, by decide, rfl⟩ (tgt := 44) (by decide) ?_
      refine sa_aload_n C dX4_houseOf_44 rfl 0 rfl ?_
      refine sa_getR C hh_X4 (k := 0) dX4_houseOf_45 q_235 (by decide) lx_27 rfl ?_
      refine sa_getRN C hh_X0 (k := 4) dX4_houseOf_48 q_130 (by decide) lx_0 rfl ?_
      refine sa_iload_n C dX4_houseOf_51 rfl 1 rfl ?_
      obtain ⟨v3, ev3, h⟩ := sl_b h
      refine sa_iald C dX4_houseOf_52 lx_5 ev3 ?_
      exact sa_iret C dX4_houseOf_53 (sl_p1 h) (sl_p2 h)
    · replace h := sl_n c2 h
      by_cases c4 : x2 = (1 : Int32)
      · replace h := sl_t c4 h
        refine sa_swIn C dX4_houseOf_15 c4 (k := (1 : Int32)) ⟨by decide, by decide, rfl⟩ (tgt := 54) (by decide) ?_
        refine sa_aload_n C dX4_houseOf_54 rfl 0 rfl ?_
        refine sa_getR C hh_X4 (k := 0) dX4_houseOf_55 q_235 (by decide) lx_27 rfl ?_
        refine sa_getRN C hh_X0 (k := 5) dX4_houseOf_58 q_132 (by decide) lx_0 rfl ?_
        refine sa_iload_n C dX4_houseOf_61 rfl 1 rfl ?_
        obtain ⟨v5, ev5, h⟩ := sl_b h
        refine sa_iald C dX4_houseOf_62 lx_6 ev5 ?_
        exact sa_iret C dX4_houseOf_63 (sl_p1 h) (sl_p2 h)
      · replace h := sl_n c4 h
        by_cases c6 : x2 = (2 : Int32)
        · replace h := sl_t c6 h
          refine sa_swIn C dX4_houseOf_15 c6 (k := (2 : Int32)) ⟨by decide, by decide, rfl⟩ (tgt := 64) (by decide) ?_
          refine sa_aload_n C dX4_houseOf_64 rfl 0 rfl ?_
          refine sa_getR C hh_X4 (k := 0) dX4_houseOf_65 q_235 (by decide) lx_27 rfl ?_
          refine sa_iload_n C dX4_houseOf_68 rfl 1 rfl ?_
          obtain ⟨r7, er7, h⟩ := sl_b h
          refine sa_invVNi C yy_X0_eyeOf ⟨q_339, q_9⟩ q_337 dX4_houseOf_69 (As := [.int x1]) (rest := []) rfl ⟨Nat.le_trans (Nat.le_of_ble_eq_true rfl) hR.1, Nat.le_trans (Nat.le_of_ble_eq_true rfl) hR.2⟩ (Nat.le_of_ble_eq_true rfl) hh_X0 lx_0 (cc0_eyeOf sl_j0 er7) rfl ?_
          exact sa_iret C dX4_houseOf_72 (sl_p1 h) (sl_p2 h)
        · replace h := sl_n c6 h
          by_cases c8 : x2 = (3 : Int32)
          · replace h := sl_t c8 h
            refine sa_swIn C dX4_houseOf_15 c8 (k := (3 : Int32)) ⟨by decide, by decide, rfl⟩ (tgt := 73) (by decide) ?_
            refine sa_aload_n C dX4_houseOf_73 rfl 0 rfl ?_
            refine sa_getR C hh_X4 (k := 0) dX4_houseOf_74 q_235 (by decide) lx_27 rfl ?_
            refine sa_getRN C hh_X0 (k := 6) dX4_houseOf_77 q_134 (by decide) lx_0 rfl ?_
            refine sa_iload_n C dX4_houseOf_80 rfl 1 rfl ?_
            obtain ⟨v9, ev9, h⟩ := sl_b h
            refine sa_iald C dX4_houseOf_81 lx_7 ev9 ?_
            exact sa_iret C dX4_houseOf_82 (sl_p1 h) (sl_p2 h)
          · replace h := sl_n c8 h
            refine sa_swOut C dX4_houseOf_15 (by have := lv_neT (a := 0) c2 (by decide); have := lv_neT (a := 1) c4 (by decide); have := lv_neT (a := 2) c6 (by decide); have := lv_neT (a := 3) c8 (by decide); omega) (tgt := 83) (by decide) ?_
            refine sa_aload_n C dX4_houseOf_83 rfl 0 rfl ?_
            refine sa_iconst C dX4_houseOf_84 ic_0 ?_
            obtain ⟨r10, er10, h⟩ := sl_b h
            refine sa_invVi C yy_X4_tell ⟨q_272, q_0⟩ q_270 dX4_houseOf_85 (As := [.int (0 : Int32)]) (rest := []) rfl ⟨Nat.le_trans (Nat.le_of_ble_eq_true rfl) hR.1, Nat.le_trans (Nat.le_of_ble_eq_true rfl) hR.2⟩ (Nat.le_of_ble_eq_true rfl) hh_X4 lx_27 (cc4_tell er10) rfl ?_
            exact sa_iret C dX4_houseOf_88 (sl_p1 h) (sl_p2 h)
  · replace h := sl_t c1 h
    refine sa_aload_n C dX4_houseOf_8 rfl 0 rfl ?_
    refine sa_iconst C dX4_houseOf_9 ic_0 ?_
    obtain ⟨r11, er11, h⟩ := sl_b h
    refine sa_invVi C yy_X4_tell ⟨q_272, q_0⟩ q_270 dX4_houseOf_10 (As := [.int (0 : Int32)]) (rest := []) rfl ⟨Nat.le_trans (Nat.le_of_ble_eq_true rfl) hR.1, Nat.le_trans (Nat.le_of_ble_eq_true rfl) hR.2⟩ (Nat.le_of_ble_eq_true rfl) hh_X4 lx_27 (cc4_tell er11) rfl ?_
    exact sa_iret C dX4_houseOf_13 (sl_p1 h) (sl_p2 h)
/-! X4 floor -/
def f4_floor (x1 : Int32) (x2 : Int32) (M : sl_M) : Option (Int32 × sl_M) := (if (f4_isHouse x1 M) = 0 then (f4_tell (0 : Int32) M).bind fun r2 => some (r2.1, r2.2) else (if (f4_isFloor x2) = 0 then (f4_tell (0 : Int32) M).bind fun r6 => some (r6.1, r6.2) else (sl_ld (M 6) 8 x1).bind fun v4 => (sl_st M 6 8 x1 x2).bind fun M5 => some (v4, M5)))
theorem cc4_floor {D : va_G} {cA : ClassId} {g : Nat → Nat} {A : Nat → Prop} {z : sl_K} {l : Launch} {x1 : Int32} {x2 : Int32} {M : sl_M} {r : Int32 × sl_M} (h : f4_floor x1 x2 M = some r) : sl_N sl_cl LX D cA g A z l yX4_floor cX4_floor 4 (some .int) 2 43 [.ref (g 27), .int x1, .int x2] M (some (.int r.1)) r.2 := by
  refine sl_N.of (by decide) (Nat.le_of_ble_eq_true rfl) rfl ?_
  intro p e s m args below meth c C
  replace C : sl_C RX4 cX4_floor 4 (some .int) sl_cl LX D cA g A z p s m meth c := C
  have hR : 2 ≤ (({ frames := 2, cells := 0, slots := 0, locals := 43 } : Room)).frames ∧ 43 ≤ (({ frames := 2, cells := 0, slots := 0, locals := 43 } : Room)).locals := ⟨Nat.le_refl _, Nat.le_refl _⟩
  rw [f4_floor] at h
  refine sa_aload_n C dX4_floor_0 rfl 0 rfl ?_
  refine sa_iload_n C dX4_floor_1 rfl 1 rfl ?_
  refine sa_invVi C yy_X4_isHouse ⟨q_335, q_8⟩ q_333 dX4_floor_2 (As := [.int x1]) (rest := []) rfl ⟨Nat.le_trans (Nat.le_of_ble_eq_true rfl) hR.1, Nat.le_trans (Nat.le_of_ble_eq_true rfl) hR.2⟩ (Nat.le_of_ble_eq_true rfl) hh_X4 lx_27 (cc4_isHouse rfl) rfl ?_
  refine sa_if_eq C dX4_floor_5 (tgt := 15) (by decide) (fun c1 => ?_) (fun c1 => ?_)
  · replace h := sl_t c1 h
    refine sa_aload_n C dX4_floor_15 rfl 0 rfl ?_
    refine sa_iconst C dX4_floor_16 ic_0 ?_
    obtain ⟨r2, er2, h⟩ := sl_b h
    refine sa_invVi C yy_X4_tell ⟨q_272, q_0⟩ q_270 dX4_floor_17 (As := [.int (0 : Int32)]) (rest := []) rfl ⟨Nat.le_trans (Nat.le_of_ble_eq_true rfl) hR.1, Nat.le_trans (Nat.le_of_ble_eq_true rfl) hR.2⟩ (Nat.le_of_ble_eq_true rfl) hh_X4 lx_27 (cc4_tell er2) rfl ?_
    exact sa_iret C dX4_floor_20 (sl_p1 h) (sl_p2 h)
  · replace h := sl_n c1 h
    refine sa_iload_n C dX4_floor_8 rfl 2 rfl ?_
    refine sa_invSi C yy_X4_isFloor q_319 q_318 dX4_floor_9 (As := [.int x2]) (rest := []) rfl ⟨Nat.le_trans (Nat.le_of_ble_eq_true rfl) hR.1, Nat.le_trans (Nat.le_of_ble_eq_true rfl) hR.2⟩ (Nat.le_of_ble_eq_true rfl) (cc4_isFloor rfl) rfl ?_
    refine sa_if_ne C dX4_floor_12 (tgt := 21) (by decide) (fun c3 => ?_) (fun c3 => ?_)
    · replace h := sl_n c3 h
      refine sa_aload_n C dX4_floor_21 rfl 0 rfl ?_
      refine sa_getR C hh_X4 (k := 0) dX4_floor_22 q_235 (by decide) lx_27 rfl ?_
      refine sa_getRN C hh_X0 (k := 5) dX4_floor_25 q_132 (by decide) lx_0 rfl ?_
      refine sa_iload_n C dX4_floor_28 rfl 1 rfl ?_
      obtain ⟨v4, ev4, h⟩ := sl_b h
      refine sa_iald C dX4_floor_29 lx_6 ev4 ?_
      refine sa_istore_n C dX4_floor_30 rfl (by decide) (lv2 := [(3, .int v4), (0, .ref (g 27)), (1, .int x1), (2, .int x2)]) rfl ?_
      refine sa_aload_n C dX4_floor_31 rfl 1 rfl ?_
      refine sa_getR C hh_X4 (k := 0) dX4_floor_32 q_235 (by decide) lx_27 rfl ?_
      refine sa_getRN C hh_X0 (k := 5) dX4_floor_35 q_132 (by decide) lx_0 rfl ?_
      refine sa_iload_n C dX4_floor_38 rfl 2 rfl ?_
      refine sa_iload_n C dX4_floor_39 rfl 3 rfl ?_
      obtain ⟨M5, eM5, h⟩ := sl_b h
      refine sa_iast C dX4_floor_40 lx_6 eM5 ?_
      refine sa_iload_n C dX4_floor_41 rfl 0 rfl ?_
      exact sa_iret C dX4_floor_42 (sl_p1 h) (sl_p2 h)
    · replace h := sl_t c3 h
      refine sa_aload_n C dX4_floor_15 rfl 0 rfl ?_
      refine sa_iconst C dX4_floor_16 ic_0 ?_
      obtain ⟨r6, er6, h⟩ := sl_b h
      refine sa_invVi C yy_X4_tell ⟨q_272, q_0⟩ q_270 dX4_floor_17 (As := [.int (0 : Int32)]) (rest := []) rfl ⟨Nat.le_trans (Nat.le_of_ble_eq_true rfl) hR.1, Nat.le_trans (Nat.le_of_ble_eq_true rfl) hR.2⟩ (Nat.le_of_ble_eq_true rfl) hh_X4 lx_27 (cc4_tell er6) rfl ?_
      exact sa_iret C dX4_floor_20 (sl_p1 h) (sl_p2 h)
/-! X4 windows -/
def f4_windows (x1 : Int32) (x2 : Int32) (M : sl_M) : Option (Int32 × sl_M) := (if (f4_isHouse x1 M) = 0 then (f4_tell (0 : Int32) M).bind fun r2 => some (r2.1, r2.2) else (if (f4_isWithin x2 (0 : Int32) (3 : Int32)) = 0 then (f4_tell (0 : Int32) M).bind fun r6 => some (r6.1, r6.2) else (sl_ld (M 7) 8 x1).bind fun v4 => (sl_st M 7 8 x1 x2).bind fun M5 => some (v4, M5)))
theorem cc4_windows {D : va_G} {cA : ClassId} {g : Nat → Nat} {A : Nat → Prop} {z : sl_K} {l : Launch} {x1 : Int32} {x2 : Int32} {M : sl_M} {r : Int32 × sl_M} (h : f4_windows x1 x2 M = some r) : sl_N sl_cl LX D cA g A z l yX4_windows cX4_windows 4 (some .int) 2 43 [.ref (g 27), .int x1, .int x2] M (some (.int r.1)) r.2 := by
  refine sl_N.of (by decide) (Nat.le_of_ble_eq_true rfl) rfl ?_
  intro p e s m args below meth c C
  replace C : sl_C RX4 cX4_windows 4 (some .int) sl_cl LX D cA g A z p s m meth c := C
  have hR : 2 ≤ (({ frames := 2, cells := 0, slots := 0, locals := 43 } : Room)).frames ∧ 43 ≤ (({ frames := 2, cells := 0, slots := 0, locals := 43 } : Room)).locals := ⟨Nat.le_refl _, Nat.le_refl _⟩
  rw [f4_windows] at h
  refine sa_aload_n C dX4_windows_0 rfl 0 rfl ?_
  refine sa_iload_n C dX4_windows_1 rfl 1 rfl ?_
  refine sa_invVi C yy_X4_isHouse ⟨q_335, q_8⟩ q_333 dX4_windows_2 (As := [.int x1]) (rest := []) rfl ⟨Nat.le_trans (Nat.le_of_ble_eq_true rfl) hR.1, Nat.le_trans (Nat.le_of_ble_eq_true rfl) hR.2⟩ (Nat.le_of_ble_eq_true rfl) hh_X4 lx_27 (cc4_isHouse rfl) rfl ?_
  refine sa_if_eq C dX4_windows_5 (tgt := 17) (by decide) (fun c1 => ?_) (fun c1 => ?_)
  · replace h := sl_t c1 h
    refine sa_aload_n C dX4_windows_17 rfl 0 rfl ?_
    refine sa_iconst C dX4_windows_18 ic_0 ?_
    obtain ⟨r2, er2, h⟩ := sl_b h
    refine sa_invVi C yy_X4_tell ⟨q_272, q_0⟩ q_270 dX4_windows_19 (As := [.int (0 : Int32)]) (rest := []) rfl ⟨Nat.le_trans (Nat.le_of_ble_eq_true rfl) hR.1, Nat.le_trans (Nat.le_of_ble_eq_true rfl) hR.2⟩ (Nat.le_of_ble_eq_true rfl) hh_X4 lx_27 (cc4_tell er2) rfl ?_
    exact sa_iret C dX4_windows_22 (sl_p1 h) (sl_p2 h)
  · replace h := sl_n c1 h
    refine sa_iload_n C dX4_windows_8 rfl 2 rfl ?_
    refine sa_iconst C dX4_windows_9 ic_0 ?_
    refine sa_iconst C dX4_windows_10 ic_3 ?_
    refine sa_invSi C yy_X4_isWithin q_268 q_267 dX4_windows_11 (As := [.int x2, .int (0 : Int32), .int (3 : Int32)]) (rest := []) rfl ⟨Nat.le_trans (Nat.le_of_ble_eq_true rfl) hR.1, Nat.le_trans (Nat.le_of_ble_eq_true rfl) hR.2⟩ (Nat.le_of_ble_eq_true rfl) (cc4_isWithin rfl) rfl ?_
    refine sa_if_ne C dX4_windows_14 (tgt := 23) (by decide) (fun c3 => ?_) (fun c3 => ?_)
    · replace h := sl_n c3 h
      refine sa_aload_n C dX4_windows_23 rfl 0 rfl ?_
      refine sa_getR C hh_X4 (k := 0) dX4_windows_24 q_235 (by decide) lx_27 rfl ?_
      refine sa_getRN C hh_X0 (k := 6) dX4_windows_27 q_134 (by decide) lx_0 rfl ?_
      refine sa_iload_n C dX4_windows_30 rfl 1 rfl ?_
      obtain ⟨v4, ev4, h⟩ := sl_b h
      refine sa_iald C dX4_windows_31 lx_7 ev4 ?_
      refine sa_istore_n C dX4_windows_32 rfl (by decide) (lv2 := [(3, .int v4), (0, .ref (g 27)), (1, .int x1), (2, .int x2)]) rfl ?_
      refine sa_aload_n C dX4_windows_33 rfl 1 rfl ?_
      refine sa_getR C hh_X4 (k := 0) dX4_windows_34 q_235 (by decide) lx_27 rfl ?_
      refine sa_getRN C hh_X0 (k := 6) dX4_windows_37 q_134 (by decide) lx_0 rfl ?_
      refine sa_iload_n C dX4_windows_40 rfl 2 rfl ?_
      refine sa_iload_n C dX4_windows_41 rfl 3 rfl ?_
      obtain ⟨M5, eM5, h⟩ := sl_b h
      refine sa_iast C dX4_windows_42 lx_7 eM5 ?_
      refine sa_iload_n C dX4_windows_43 rfl 0 rfl ?_
      exact sa_iret C dX4_windows_44 (sl_p1 h) (sl_p2 h)
    · replace h := sl_t c3 h
      refine sa_aload_n C dX4_windows_17 rfl 0 rfl ?_
      refine sa_iconst C dX4_windows_18 ic_0 ?_
      obtain ⟨r6, er6, h⟩ := sl_b h
      refine sa_invVi C yy_X4_tell ⟨q_272, q_0⟩ q_270 dX4_windows_19 (As := [.int (0 : Int32)]) (rest := []) rfl ⟨Nat.le_trans (Nat.le_of_ble_eq_true rfl) hR.1, Nat.le_trans (Nat.le_of_ble_eq_true rfl) hR.2⟩ (Nat.le_of_ble_eq_true rfl) hh_X4 lx_27 (cc4_tell er6) rfl ?_
      exact sa_iret C dX4_windows_22 (sl_p1 h) (sl_p2 h)
/-! X4 law -/
def f4_law_32 (x1 : Int32) (x2 : Int32) (M : sl_M) : Option (Int32 × sl_M) := (if x1 = (1 : Int32) then (if (f4_isWithin x2 (0 : Int32) (99 : Int32)) = 0 then (f4_tell (0 : Int32) M).bind fun r4 => some (r4.1, r4.2) else some ((M 0 10), (sl_up M 0 10 x2))) else (f4_tell (0 : Int32) M).bind fun r2 => some (r2.1, r2.2))
def f4_law (x1 : Int32) (x2 : Int32) (M : sl_M) : Option (Int32 × sl_M) := (if x1 = 0 then (if (f4_isWithin x2 (1 : Int32) (23 : Int32)) = 0 then f4_law_32 x1 x2 M else some ((M 0 9), (sl_up M 0 9 x2))) else f4_law_32 x1 x2 M)
theorem w4_law_32 {D : va_G} {cA : ClassId} {g : Nat → Nat} {A : Nat → Prop} {z : sl_K} {l : Launch} {p : Program} {e : Env} {R : Room} {s : State} {m : MethodId} {args : Array Value} {below : List Frame} {meth : Method} {c : Code} (C : sl_C RX4 cX4_law 4 (some .int) sl_cl LX D cA g A z p s m meth c) (hR : 1 ≤ R.frames ∧ 22 ≤ R.locals) {M : sl_M} {r : Int32 × sl_M} {x1 : Int32} {x2 : Int32} (h : f4_law_32 x1 x2 M = some r) : sl_A sl_cl LX D cA g A p l e R s m args below meth c (MQ below (sl_Q sl_cl LX D cA g A (some (.int r.1)) r.2) args s 0 0 A) 4 32 [(0, .ref (g 27)), (1, .int x1), (2, .int x2)] [] M := by
  rw [f4_law_32] at h
  refine sa_iload_n C dX4_law_32 rfl 1 rfl ?_
  refine sa_iconst C dX4_law_33 ic_1 ?_
  refine sa_icmp_ne C dX4_law_34 (tgt := 65) (by decide) (fun c1 => ?_) (fun c1 => ?_)
  · replace h := sl_n c1 h
    refine sa_aload_n C dX4_law_65 rfl 0 rfl ?_
    refine sa_iconst C dX4_law_66 ic_0 ?_
    obtain ⟨r2, er2, h⟩ := sl_b h
    refine sa_invVi C yy_X4_tell ⟨q_272, q_0⟩ q_270 dX4_law_67 (As := [.int (0 : Int32)]) (rest := []) rfl ⟨Nat.le_trans (Nat.le_of_ble_eq_true rfl) hR.1, Nat.le_trans (Nat.le_of_ble_eq_true rfl) hR.2⟩ (Nat.le_of_ble_eq_true rfl) hh_X4 lx_27 (cc4_tell er2) rfl ?_
    exact sa_iret C dX4_law_70 (sl_p1 h) (sl_p2 h)
  · replace h := sl_t c1 h
    refine sa_iload_n C dX4_law_37 rfl 2 rfl ?_
    refine sa_iconst C dX4_law_38 ic_0 ?_
    refine sa_bipush C dX4_law_39 bp_99 ?_
    refine sa_invSi C yy_X4_isWithin q_268 q_267 dX4_law_41 (As := [.int x2, .int (0 : Int32), .int (99 : Int32)]) (rest := []) rfl ⟨Nat.le_trans (Nat.le_of_ble_eq_true rfl) hR.1, Nat.le_trans (Nat.le_of_ble_eq_true rfl) hR.2⟩ (Nat.le_of_ble_eq_true rfl) (cc4_isWithin rfl) rfl ?_
    refine sa_if_eq C dX4_law_44 (tgt := 65) (by decide) (fun c3 => ?_) (fun c3 => ?_)
    · replace h := sl_t c3 h
      refine sa_aload_n C dX4_law_65 rfl 0 rfl ?_
      refine sa_iconst C dX4_law_66 ic_0 ?_
      obtain ⟨r4, er4, h⟩ := sl_b h
      refine sa_invVi C yy_X4_tell ⟨q_272, q_0⟩ q_270 dX4_law_67 (As := [.int (0 : Int32)]) (rest := []) rfl ⟨Nat.le_trans (Nat.le_of_ble_eq_true rfl) hR.1, Nat.le_trans (Nat.le_of_ble_eq_true rfl) hR.2⟩ (Nat.le_of_ble_eq_true rfl) hh_X4 lx_27 (cc4_tell er4) rfl ?_
      exact sa_iret C dX4_law_70 (sl_p1 h) (sl_p2 h)
    · replace h := sl_n c3 h
      refine sa_aload_n C dX4_law_47 rfl 0 rfl ?_
      refine sa_getR C hh_X4 (k := 0) dX4_law_48 q_235 (by decide) lx_27 rfl ?_
      refine sa_getIN C hh_X0 (k := 10) dX4_law_51 q_144 (by decide) lx_0 rfl ?_
      refine sa_istore_n C dX4_law_54 rfl (by decide) (lv2 := [(3, .int (M 0 10)), (0, .ref (g 27)), (1, .int x1), (2, .int x2)]) rfl ?_
      refine sa_aload_n C dX4_law_55 rfl 1 rfl ?_
      refine sa_getR C hh_X4 (k := 0) dX4_law_56 q_235 (by decide) lx_27 rfl ?_
      refine sa_iload_n C dX4_law_59 rfl 3 rfl ?_
      refine sa_putN C hh_X0 (k := 10) dX4_law_60 q_144 (by decide) rfl (fty := .int) (by decide) rfl rfl lx_0 rfl ?_
      refine sa_iload_n C dX4_law_63 rfl 0 rfl ?_
      exact sa_iret C dX4_law_64 (sl_p1 h) (sl_p2 h)
theorem cc4_law {D : va_G} {cA : ClassId} {g : Nat → Nat} {A : Nat → Prop} {z : sl_K} {l : Launch} {x1 : Int32} {x2 : Int32} {M : sl_M} {r : Int32 × sl_M} (h : f4_law x1 x2 M = some r) : sl_N sl_cl LX D cA g A z l yX4_law cX4_law 4 (some .int) 1 22 [.ref (g 27), .int x1, .int x2] M (some (.int r.1)) r.2 := by
  refine sl_N.of (by decide) (Nat.le_of_ble_eq_true rfl) rfl ?_
  intro p e s m args below meth c C
  replace C : sl_C RX4 cX4_law 4 (some .int) sl_cl LX D cA g A z p s m meth c := C
  have hR : 1 ≤ (({ frames := 1, cells := 0, slots := 0, locals := 22 } : Room)).frames ∧ 22 ≤ (({ frames := 1, cells := 0, slots := 0, locals := 22 } : Room)).locals := ⟨Nat.le_refl _, Nat.le_refl _⟩
  rw [f4_law] at h
  refine sa_iload_n C dX4_law_0 rfl 1 rfl ?_
  refine sa_if_ne C dX4_law_1 (tgt := 32) (by decide) (fun c1 => ?_) (fun c1 => ?_)
  · replace h := sl_n c1 h
    exact sa_sub [0, 1, 2] rfl (w4_law_32 C hR h)
  · replace h := sl_t c1 h
    refine sa_iload_n C dX4_law_4 rfl 2 rfl ?_
    refine sa_iconst C dX4_law_5 ic_1 ?_
    refine sa_bipush C dX4_law_6 bp_23 ?_
    refine sa_invSi C yy_X4_isWithin q_268 q_267 dX4_law_8 (As := [.int x2, .int (1 : Int32), .int (23 : Int32)]) (rest := []) rfl ⟨Nat.le_trans (Nat.le_of_ble_eq_true rfl) hR.1, Nat.le_trans (Nat.le_of_ble_eq_true rfl) hR.2⟩ (Nat.le_of_ble_eq_true rfl) (cc4_isWithin rfl) rfl ?_
    refine sa_if_eq C dX4_law_11 (tgt := 32) (by decide) (fun c2 => ?_) (fun c2 => ?_)
    · replace h := sl_t c2 h
      exact sa_sub [0, 1, 2] rfl (w4_law_32 C hR h)
    · replace h := sl_n c2 h
      refine sa_aload_n C dX4_law_14 rfl 0 rfl ?_
      refine sa_getR C hh_X4 (k := 0) dX4_law_15 q_235 (by decide) lx_27 rfl ?_
      refine sa_getIN C hh_X0 (k := 9) dX4_law_18 q_141 (by decide) lx_0 rfl ?_
      refine sa_istore_n C dX4_law_21 rfl (by decide) (lv2 := [(3, .int (M 0 9)), (0, .ref (g 27)), (1, .int x1), (2, .int x2)]) rfl ?_
      refine sa_aload_n C dX4_law_22 rfl 1 rfl ?_
      refine sa_getR C hh_X4 (k := 0) dX4_law_23 q_235 (by decide) lx_27 rfl ?_
      refine sa_iload_n C dX4_law_26 rfl 3 rfl ?_
      refine sa_putN C hh_X0 (k := 9) dX4_law_27 q_141 (by decide) rfl (fty := .int) (by decide) rfl rfl lx_0 rfl ?_
      refine sa_iload_n C dX4_law_30 rfl 0 rfl ?_
      exact sa_iret C dX4_law_31 (sl_p1 h) (sl_p2 h)
/-! X4 dig -/
def f4_dig_41 (x2 : Int32) (x3 : Int32) : Nat → Int32 → Int32 → sl_M → Option (Int32 × sl_M)
  | 0, _, _, _ => none
  | n + 1, x4, x5, M => (if x2 < x5 then some (x4, M) else (f0_lower 0 x5 x3 M).bind fun r2 => (sl_ld (r2 2) 24 x5).bind fun v3 => (if v3 = 0 then f4_dig_41 x2 x3 n (x4 + (1 : Int32)) (x5 + (1 : Int32)) r2 else f4_dig_41 x2 x3 n x4 (x5 + (1 : Int32)) r2))
def f4_dig (x1 : Int32) (x2 : Int32) (x3 : Int32) (M : sl_M) : Option (Int32 × sl_M) := (if (f4_isCell x1) = 0 then (f4_tell (0 : Int32) M).bind fun r2 => some (r2.1, r2.2) else (if (f4_isCell x2) = 0 then (f4_tell (0 : Int32) M).bind fun r4 => some (r4.1, r4.2) else (if x2 < x1 then (f4_tell (0 : Int32) M).bind fun r6 => some (r6.1, r6.2) else (if (f4_isWithin x3 (1 : Int32) (99 : Int32)) = 0 then (f4_tell (0 : Int32) M).bind fun r8 => some (r8.1, r8.2) else f4_dig_41 x2 x3 400 (0 : Int32) x1 M))))
theorem w4_dig_41 {D : va_G} {cA : ClassId} {g : Nat → Nat} {A : Nat → Prop} {z : sl_K} {l : Launch} {p : Program} {e : Env} {R : Room} {s : State} {m : MethodId} {args : Array Value} {below : List Frame} {meth : Method} {c : Code} (C : sl_C RX4 cX4_dig 6 (some .int) sl_cl LX D cA g A z p s m meth c) (hR : 5 ≤ R.frames ∧ 108 ≤ R.locals) {r : Int32 × sl_M} {x2 : Int32} {x3 : Int32} : ∀ (n : Nat) {x4 : Int32} {x5 : Int32} {M : sl_M}, f4_dig_41 x2 x3 n x4 x5 M = some r → sl_A sl_cl LX D cA g A p l e R s m args below meth c (MQ below (sl_Q sl_cl LX D cA g A (some (.int r.1)) r.2) args s 0 0 A) 6 41 [(0, .ref (g 27)), (2, .int x2), (3, .int x3), (4, .int x4), (5, .int x5)] [] M := by
  intro n
  induction n with
  | zero =>
    intro x4 x5 M h
    exact absurd h.symm (Option.some_ne_none _)
  | succ n ih =>
    intro x4 x5 M h
    rw [f4_dig_41] at h
    refine sa_iload C dX4_dig_41 4 rfl ?_
    refine sa_iload_n C dX4_dig_43 rfl 1 rfl ?_
    refine sa_icmp_gt C dX4_dig_44 (tgt := 79) (by decide) (fun c1 => ?_) (fun c1 => ?_)
    · replace h := sl_t c1 h
      refine sa_iload C dX4_dig_79 3 rfl ?_
      exact sa_iret C dX4_dig_81 (sl_p1 h) (sl_p2 h)
    · replace h := sl_n c1 h
      refine sa_aload_n C dX4_dig_47 rfl 0 rfl ?_
      refine sa_getR C hh_X4 (k := 0) dX4_dig_48 q_235 (by decide) lx_27 rfl ?_
      refine sa_iload C dX4_dig_51 4 rfl ?_
      refine sa_iload_n C dX4_dig_53 rfl 2 rfl ?_
      obtain ⟨r2, er2, h⟩ := sl_b h
      refine sa_invVNv C yy_X0_lower ⟨q_359, q_10⟩ q_357 dX4_dig_54 (As := [.int x5, .int x3]) (rest := []) rfl ⟨Nat.le_trans (Nat.le_of_ble_eq_true rfl) hR.1, Nat.le_trans (Nat.le_of_ble_eq_true rfl) hR.2⟩ (Nat.le_of_ble_eq_true rfl) hh_X0 lx_0 (cc0_lower sl_j0 er2) rfl ?_
      refine sa_aload_n C dX4_dig_57 rfl 0 rfl ?_
      refine sa_getR C hh_X4 (k := 0) dX4_dig_58 q_235 (by decide) lx_27 rfl ?_
      refine sa_getRN C hh_X0 (k := 1) dX4_dig_61 q_124 (by decide) lx_0 rfl ?_
      refine sa_iload C dX4_dig_64 4 rfl ?_
      obtain ⟨v3, ev3, h⟩ := sl_b h
      refine sa_iald C dX4_dig_66 lx_2 ev3 ?_
      refine sa_if_ne C dX4_dig_67 (tgt := 73) (by decide) (fun c4 => ?_) (fun c4 => ?_)
      · replace h := sl_n c4 h
        refine sa_iinc C dX4_dig_73 4 rfl (v := (x5 + (1 : Int32))) (by rw [ic_1]) (by decide) (lv2 := [(5, .int (x5 + (1 : Int32))), (0, .ref (g 27)), (2, .int x2), (3, .int x3), (4, .int x4)]) rfl ?_
        refine sa_goto C dX4_dig_76 (tgt := 41) (by decide) ?_
        exact sa_sub [1, 2, 3, 4, 0] rfl (ih h)
      · replace h := sl_t c4 h
        refine sa_iinc C dX4_dig_70 3 rfl (v := (x4 + (1 : Int32))) (by rw [ic_1]) (by decide) (lv2 := [(4, .int (x4 + (1 : Int32))), (0, .ref (g 27)), (2, .int x2), (3, .int x3), (5, .int x5)]) rfl ?_
        refine sa_iinc C dX4_dig_73 4 rfl (v := (x5 + (1 : Int32))) (by rw [ic_1]) (by decide) (lv2 := [(5, .int (x5 + (1 : Int32))), (4, .int (x4 + (1 : Int32))), (0, .ref (g 27)), (2, .int x2), (3, .int x3)]) rfl ?_
        refine sa_goto C dX4_dig_76 (tgt := 41) (by decide) ?_
        exact sa_sub [2, 3, 4, 1, 0] rfl (ih h)
theorem cc4_dig {D : va_G} {cA : ClassId} {g : Nat → Nat} {A : Nat → Prop} {z : sl_K} {l : Launch} {x1 : Int32} {x2 : Int32} {x3 : Int32} {M : sl_M} {r : Int32 × sl_M} (h : f4_dig x1 x2 x3 M = some r) : sl_N sl_cl LX D cA g A z l yX4_dig cX4_dig 6 (some .int) 5 108 [.ref (g 27), .int x1, .int x2, .int x3] M (some (.int r.1)) r.2 := by
  refine sl_N.of (by decide) (Nat.le_of_ble_eq_true rfl) rfl ?_
  intro p e s m args below meth c C
  replace C : sl_C RX4 cX4_dig 6 (some .int) sl_cl LX D cA g A z p s m meth c := C
  have hR : 5 ≤ (({ frames := 5, cells := 0, slots := 0, locals := 108 } : Room)).frames ∧ 108 ≤ (({ frames := 5, cells := 0, slots := 0, locals := 108 } : Room)).locals := ⟨Nat.le_refl _, Nat.le_refl _⟩
  rw [f4_dig] at h
  refine sa_iload_n C dX4_dig_0 rfl 1 rfl ?_
  refine sa_invSi C yy_X4_isCell q_265 q_264 dX4_dig_1 (As := [.int x1]) (rest := []) rfl ⟨Nat.le_trans (Nat.le_of_ble_eq_true rfl) hR.1, Nat.le_trans (Nat.le_of_ble_eq_true rfl) hR.2⟩ (Nat.le_of_ble_eq_true rfl) (cc4_isCell rfl) rfl ?_
  refine sa_if_eq C dX4_dig_4 (tgt := 29) (by decide) (fun c1 => ?_) (fun c1 => ?_)
  · replace h := sl_t c1 h
    refine sa_aload_n C dX4_dig_29 rfl 0 rfl ?_
    refine sa_iconst C dX4_dig_30 ic_0 ?_
    obtain ⟨r2, er2, h⟩ := sl_b h
    refine sa_invVi C yy_X4_tell ⟨q_272, q_0⟩ q_270 dX4_dig_31 (As := [.int (0 : Int32)]) (rest := []) rfl ⟨Nat.le_trans (Nat.le_of_ble_eq_true rfl) hR.1, Nat.le_trans (Nat.le_of_ble_eq_true rfl) hR.2⟩ (Nat.le_of_ble_eq_true rfl) hh_X4 lx_27 (cc4_tell er2) rfl ?_
    exact sa_iret C dX4_dig_34 (sl_p1 h) (sl_p2 h)
  · replace h := sl_n c1 h
    refine sa_iload_n C dX4_dig_7 rfl 2 rfl ?_
    refine sa_invSi C yy_X4_isCell q_265 q_264 dX4_dig_8 (As := [.int x2]) (rest := []) rfl ⟨Nat.le_trans (Nat.le_of_ble_eq_true rfl) hR.1, Nat.le_trans (Nat.le_of_ble_eq_true rfl) hR.2⟩ (Nat.le_of_ble_eq_true rfl) (cc4_isCell rfl) rfl ?_
    refine sa_if_eq C dX4_dig_11 (tgt := 29) (by decide) (fun c3 => ?_) (fun c3 => ?_)
    · replace h := sl_t c3 h
      refine sa_aload_n C dX4_dig_29 rfl 0 rfl ?_
      refine sa_iconst C dX4_dig_30 ic_0 ?_
      obtain ⟨r4, er4, h⟩ := sl_b h
      refine sa_invVi C yy_X4_tell ⟨q_272, q_0⟩ q_270 dX4_dig_31 (As := [.int (0 : Int32)]) (rest := []) rfl ⟨Nat.le_trans (Nat.le_of_ble_eq_true rfl) hR.1, Nat.le_trans (Nat.le_of_ble_eq_true rfl) hR.2⟩ (Nat.le_of_ble_eq_true rfl) hh_X4 lx_27 (cc4_tell er4) rfl ?_
      exact sa_iret C dX4_dig_34 (sl_p1 h) (sl_p2 h)
    · replace h := sl_n c3 h
      refine sa_iload_n C dX4_dig_14 rfl 2 rfl ?_
      refine sa_iload_n C dX4_dig_15 rfl 1 rfl ?_
      refine sa_icmp_lt C dX4_dig_16 (tgt := 29) (by decide) (fun c5 => ?_) (fun c5 => ?_)
      · replace h := sl_t c5 h
        refine sa_aload_n C dX4_dig_29 rfl 0 rfl ?_
        refine sa_iconst C dX4_dig_30 ic_0 ?_
        obtain ⟨r6, er6, h⟩ := sl_b h
        refine sa_invVi C yy_X4_tell ⟨q_272, q_0⟩ q_270 dX4_dig_31 (As := [.int (0 : Int32)]) (rest := []) rfl ⟨Nat.le_trans (Nat.le_of_ble_eq_true rfl) hR.1, Nat.le_trans (Nat.le_of_ble_eq_true rfl) hR.2⟩ (Nat.le_of_ble_eq_true rfl) hh_X4 lx_27 (cc4_tell er6) rfl ?_
        exact sa_iret C dX4_dig_34 (sl_p1 h) (sl_p2 h)
      · replace h := sl_n c5 h
        refine sa_iload_n C dX4_dig_19 rfl 3 rfl ?_
        refine sa_iconst C dX4_dig_20 ic_1 ?_
        refine sa_bipush C dX4_dig_21 bp_99 ?_
        refine sa_invSi C yy_X4_isWithin q_268 q_267 dX4_dig_23 (As := [.int x3, .int (1 : Int32), .int (99 : Int32)]) (rest := []) rfl ⟨Nat.le_trans (Nat.le_of_ble_eq_true rfl) hR.1, Nat.le_trans (Nat.le_of_ble_eq_true rfl) hR.2⟩ (Nat.le_of_ble_eq_true rfl) (cc4_isWithin rfl) rfl ?_
        refine sa_if_ne C dX4_dig_26 (tgt := 35) (by decide) (fun c7 => ?_) (fun c7 => ?_)
        · replace h := sl_n c7 h
          refine sa_iconst C dX4_dig_35 ic_0 ?_
          refine sa_istore C dX4_dig_36 (by decide) (lv2 := [(4, .int (0 : Int32)), (0, .ref (g 27)), (1, .int x1), (2, .int x2), (3, .int x3)]) rfl ?_
          refine sa_iload_n C dX4_dig_38 rfl 2 rfl ?_
          refine sa_istore C dX4_dig_39 (by decide) (lv2 := [(5, .int x1), (4, .int (0 : Int32)), (0, .ref (g 27)), (1, .int x1), (2, .int x2), (3, .int x3)]) rfl ?_
          exact sa_sub [2, 4, 5, 1, 0] rfl (w4_dig_41 C hR 400 h)
        · replace h := sl_t c7 h
          refine sa_aload_n C dX4_dig_29 rfl 0 rfl ?_
          refine sa_iconst C dX4_dig_30 ic_0 ?_
          obtain ⟨r8, er8, h⟩ := sl_b h
          refine sa_invVi C yy_X4_tell ⟨q_272, q_0⟩ q_270 dX4_dig_31 (As := [.int (0 : Int32)]) (rest := []) rfl ⟨Nat.le_trans (Nat.le_of_ble_eq_true rfl) hR.1, Nat.le_trans (Nat.le_of_ble_eq_true rfl) hR.2⟩ (Nat.le_of_ble_eq_true rfl) hh_X4 lx_27 (cc4_tell er8) rfl ?_
          exact sa_iret C dX4_dig_34 (sl_p1 h) (sl_p2 h)
/-! X4 drain -/
def f4_drain_20 (x1 : Int32) : Nat → Int32 → Int32 → sl_M → Option (Int32 × sl_M)
  | 0, _, _, _ => none
  | n + 1, x2, x3, M => (if (24 : Int32) ≤ x3 then some (x2, M) else (sl_ld (M 1) 24 x3).bind fun v2 => (if v2 = (1 : Int32) then (f0_turnInto 0 x3 (2 : Int32) M).bind fun r4 => (f0_lower 0 x3 x1 r4).bind fun r5 => f4_drain_20 x1 n (x2 + (1 : Int32)) (x3 + (1 : Int32)) r5 else f4_drain_20 x1 n x2 (x3 + (1 : Int32)) M))
def f4_drain (x1 : Int32) (M : sl_M) : Option (Int32 × sl_M) := (if (f4_isWithin x1 (0 : Int32) (20 : Int32)) = 0 then (f4_tell (0 : Int32) M).bind fun r2 => some (r2.1, r2.2) else f4_drain_20 x1 400 (0 : Int32) (0 : Int32) M)
theorem w4_drain_20 {D : va_G} {cA : ClassId} {g : Nat → Nat} {A : Nat → Prop} {z : sl_K} {l : Launch} {p : Program} {e : Env} {R : Room} {s : State} {m : MethodId} {args : Array Value} {below : List Frame} {meth : Method} {c : Code} (C : sl_C RX4 cX4_drain 4 (some .int) sl_cl LX D cA g A z p s m meth c) (hR : 5 ≤ R.frames ∧ 108 ≤ R.locals) {r : Int32 × sl_M} {x1 : Int32} : ∀ (n : Nat) {x2 : Int32} {x3 : Int32} {M : sl_M}, f4_drain_20 x1 n x2 x3 M = some r → sl_A sl_cl LX D cA g A p l e R s m args below meth c (MQ below (sl_Q sl_cl LX D cA g A (some (.int r.1)) r.2) args s 0 0 A) 4 20 [(0, .ref (g 27)), (1, .int x1), (2, .int x2), (3, .int x3)] [] M := by
  intro n
  induction n with
  | zero =>
    intro x2 x3 M h
    exact absurd h.symm (Option.some_ne_none _)
  | succ n ih =>
    intro x2 x3 M h
    rw [f4_drain_20] at h
    refine sa_iload_n C dX4_drain_20 rfl 3 rfl ?_
    refine sa_bipush C dX4_drain_21 bp_24 ?_
    refine sa_icmp_ge C dX4_drain_23 (tgt := 66) (by decide) (fun c1 => ?_) (fun c1 => ?_)
    · replace h := sl_t c1 h
      refine sa_iload_n C dX4_drain_66 rfl 2 rfl ?_
      exact sa_iret C dX4_drain_67 (sl_p1 h) (sl_p2 h)
    · replace h := sl_n c1 h
      refine sa_aload_n C dX4_drain_26 rfl 0 rfl ?_
      refine sa_getR C hh_X4 (k := 0) dX4_drain_27 q_235 (by decide) lx_27 rfl ?_
      refine sa_getRN C hh_X0 (k := 0) dX4_drain_30 q_122 (by decide) lx_0 rfl ?_
      refine sa_iload_n C dX4_drain_33 rfl 3 rfl ?_
      obtain ⟨v2, ev2, h⟩ := sl_b h
      refine sa_iald C dX4_drain_34 lx_1 ev2 ?_
      refine sa_iconst C dX4_drain_35 ic_1 ?_
      refine sa_icmp_ne C dX4_drain_36 (tgt := 60) (by decide) (fun c3 => ?_) (fun c3 => ?_)
      · replace h := sl_n c3 h
        refine sa_iinc C dX4_drain_60 3 rfl (v := (x3 + (1 : Int32))) (by rw [ic_1]) (by decide) (lv2 := [(3, .int (x3 + (1 : Int32))), (0, .ref (g 27)), (1, .int x1), (2, .int x2)]) rfl ?_
        refine sa_goto C dX4_drain_63 (tgt := 20) (by decide) ?_
        exact sa_sub [1, 2, 3, 0] rfl (ih h)
      · replace h := sl_t c3 h
        refine sa_aload_n C dX4_drain_39 rfl 0 rfl ?_
        refine sa_getR C hh_X4 (k := 0) dX4_drain_40 q_235 (by decide) lx_27 rfl ?_
        refine sa_iload_n C dX4_drain_43 rfl 3 rfl ?_
        refine sa_iconst C dX4_drain_44 ic_2 ?_
        obtain ⟨r4, er4, h⟩ := sl_b h
        refine sa_invVNv C yy_X0_turnInto ⟨q_371, q_11⟩ q_369 dX4_drain_45 (As := [.int x3, .int (2 : Int32)]) (rest := []) rfl ⟨Nat.le_trans (Nat.le_of_ble_eq_true rfl) hR.1, Nat.le_trans (Nat.le_of_ble_eq_true rfl) hR.2⟩ (Nat.le_of_ble_eq_true rfl) hh_X0 lx_0 (cc0_turnInto sl_j0 er4) rfl ?_
        refine sa_aload_n C dX4_drain_48 rfl 0 rfl ?_
        refine sa_getR C hh_X4 (k := 0) dX4_drain_49 q_235 (by decide) lx_27 rfl ?_
        refine sa_iload_n C dX4_drain_52 rfl 3 rfl ?_
        refine sa_iload_n C dX4_drain_53 rfl 1 rfl ?_
        obtain ⟨r5, er5, h⟩ := sl_b h
        refine sa_invVNv C yy_X0_lower ⟨q_359, q_10⟩ q_357 dX4_drain_54 (As := [.int x3, .int x1]) (rest := []) rfl ⟨Nat.le_trans (Nat.le_of_ble_eq_true rfl) hR.1, Nat.le_trans (Nat.le_of_ble_eq_true rfl) hR.2⟩ (Nat.le_of_ble_eq_true rfl) hh_X0 lx_0 (cc0_lower sl_j0 er5) rfl ?_
        refine sa_iinc C dX4_drain_57 2 rfl (v := (x2 + (1 : Int32))) (by rw [ic_1]) (by decide) (lv2 := [(2, .int (x2 + (1 : Int32))), (0, .ref (g 27)), (1, .int x1), (3, .int x3)]) rfl ?_
        refine sa_iinc C dX4_drain_60 3 rfl (v := (x3 + (1 : Int32))) (by rw [ic_1]) (by decide) (lv2 := [(3, .int (x3 + (1 : Int32))), (2, .int (x2 + (1 : Int32))), (0, .ref (g 27)), (1, .int x1)]) rfl ?_
        refine sa_goto C dX4_drain_63 (tgt := 20) (by decide) ?_
        exact sa_sub [2, 3, 1, 0] rfl (ih h)
theorem cc4_drain {D : va_G} {cA : ClassId} {g : Nat → Nat} {A : Nat → Prop} {z : sl_K} {l : Launch} {x1 : Int32} {M : sl_M} {r : Int32 × sl_M} (h : f4_drain x1 M = some r) : sl_N sl_cl LX D cA g A z l yX4_drain cX4_drain 4 (some .int) 5 108 [.ref (g 27), .int x1] M (some (.int r.1)) r.2 := by
  refine sl_N.of (by decide) (Nat.le_of_ble_eq_true rfl) rfl ?_
  intro p e s m args below meth c C
  replace C : sl_C RX4 cX4_drain 4 (some .int) sl_cl LX D cA g A z p s m meth c := C
  have hR : 5 ≤ (({ frames := 5, cells := 0, slots := 0, locals := 108 } : Room)).frames ∧ 108 ≤ (({ frames := 5, cells := 0, slots := 0, locals := 108 } : Room)).locals := ⟨Nat.le_refl _, Nat.le_refl _⟩
  rw [f4_drain] at h
  refine sa_iload_n C dX4_drain_0 rfl 1 rfl ?_
  refine sa_iconst C dX4_drain_1 ic_0 ?_
  refine sa_bipush C dX4_drain_2 bp_20 ?_
  refine sa_invSi C yy_X4_isWithin q_268 q_267 dX4_drain_4 (As := [.int x1, .int (0 : Int32), .int (20 : Int32)]) (rest := []) rfl ⟨Nat.le_trans (Nat.le_of_ble_eq_true rfl) hR.1, Nat.le_trans (Nat.le_of_ble_eq_true rfl) hR.2⟩ (Nat.le_of_ble_eq_true rfl) (cc4_isWithin rfl) rfl ?_
  refine sa_if_ne C dX4_drain_7 (tgt := 16) (by decide) (fun c1 => ?_) (fun c1 => ?_)
  · replace h := sl_n c1 h
    refine sa_iconst C dX4_drain_16 ic_0 ?_
    refine sa_istore_n C dX4_drain_17 rfl (by decide) (lv2 := [(2, .int (0 : Int32)), (0, .ref (g 27)), (1, .int x1)]) rfl ?_
    refine sa_iconst C dX4_drain_18 ic_0 ?_
    refine sa_istore_n C dX4_drain_19 rfl (by decide) (lv2 := [(3, .int (0 : Int32)), (2, .int (0 : Int32)), (0, .ref (g 27)), (1, .int x1)]) rfl ?_
    exact sa_sub [2, 3, 1, 0] rfl (w4_drain_20 C hR 400 h)
  · replace h := sl_t c1 h
    refine sa_aload_n C dX4_drain_10 rfl 0 rfl ?_
    refine sa_iconst C dX4_drain_11 ic_0 ?_
    obtain ⟨r2, er2, h⟩ := sl_b h
    refine sa_invVi C yy_X4_tell ⟨q_272, q_0⟩ q_270 dX4_drain_12 (As := [.int (0 : Int32)]) (rest := []) rfl ⟨Nat.le_trans (Nat.le_of_ble_eq_true rfl) hR.1, Nat.le_trans (Nat.le_of_ble_eq_true rfl) hR.2⟩ (Nat.le_of_ble_eq_true rfl) hh_X4 lx_27 (cc4_tell er2) rfl ?_
    exact sa_iret C dX4_drain_15 (sl_p1 h) (sl_p2 h)
/-! X4 sight -/
def f4_sight (x1 : Int32) (M : sl_M) : Option (Int32 × sl_M) := (if (f4_isHouse x1 M) = 0 then (f4_tell (0 : Int32) M).bind fun r3 => some (r3.1, r3.2) else (f0_sightOf 0 x1 M).bind fun r2 => some (r2, M))
theorem cc4_sight {D : va_G} {cA : ClassId} {g : Nat → Nat} {A : Nat → Prop} {z : sl_K} {l : Launch} {x1 : Int32} {M : sl_M} {r : Int32 × sl_M} (h : f4_sight x1 M = some r) : sl_N sl_cl LX D cA g A z l yX4_sight cX4_sight 2 (some .int) 3 74 [.ref (g 27), .int x1] M (some (.int r.1)) r.2 := by
  refine sl_N.of (by decide) (Nat.le_of_ble_eq_true rfl) rfl ?_
  intro p e s m args below meth c C
  replace C : sl_C RX4 cX4_sight 2 (some .int) sl_cl LX D cA g A z p s m meth c := C
  have hR : 3 ≤ (({ frames := 3, cells := 0, slots := 0, locals := 74 } : Room)).frames ∧ 74 ≤ (({ frames := 3, cells := 0, slots := 0, locals := 74 } : Room)).locals := ⟨Nat.le_refl _, Nat.le_refl _⟩
  rw [f4_sight] at h
  refine sa_aload_n C dX4_sight_0 rfl 0 rfl ?_
  refine sa_iload_n C dX4_sight_1 rfl 1 rfl ?_
  refine sa_invVi C yy_X4_isHouse ⟨q_335, q_8⟩ q_333 dX4_sight_2 (As := [.int x1]) (rest := []) rfl ⟨Nat.le_trans (Nat.le_of_ble_eq_true rfl) hR.1, Nat.le_trans (Nat.le_of_ble_eq_true rfl) hR.2⟩ (Nat.le_of_ble_eq_true rfl) hh_X4 lx_27 (cc4_isHouse rfl) rfl ?_
  refine sa_if_ne C dX4_sight_5 (tgt := 14) (by decide) (fun c1 => ?_) (fun c1 => ?_)
  · replace h := sl_n c1 h
    refine sa_aload_n C dX4_sight_14 rfl 0 rfl ?_
    refine sa_getR C hh_X4 (k := 0) dX4_sight_15 q_235 (by decide) lx_27 rfl ?_
    refine sa_iload_n C dX4_sight_18 rfl 1 rfl ?_
    obtain ⟨r2, er2, h⟩ := sl_b h
    refine sa_invVNi C yy_X0_sightOf ⟨q_379, q_12⟩ q_377 dX4_sight_19 (As := [.int x1]) (rest := []) rfl ⟨Nat.le_trans (Nat.le_of_ble_eq_true rfl) hR.1, Nat.le_trans (Nat.le_of_ble_eq_true rfl) hR.2⟩ (Nat.le_of_ble_eq_true rfl) hh_X0 lx_0 (cc0_sightOf sl_j0 er2) rfl ?_
    exact sa_iret C dX4_sight_22 (sl_p1 h) (sl_p2 h)
  · replace h := sl_t c1 h
    refine sa_aload_n C dX4_sight_8 rfl 0 rfl ?_
    refine sa_iconst C dX4_sight_9 ic_0 ?_
    obtain ⟨r3, er3, h⟩ := sl_b h
    refine sa_invVi C yy_X4_tell ⟨q_272, q_0⟩ q_270 dX4_sight_10 (As := [.int (0 : Int32)]) (rest := []) rfl ⟨Nat.le_trans (Nat.le_of_ble_eq_true rfl) hR.1, Nat.le_trans (Nat.le_of_ble_eq_true rfl) hR.2⟩ (Nat.le_of_ble_eq_true rfl) hh_X4 lx_27 (cc4_tell er3) rfl ?_
    exact sa_iret C dX4_sight_13 (sl_p1 h) (sl_p2 h)
/-! X4 sees -/
def f4_sees (x1 : Int32) (x2 : Int32) (M : sl_M) : Option (Int32 × sl_M) := (if (f4_isHouse x1 M) = 0 then (f4_tell (0 : Int32) M).bind fun r2 => some (r2.1, r2.2) else (if (f4_isCell x2) = 0 then (f4_tell (0 : Int32) M).bind fun r6 => some (r6.1, r6.2) else (f0_hasInSight 0 x1 x2 M).bind fun r4 => (if r4 = 0 then some ((0 : Int32), M) else some ((1 : Int32), M))))
theorem cc4_sees {D : va_G} {cA : ClassId} {g : Nat → Nat} {A : Nat → Prop} {z : sl_K} {l : Launch} {x1 : Int32} {x2 : Int32} {M : sl_M} {r : Int32 × sl_M} (h : f4_sees x1 x2 M = some r) : sl_N sl_cl LX D cA g A z l yX4_sees cX4_sees 3 (some .int) 4 96 [.ref (g 27), .int x1, .int x2] M (some (.int r.1)) r.2 := by
  refine sl_N.of (by decide) (Nat.le_of_ble_eq_true rfl) rfl ?_
  intro p e s m args below meth c C
  replace C : sl_C RX4 cX4_sees 3 (some .int) sl_cl LX D cA g A z p s m meth c := C
  have hR : 4 ≤ (({ frames := 4, cells := 0, slots := 0, locals := 96 } : Room)).frames ∧ 96 ≤ (({ frames := 4, cells := 0, slots := 0, locals := 96 } : Room)).locals := ⟨Nat.le_refl _, Nat.le_refl _⟩
  rw [f4_sees] at h
  refine sa_aload_n C dX4_sees_0 rfl 0 rfl ?_
  refine sa_iload_n C dX4_sees_1 rfl 1 rfl ?_
  refine sa_invVi C yy_X4_isHouse ⟨q_335, q_8⟩ q_333 dX4_sees_2 (As := [.int x1]) (rest := []) rfl ⟨Nat.le_trans (Nat.le_of_ble_eq_true rfl) hR.1, Nat.le_trans (Nat.le_of_ble_eq_true rfl) hR.2⟩ (Nat.le_of_ble_eq_true rfl) hh_X4 lx_27 (cc4_isHouse rfl) rfl ?_
  refine sa_if_eq C dX4_sees_5 (tgt := 15) (by decide) (fun c1 => ?_) (fun c1 => ?_)
  · replace h := sl_t c1 h
    refine sa_aload_n C dX4_sees_15 rfl 0 rfl ?_
    refine sa_iconst C dX4_sees_16 ic_0 ?_
    obtain ⟨r2, er2, h⟩ := sl_b h
    refine sa_invVi C yy_X4_tell ⟨q_272, q_0⟩ q_270 dX4_sees_17 (As := [.int (0 : Int32)]) (rest := []) rfl ⟨Nat.le_trans (Nat.le_of_ble_eq_true rfl) hR.1, Nat.le_trans (Nat.le_of_ble_eq_true rfl) hR.2⟩ (Nat.le_of_ble_eq_true rfl) hh_X4 lx_27 (cc4_tell er2) rfl ?_
    exact sa_iret C dX4_sees_20 (sl_p1 h) (sl_p2 h)
  · replace h := sl_n c1 h
    refine sa_iload_n C dX4_sees_8 rfl 2 rfl ?_
    refine sa_invSi C yy_X4_isCell q_265 q_264 dX4_sees_9 (As := [.int x2]) (rest := []) rfl ⟨Nat.le_trans (Nat.le_of_ble_eq_true rfl) hR.1, Nat.le_trans (Nat.le_of_ble_eq_true rfl) hR.2⟩ (Nat.le_of_ble_eq_true rfl) (cc4_isCell rfl) rfl ?_
    refine sa_if_ne C dX4_sees_12 (tgt := 21) (by decide) (fun c3 => ?_) (fun c3 => ?_)
    · replace h := sl_n c3 h
      refine sa_aload_n C dX4_sees_21 rfl 0 rfl ?_
      refine sa_getR C hh_X4 (k := 0) dX4_sees_22 q_235 (by decide) lx_27 rfl ?_
      refine sa_iload_n C dX4_sees_25 rfl 1 rfl ?_
      refine sa_iload_n C dX4_sees_26 rfl 2 rfl ?_
      obtain ⟨r4, er4, h⟩ := sl_b h
      refine sa_invVNi C yy_X0_hasInSight ⟨q_392, q_14⟩ q_390 dX4_sees_27 (As := [.int x1, .int x2]) (rest := []) rfl ⟨Nat.le_trans (Nat.le_of_ble_eq_true rfl) hR.1, Nat.le_trans (Nat.le_of_ble_eq_true rfl) hR.2⟩ (Nat.le_of_ble_eq_true rfl) hh_X0 lx_0 (cc0_hasInSight sl_j0 er4) rfl ?_
      refine sa_if_eq C dX4_sees_30 (tgt := 37) (by decide) (fun c5 => ?_) (fun c5 => ?_)
      · replace h := sl_t c5 h
        refine sa_iconst C dX4_sees_37 ic_0 ?_
        exact sa_iret C dX4_sees_38 (sl_p1 h) (sl_p2 h)
      · replace h := sl_n c5 h
        refine sa_iconst C dX4_sees_33 ic_1 ?_
        refine sa_goto C dX4_sees_34 (tgt := 38) (by decide) ?_
        exact sa_iret C dX4_sees_38 (sl_p1 h) (sl_p2 h)
    · replace h := sl_t c3 h
      refine sa_aload_n C dX4_sees_15 rfl 0 rfl ?_
      refine sa_iconst C dX4_sees_16 ic_0 ?_
      obtain ⟨r6, er6, h⟩ := sl_b h
      refine sa_invVi C yy_X4_tell ⟨q_272, q_0⟩ q_270 dX4_sees_17 (As := [.int (0 : Int32)]) (rest := []) rfl ⟨Nat.le_trans (Nat.le_of_ble_eq_true rfl) hR.1, Nat.le_trans (Nat.le_of_ble_eq_true rfl) hR.2⟩ (Nat.le_of_ble_eq_true rfl) hh_X4 lx_27 (cc4_tell er6) rfl ?_
      exact sa_iret C dX4_sees_20 (sl_p1 h) (sl_p2 h)
/-! X4 seenBy -/
def f4_seenBy_17 (x1 : Int32) : Nat → Int32 → Int32 → sl_M → Option (Int32 × sl_M)
  | 0, _, _, _ => none
  | n + 1, x2, x3, M => (if (M 0 8) ≤ x3 then some (x2, M) else (f0_hasInSight 0 x3 x1 M).bind fun r2 => (if r2 = 0 then f4_seenBy_17 x1 n x2 (x3 + (1 : Int32)) M else f4_seenBy_17 x1 n (x2 ||| ((1 : Int32) <<< (x3 &&& 31))) (x3 + (1 : Int32)) M))
def f4_seenBy (x1 : Int32) (M : sl_M) : Option (Int32 × sl_M) := (if (f4_isCell x1) = 0 then (f4_tell (0 : Int32) M).bind fun r2 => some (r2.1, r2.2) else f4_seenBy_17 x1 400 (0 : Int32) (0 : Int32) M)
theorem w4_seenBy_17 {D : va_G} {cA : ClassId} {g : Nat → Nat} {A : Nat → Prop} {z : sl_K} {l : Launch} {p : Program} {e : Env} {R : Room} {s : State} {m : MethodId} {args : Array Value} {below : List Frame} {meth : Method} {c : Code} (C : sl_C RX4 cX4_seenBy 4 (some .int) sl_cl LX D cA g A z p s m meth c) (hR : 4 ≤ R.frames ∧ 96 ≤ R.locals) {r : Int32 × sl_M} {x1 : Int32} : ∀ (n : Nat) {x2 : Int32} {x3 : Int32} {M : sl_M}, f4_seenBy_17 x1 n x2 x3 M = some r → sl_A sl_cl LX D cA g A p l e R s m args below meth c (MQ below (sl_Q sl_cl LX D cA g A (some (.int r.1)) r.2) args s 0 0 A) 4 17 [(0, .ref (g 27)), (1, .int x1), (2, .int x2), (3, .int x3)] [] M := by
  intro n
  induction n with
  | zero =>
    intro x2 x3 M h
    exact absurd h.symm (Option.some_ne_none _)
  | succ n ih =>
    intro x2 x3 M h
    rw [f4_seenBy_17] at h
    refine sa_iload_n C dX4_seenBy_17 rfl 3 rfl ?_
    refine sa_aload_n C dX4_seenBy_18 rfl 0 rfl ?_
    refine sa_getR C hh_X4 (k := 0) dX4_seenBy_19 q_235 (by decide) lx_27 rfl ?_
    refine sa_getIN C hh_X0 (k := 8) dX4_seenBy_22 q_138 (by decide) lx_0 rfl ?_
    refine sa_icmp_ge C dX4_seenBy_25 (tgt := 52) (by decide) (fun c1 => ?_) (fun c1 => ?_)
    · replace h := sl_t c1 h
      refine sa_iload_n C dX4_seenBy_52 rfl 2 rfl ?_
      exact sa_iret C dX4_seenBy_53 (sl_p1 h) (sl_p2 h)
    · replace h := sl_n c1 h
      refine sa_aload_n C dX4_seenBy_28 rfl 0 rfl ?_
      refine sa_getR C hh_X4 (k := 0) dX4_seenBy_29 q_235 (by decide) lx_27 rfl ?_
      refine sa_iload_n C dX4_seenBy_32 rfl 3 rfl ?_
      refine sa_iload_n C dX4_seenBy_33 rfl 1 rfl ?_
      obtain ⟨r2, er2, h⟩ := sl_b h
      refine sa_invVNi C yy_X0_hasInSight ⟨q_392, q_14⟩ q_390 dX4_seenBy_34 (As := [.int x3, .int x1]) (rest := []) rfl ⟨Nat.le_trans (Nat.le_of_ble_eq_true rfl) hR.1, Nat.le_trans (Nat.le_of_ble_eq_true rfl) hR.2⟩ (Nat.le_of_ble_eq_true rfl) hh_X0 lx_0 (cc0_hasInSight sl_j0 er2) rfl ?_
      refine sa_if_eq C dX4_seenBy_37 (tgt := 46) (by decide) (fun c3 => ?_) (fun c3 => ?_)
      · replace h := sl_t c3 h
        refine sa_iinc C dX4_seenBy_46 3 rfl (v := (x3 + (1 : Int32))) (by rw [ic_1]) (by decide) (lv2 := [(3, .int (x3 + (1 : Int32))), (0, .ref (g 27)), (1, .int x1), (2, .int x2)]) rfl ?_
        refine sa_goto C dX4_seenBy_49 (tgt := 17) (by decide) ?_
        exact sa_sub [1, 2, 3, 0] rfl (ih h)
      · replace h := sl_n c3 h
        refine sa_iload_n C dX4_seenBy_40 rfl 2 rfl ?_
        refine sa_iconst C dX4_seenBy_41 ic_1 ?_
        refine sa_iload_n C dX4_seenBy_42 rfl 3 rfl ?_
        refine sa_ishl C dX4_seenBy_43 ?_
        refine sa_ior C dX4_seenBy_44 ?_
        refine sa_istore_n C dX4_seenBy_45 rfl (by decide) (lv2 := [(2, .int (x2 ||| ((1 : Int32) <<< (x3 &&& 31)))), (0, .ref (g 27)), (1, .int x1), (3, .int x3)]) rfl ?_
        refine sa_iinc C dX4_seenBy_46 3 rfl (v := (x3 + (1 : Int32))) (by rw [ic_1]) (by decide) (lv2 := [(3, .int (x3 + (1 : Int32))), (2, .int (x2 ||| ((1 : Int32) <<< (x3 &&& 31)))), (0, .ref (g 27)), (1, .int x1)]) rfl ?_
        refine sa_goto C dX4_seenBy_49 (tgt := 17) (by decide) ?_
        exact sa_sub [2, 3, 1, 0] rfl (ih h)
theorem cc4_seenBy {D : va_G} {cA : ClassId} {g : Nat → Nat} {A : Nat → Prop} {z : sl_K} {l : Launch} {x1 : Int32} {M : sl_M} {r : Int32 × sl_M} (h : f4_seenBy x1 M = some r) : sl_N sl_cl LX D cA g A z l yX4_seenBy cX4_seenBy 4 (some .int) 4 96 [.ref (g 27), .int x1] M (some (.int r.1)) r.2 := by
  refine sl_N.of (by decide) (Nat.le_of_ble_eq_true rfl) rfl ?_
  intro p e s m args below meth c C
  replace C : sl_C RX4 cX4_seenBy 4 (some .int) sl_cl LX D cA g A z p s m meth c := C
  have hR : 4 ≤ (({ frames := 4, cells := 0, slots := 0, locals := 96 } : Room)).frames ∧ 96 ≤ (({ frames := 4, cells := 0, slots := 0, locals := 96 } : Room)).locals := ⟨Nat.le_refl _, Nat.le_refl _⟩
  rw [f4_seenBy] at h
  refine sa_iload_n C dX4_seenBy_0 rfl 1 rfl ?_
  refine sa_invSi C yy_X4_isCell q_265 q_264 dX4_seenBy_1 (As := [.int x1]) (rest := []) rfl ⟨Nat.le_trans (Nat.le_of_ble_eq_true rfl) hR.1, Nat.le_trans (Nat.le_of_ble_eq_true rfl) hR.2⟩ (Nat.le_of_ble_eq_true rfl) (cc4_isCell rfl) rfl ?_
  refine sa_if_ne C dX4_seenBy_4 (tgt := 13) (by decide) (fun c1 => ?_) (fun c1 => ?_)
  · replace h := sl_n c1 h
    refine sa_iconst C dX4_seenBy_13 ic_0 ?_
    refine sa_istore_n C dX4_seenBy_14 rfl (by decide) (lv2 := [(2, .int (0 : Int32)), (0, .ref (g 27)), (1, .int x1)]) rfl ?_
    refine sa_iconst C dX4_seenBy_15 ic_0 ?_
    refine sa_istore_n C dX4_seenBy_16 rfl (by decide) (lv2 := [(3, .int (0 : Int32)), (2, .int (0 : Int32)), (0, .ref (g 27)), (1, .int x1)]) rfl ?_
    exact sa_sub [2, 3, 1, 0] rfl (w4_seenBy_17 C hR 400 h)
  · replace h := sl_t c1 h
    refine sa_aload_n C dX4_seenBy_7 rfl 0 rfl ?_
    refine sa_iconst C dX4_seenBy_8 ic_0 ?_
    obtain ⟨r2, er2, h⟩ := sl_b h
    refine sa_invVi C yy_X4_tell ⟨q_272, q_0⟩ q_270 dX4_seenBy_9 (As := [.int (0 : Int32)]) (rest := []) rfl ⟨Nat.le_trans (Nat.le_of_ble_eq_true rfl) hR.1, Nat.le_trans (Nat.le_of_ble_eq_true rfl) hR.2⟩ (Nat.le_of_ble_eq_true rfl) hh_X4 lx_27 (cc4_tell er2) rfl ?_
    exact sa_iret C dX4_seenBy_12 (sl_p1 h) (sl_p2 h)
/-! X4 neighbours -/
def f4_neighbours_28 (x1 : Int32) (x2 : Int32) : Nat → Int32 → Int32 → sl_M → Option (Int32 × sl_M)
  | 0, _, _, _ => none
  | n + 1, x3, x4, M => (if (M 0 8) ≤ x4 then some (x3, M) else (if x4 = x1 then f4_neighbours_28 x1 x2 n x3 (x4 + (1 : Int32)) M else (sl_ld (M 5) 8 x4).bind fun v3 => (if (f0_isIn v3 x2) = 0 then f4_neighbours_28 x1 x2 n x3 (x4 + (1 : Int32)) M else f4_neighbours_28 x1 x2 n (x3 ||| ((1 : Int32) <<< (x4 &&& 31))) (x4 + (1 : Int32)) M)))
def f4_neighbours (x1 : Int32) (M : sl_M) : Option (Int32 × sl_M) := (if (f4_isHouse x1 M) = 0 then (f4_tell (0 : Int32) M).bind fun r3 => some (r3.1, r3.2) else (f0_sightOf 0 x1 M).bind fun r2 => f4_neighbours_28 x1 r2 400 (0 : Int32) (0 : Int32) M)
theorem w4_neighbours_28 {D : va_G} {cA : ClassId} {g : Nat → Nat} {A : Nat → Prop} {z : sl_K} {l : Launch} {p : Program} {e : Env} {R : Room} {s : State} {m : MethodId} {args : Array Value} {below : List Frame} {meth : Method} {c : Code} (C : sl_C RX4 cX4_neighbours 5 (some .int) sl_cl LX D cA g A z p s m meth c) (hR : 3 ≤ R.frames ∧ 74 ≤ R.locals) {r : Int32 × sl_M} {x1 : Int32} {x2 : Int32} : ∀ (n : Nat) {x3 : Int32} {x4 : Int32} {M : sl_M}, f4_neighbours_28 x1 x2 n x3 x4 M = some r → sl_A sl_cl LX D cA g A p l e R s m args below meth c (MQ below (sl_Q sl_cl LX D cA g A (some (.int r.1)) r.2) args s 0 0 A) 5 28 [(0, .ref (g 27)), (1, .int x1), (2, .int x2), (3, .int x3), (4, .int x4)] [] M := by
  intro n
  induction n with
  | zero =>
    intro x3 x4 M h
    exact absurd h.symm (Option.some_ne_none _)
  | succ n ih =>
    intro x3 x4 M h
    rw [f4_neighbours_28] at h
    refine sa_iload C dX4_neighbours_28 4 rfl ?_
    refine sa_aload_n C dX4_neighbours_30 rfl 0 rfl ?_
    refine sa_getR C hh_X4 (k := 0) dX4_neighbours_31 q_235 (by decide) lx_27 rfl ?_
    refine sa_getIN C hh_X0 (k := 8) dX4_neighbours_34 q_138 (by decide) lx_0 rfl ?_
    refine sa_icmp_ge C dX4_neighbours_37 (tgt := 76) (by decide) (fun c1 => ?_) (fun c1 => ?_)
    · replace h := sl_t c1 h
      refine sa_iload_n C dX4_neighbours_76 rfl 3 rfl ?_
      exact sa_iret C dX4_neighbours_77 (sl_p1 h) (sl_p2 h)
    · replace h := sl_n c1 h
      refine sa_iload C dX4_neighbours_40 4 rfl ?_
      refine sa_iload_n C dX4_neighbours_42 rfl 1 rfl ?_
      refine sa_icmp_eq C dX4_neighbours_43 (tgt := 70) (by decide) (fun c2 => ?_) (fun c2 => ?_)
      · replace h := sl_t c2 h
        refine sa_iinc C dX4_neighbours_70 4 rfl (v := (x4 + (1 : Int32))) (by rw [ic_1]) (by decide) (lv2 := [(4, .int (x4 + (1 : Int32))), (0, .ref (g 27)), (1, .int x1), (2, .int x2), (3, .int x3)]) rfl ?_
        refine sa_goto C dX4_neighbours_73 (tgt := 28) (by decide) ?_
        exact sa_sub [1, 2, 3, 4, 0] rfl (ih h)
      · replace h := sl_n c2 h
        refine sa_aload_n C dX4_neighbours_46 rfl 0 rfl ?_
        refine sa_getR C hh_X4 (k := 0) dX4_neighbours_47 q_235 (by decide) lx_27 rfl ?_
        refine sa_getRN C hh_X0 (k := 4) dX4_neighbours_50 q_130 (by decide) lx_0 rfl ?_
        refine sa_iload C dX4_neighbours_53 4 rfl ?_
        obtain ⟨v3, ev3, h⟩ := sl_b h
        refine sa_iald C dX4_neighbours_55 lx_5 ev3 ?_
        refine sa_iload_n C dX4_neighbours_56 rfl 2 rfl ?_
        refine sa_invSNi C yy_X0_isIn q_396 q_406 dX4_neighbours_57 (As := [.int v3, .int x2]) (rest := []) rfl ⟨Nat.le_trans (Nat.le_of_ble_eq_true rfl) hR.1, Nat.le_trans (Nat.le_of_ble_eq_true rfl) hR.2⟩ (Nat.le_of_ble_eq_true rfl) (cc0_isIn rfl) rfl ?_
        refine sa_if_eq C dX4_neighbours_60 (tgt := 70) (by decide) (fun c4 => ?_) (fun c4 => ?_)
        · replace h := sl_t c4 h
          refine sa_iinc C dX4_neighbours_70 4 rfl (v := (x4 + (1 : Int32))) (by rw [ic_1]) (by decide) (lv2 := [(4, .int (x4 + (1 : Int32))), (0, .ref (g 27)), (1, .int x1), (2, .int x2), (3, .int x3)]) rfl ?_
          refine sa_goto C dX4_neighbours_73 (tgt := 28) (by decide) ?_
          exact sa_sub [1, 2, 3, 4, 0] rfl (ih h)
        · replace h := sl_n c4 h
          refine sa_iload_n C dX4_neighbours_63 rfl 3 rfl ?_
          refine sa_iconst C dX4_neighbours_64 ic_1 ?_
          refine sa_iload C dX4_neighbours_65 4 rfl ?_
          refine sa_ishl C dX4_neighbours_67 ?_
          refine sa_ior C dX4_neighbours_68 ?_
          refine sa_istore_n C dX4_neighbours_69 rfl (by decide) (lv2 := [(3, .int (x3 ||| ((1 : Int32) <<< (x4 &&& 31)))), (0, .ref (g 27)), (1, .int x1), (2, .int x2), (4, .int x4)]) rfl ?_
          refine sa_iinc C dX4_neighbours_70 4 rfl (v := (x4 + (1 : Int32))) (by rw [ic_1]) (by decide) (lv2 := [(4, .int (x4 + (1 : Int32))), (3, .int (x3 ||| ((1 : Int32) <<< (x4 &&& 31)))), (0, .ref (g 27)), (1, .int x1), (2, .int x2)]) rfl ?_
          refine sa_goto C dX4_neighbours_73 (tgt := 28) (by decide) ?_
          exact sa_sub [2, 3, 4, 1, 0] rfl (ih h)
theorem cc4_neighbours {D : va_G} {cA : ClassId} {g : Nat → Nat} {A : Nat → Prop} {z : sl_K} {l : Launch} {x1 : Int32} {M : sl_M} {r : Int32 × sl_M} (h : f4_neighbours x1 M = some r) : sl_N sl_cl LX D cA g A z l yX4_neighbours cX4_neighbours 5 (some .int) 3 74 [.ref (g 27), .int x1] M (some (.int r.1)) r.2 := by
  refine sl_N.of (by decide) (Nat.le_of_ble_eq_true rfl) rfl ?_
  intro p e s m args below meth c C
  replace C : sl_C RX4 cX4_neighbours 5 (some .int) sl_cl LX D cA g A z p s m meth c := C
  have hR : 3 ≤ (({ frames := 3, cells := 0, slots := 0, locals := 74 } : Room)).frames ∧ 74 ≤ (({ frames := 3, cells := 0, slots := 0, locals := 74 } : Room)).locals := ⟨Nat.le_refl _, Nat.le_refl _⟩
  rw [f4_neighbours] at h
  refine sa_aload_n C dX4_neighbours_0 rfl 0 rfl ?_
  refine sa_iload_n C dX4_neighbours_1 rfl 1 rfl ?_
  refine sa_invVi C yy_X4_isHouse ⟨q_335, q_8⟩ q_333 dX4_neighbours_2 (As := [.int x1]) (rest := []) rfl ⟨Nat.le_trans (Nat.le_of_ble_eq_true rfl) hR.1, Nat.le_trans (Nat.le_of_ble_eq_true rfl) hR.2⟩ (Nat.le_of_ble_eq_true rfl) hh_X4 lx_27 (cc4_isHouse rfl) rfl ?_
  refine sa_if_ne C dX4_neighbours_5 (tgt := 14) (by decide) (fun c1 => ?_) (fun c1 => ?_)
  · replace h := sl_n c1 h
    refine sa_aload_n C dX4_neighbours_14 rfl 0 rfl ?_
    refine sa_getR C hh_X4 (k := 0) dX4_neighbours_15 q_235 (by decide) lx_27 rfl ?_
    refine sa_iload_n C dX4_neighbours_18 rfl 1 rfl ?_
    obtain ⟨r2, er2, h⟩ := sl_b h
    refine sa_invVNi C yy_X0_sightOf ⟨q_379, q_12⟩ q_377 dX4_neighbours_19 (As := [.int x1]) (rest := []) rfl ⟨Nat.le_trans (Nat.le_of_ble_eq_true rfl) hR.1, Nat.le_trans (Nat.le_of_ble_eq_true rfl) hR.2⟩ (Nat.le_of_ble_eq_true rfl) hh_X0 lx_0 (cc0_sightOf sl_j0 er2) rfl ?_
    refine sa_istore_n C dX4_neighbours_22 rfl (by decide) (lv2 := [(2, .int r2), (0, .ref (g 27)), (1, .int x1)]) rfl ?_
    refine sa_iconst C dX4_neighbours_23 ic_0 ?_
    refine sa_istore_n C dX4_neighbours_24 rfl (by decide) (lv2 := [(3, .int (0 : Int32)), (2, .int r2), (0, .ref (g 27)), (1, .int x1)]) rfl ?_
    refine sa_iconst C dX4_neighbours_25 ic_0 ?_
    refine sa_istore C dX4_neighbours_26 (by decide) (lv2 := [(4, .int (0 : Int32)), (3, .int (0 : Int32)), (2, .int r2), (0, .ref (g 27)), (1, .int x1)]) rfl ?_
    exact sa_sub [3, 4, 2, 1, 0] rfl (w4_neighbours_28 C hR 400 h)
  · replace h := sl_t c1 h
    refine sa_aload_n C dX4_neighbours_8 rfl 0 rfl ?_
    refine sa_iconst C dX4_neighbours_9 ic_0 ?_
    obtain ⟨r3, er3, h⟩ := sl_b h
    refine sa_invVi C yy_X4_tell ⟨q_272, q_0⟩ q_270 dX4_neighbours_10 (As := [.int (0 : Int32)]) (rest := []) rfl ⟨Nat.le_trans (Nat.le_of_ble_eq_true rfl) hR.1, Nat.le_trans (Nat.le_of_ble_eq_true rfl) hR.2⟩ (Nat.le_of_ble_eq_true rfl) hh_X4 lx_27 (cc4_tell er3) rfl ?_
    exact sa_iret C dX4_neighbours_13 (sl_p1 h) (sl_p2 h)
/-! X4 hidden -/
def f4_hidden (x1 : Int32) (x2 : Int32) (M : sl_M) : Option (Int32 × sl_M) := (if (f4_isHouse x1 M) = 0 then (f4_tell (0 : Int32) M).bind fun r2 => some (r2.1, r2.2) else (if (f4_isCell x2) = 0 then (f4_tell (0 : Int32) M).bind fun r10 => some (r10.1, r10.2) else (f0_looksTowards 0 x1 x2 M).bind fun r4 => (if r4 = 0 then (f4_tell (4 : Int32) M).bind fun r9 => some (r9.1, r9.2) else (f0_hiderOf 0 x1 x2 M).bind fun r6 => (if 0 ≤ r6 then some (r6, M) else (f4_tell (3 : Int32) M).bind fun r8 => some (r8.1, r8.2)))))
theorem cc4_hidden {D : va_G} {cA : ClassId} {g : Nat → Nat} {A : Nat → Prop} {z : sl_K} {l : Launch} {x1 : Int32} {x2 : Int32} {M : sl_M} {r : Int32 × sl_M} (h : f4_hidden x1 x2 M = some r) : sl_N sl_cl LX D cA g A z l yX4_hidden cX4_hidden 4 (some .int) 2 50 [.ref (g 27), .int x1, .int x2] M (some (.int r.1)) r.2 := by
  refine sl_N.of (by decide) (Nat.le_of_ble_eq_true rfl) rfl ?_
  intro p e s m args below meth c C
  replace C : sl_C RX4 cX4_hidden 4 (some .int) sl_cl LX D cA g A z p s m meth c := C
  have hR : 2 ≤ (({ frames := 2, cells := 0, slots := 0, locals := 50 } : Room)).frames ∧ 50 ≤ (({ frames := 2, cells := 0, slots := 0, locals := 50 } : Room)).locals := ⟨Nat.le_refl _, Nat.le_refl _⟩
  rw [f4_hidden] at h
  refine sa_aload_n C dX4_hidden_0 rfl 0 rfl ?_
  refine sa_iload_n C dX4_hidden_1 rfl 1 rfl ?_
  refine sa_invVi C yy_X4_isHouse ⟨q_335, q_8⟩ q_333 dX4_hidden_2 (As := [.int x1]) (rest := []) rfl ⟨Nat.le_trans (Nat.le_of_ble_eq_true rfl) hR.1, Nat.le_trans (Nat.le_of_ble_eq_true rfl) hR.2⟩ (Nat.le_of_ble_eq_true rfl) hh_X4 lx_27 (cc4_isHouse rfl) rfl ?_
  refine sa_if_eq C dX4_hidden_5 (tgt := 15) (by decide) (fun c1 => ?_) (fun c1 => ?_)
  · replace h := sl_t c1 h
    refine sa_aload_n C dX4_hidden_15 rfl 0 rfl ?_
    refine sa_iconst C dX4_hidden_16 ic_0 ?_
    obtain ⟨r2, er2, h⟩ := sl_b h
    refine sa_invVi C yy_X4_tell ⟨q_272, q_0⟩ q_270 dX4_hidden_17 (As := [.int (0 : Int32)]) (rest := []) rfl ⟨Nat.le_trans (Nat.le_of_ble_eq_true rfl) hR.1, Nat.le_trans (Nat.le_of_ble_eq_true rfl) hR.2⟩ (Nat.le_of_ble_eq_true rfl) hh_X4 lx_27 (cc4_tell er2) rfl ?_
    exact sa_iret C dX4_hidden_20 (sl_p1 h) (sl_p2 h)
  · replace h := sl_n c1 h
    refine sa_iload_n C dX4_hidden_8 rfl 2 rfl ?_
    refine sa_invSi C yy_X4_isCell q_265 q_264 dX4_hidden_9 (As := [.int x2]) (rest := []) rfl ⟨Nat.le_trans (Nat.le_of_ble_eq_true rfl) hR.1, Nat.le_trans (Nat.le_of_ble_eq_true rfl) hR.2⟩ (Nat.le_of_ble_eq_true rfl) (cc4_isCell rfl) rfl ?_
    refine sa_if_ne C dX4_hidden_12 (tgt := 21) (by decide) (fun c3 => ?_) (fun c3 => ?_)
    · replace h := sl_n c3 h
      refine sa_aload_n C dX4_hidden_21 rfl 0 rfl ?_
      refine sa_getR C hh_X4 (k := 0) dX4_hidden_22 q_235 (by decide) lx_27 rfl ?_
      refine sa_iload_n C dX4_hidden_25 rfl 1 rfl ?_
      refine sa_iload_n C dX4_hidden_26 rfl 2 rfl ?_
      obtain ⟨r4, er4, h⟩ := sl_b h
      refine sa_invVNi C yy_X0_looksTowards ⟨q_413, q_15⟩ q_411 dX4_hidden_27 (As := [.int x1, .int x2]) (rest := []) rfl ⟨Nat.le_trans (Nat.le_of_ble_eq_true rfl) hR.1, Nat.le_trans (Nat.le_of_ble_eq_true rfl) hR.2⟩ (Nat.le_of_ble_eq_true rfl) hh_X0 lx_0 (cc0_looksTowards sl_j0 er4) rfl ?_
      refine sa_if_ne C dX4_hidden_30 (tgt := 39) (by decide) (fun c5 => ?_) (fun c5 => ?_)
      · replace h := sl_n c5 h
        refine sa_aload_n C dX4_hidden_39 rfl 0 rfl ?_
        refine sa_getR C hh_X4 (k := 0) dX4_hidden_40 q_235 (by decide) lx_27 rfl ?_
        refine sa_iload_n C dX4_hidden_43 rfl 1 rfl ?_
        refine sa_iload_n C dX4_hidden_44 rfl 2 rfl ?_
        obtain ⟨r6, er6, h⟩ := sl_b h
        refine sa_invVNi C yy_X0_hiderOf ⟨q_420, q_16⟩ q_418 dX4_hidden_45 (As := [.int x1, .int x2]) (rest := []) rfl ⟨Nat.le_trans (Nat.le_of_ble_eq_true rfl) hR.1, Nat.le_trans (Nat.le_of_ble_eq_true rfl) hR.2⟩ (Nat.le_of_ble_eq_true rfl) hh_X0 lx_0 (cc0_hiderOf sl_j0 er6) rfl ?_
        refine sa_istore_n C dX4_hidden_48 rfl (by decide) (lv2 := [(3, .int r6), (0, .ref (g 27)), (1, .int x1), (2, .int x2)]) rfl ?_
        refine sa_iload_n C dX4_hidden_49 rfl 0 rfl ?_
        refine sa_if_ge C dX4_hidden_50 (tgt := 61) (by decide) (fun c7 => ?_) (fun c7 => ?_)
        · replace h := sl_t c7 h
          refine sa_iload_n C dX4_hidden_61 rfl 0 rfl ?_
          exact sa_iret C dX4_hidden_62 (sl_p1 h) (sl_p2 h)
        · replace h := sl_n c7 h
          refine sa_aload_n C dX4_hidden_53 rfl 1 rfl ?_
          refine sa_iconst C dX4_hidden_54 ic_3 ?_
          obtain ⟨r8, er8, h⟩ := sl_b h
          refine sa_invVi C yy_X4_tell ⟨q_272, q_0⟩ q_270 dX4_hidden_55 (As := [.int (3 : Int32)]) (rest := []) rfl ⟨Nat.le_trans (Nat.le_of_ble_eq_true rfl) hR.1, Nat.le_trans (Nat.le_of_ble_eq_true rfl) hR.2⟩ (Nat.le_of_ble_eq_true rfl) hh_X4 lx_27 (cc4_tell er8) rfl ?_
          refine sa_goto C dX4_hidden_58 (tgt := 62) (by decide) ?_
          exact sa_iret C dX4_hidden_62 (sl_p1 h) (sl_p2 h)
      · replace h := sl_t c5 h
        refine sa_aload_n C dX4_hidden_33 rfl 0 rfl ?_
        refine sa_iconst C dX4_hidden_34 ic_4 ?_
        obtain ⟨r9, er9, h⟩ := sl_b h
        refine sa_invVi C yy_X4_tell ⟨q_272, q_0⟩ q_270 dX4_hidden_35 (As := [.int (4 : Int32)]) (rest := []) rfl ⟨Nat.le_trans (Nat.le_of_ble_eq_true rfl) hR.1, Nat.le_trans (Nat.le_of_ble_eq_true rfl) hR.2⟩ (Nat.le_of_ble_eq_true rfl) hh_X4 lx_27 (cc4_tell er9) rfl ?_
        exact sa_iret C dX4_hidden_38 (sl_p1 h) (sl_p2 h)
    · replace h := sl_t c3 h
      refine sa_aload_n C dX4_hidden_15 rfl 0 rfl ?_
      refine sa_iconst C dX4_hidden_16 ic_0 ?_
      obtain ⟨r10, er10, h⟩ := sl_b h
      refine sa_invVi C yy_X4_tell ⟨q_272, q_0⟩ q_270 dX4_hidden_17 (As := [.int (0 : Int32)]) (rest := []) rfl ⟨Nat.le_trans (Nat.le_of_ble_eq_true rfl) hR.1, Nat.le_trans (Nat.le_of_ble_eq_true rfl) hR.2⟩ (Nat.le_of_ble_eq_true rfl) hh_X4 lx_27 (cc4_tell er10) rfl ?_
      exact sa_iret C dX4_hidden_20 (sl_p1 h) (sl_p2 h)
/-! X4 tax -/
def f4_tax (x1 : Int32) (M : sl_M) : Option (Int32 × sl_M) := (if (f4_isHouse x1 M) = 0 then (f4_tell (0 : Int32) M).bind fun r3 => some (r3.1, r3.2) else (f0_taxOf 0 x1 M).bind fun r2 => some (r2, M))
theorem cc4_tax {D : va_G} {cA : ClassId} {g : Nat → Nat} {A : Nat → Prop} {z : sl_K} {l : Launch} {x1 : Int32} {M : sl_M} {r : Int32 × sl_M} (h : f4_tax x1 M = some r) : sl_N sl_cl LX D cA g A z l yX4_tax cX4_tax 2 (some .int) 5 119 [.ref (g 27), .int x1] M (some (.int r.1)) r.2 := by
  refine sl_N.of (by decide) (Nat.le_of_ble_eq_true rfl) rfl ?_
  intro p e s m args below meth c C
  replace C : sl_C RX4 cX4_tax 2 (some .int) sl_cl LX D cA g A z p s m meth c := C
  have hR : 5 ≤ (({ frames := 5, cells := 0, slots := 0, locals := 119 } : Room)).frames ∧ 119 ≤ (({ frames := 5, cells := 0, slots := 0, locals := 119 } : Room)).locals := ⟨Nat.le_refl _, Nat.le_refl _⟩
  rw [f4_tax] at h
  refine sa_aload_n C dX4_tax_0 rfl 0 rfl ?_
  refine sa_iload_n C dX4_tax_1 rfl 1 rfl ?_
  refine sa_invVi C yy_X4_isHouse ⟨q_335, q_8⟩ q_333 dX4_tax_2 (As := [.int x1]) (rest := []) rfl ⟨Nat.le_trans (Nat.le_of_ble_eq_true rfl) hR.1, Nat.le_trans (Nat.le_of_ble_eq_true rfl) hR.2⟩ (Nat.le_of_ble_eq_true rfl) hh_X4 lx_27 (cc4_isHouse rfl) rfl ?_
  refine sa_if_ne C dX4_tax_5 (tgt := 14) (by decide) (fun c1 => ?_) (fun c1 => ?_)
  · replace h := sl_n c1 h
    refine sa_aload_n C dX4_tax_14 rfl 0 rfl ?_
    refine sa_getR C hh_X4 (k := 0) dX4_tax_15 q_235 (by decide) lx_27 rfl ?_
    refine sa_iload_n C dX4_tax_18 rfl 1 rfl ?_
    obtain ⟨r2, er2, h⟩ := sl_b h
    refine sa_invVNi C yy_X0_taxOf ⟨q_428, q_17⟩ q_426 dX4_tax_19 (As := [.int x1]) (rest := []) rfl ⟨Nat.le_trans (Nat.le_of_ble_eq_true rfl) hR.1, Nat.le_trans (Nat.le_of_ble_eq_true rfl) hR.2⟩ (Nat.le_of_ble_eq_true rfl) hh_X0 lx_0 (cc0_taxOf sl_j0 er2) rfl ?_
    exact sa_iret C dX4_tax_22 (sl_p1 h) (sl_p2 h)
  · replace h := sl_t c1 h
    refine sa_aload_n C dX4_tax_8 rfl 0 rfl ?_
    refine sa_iconst C dX4_tax_9 ic_0 ?_
    obtain ⟨r3, er3, h⟩ := sl_b h
    refine sa_invVi C yy_X4_tell ⟨q_272, q_0⟩ q_270 dX4_tax_10 (As := [.int (0 : Int32)]) (rest := []) rfl ⟨Nat.le_trans (Nat.le_of_ble_eq_true rfl) hR.1, Nat.le_trans (Nat.le_of_ble_eq_true rfl) hR.2⟩ (Nat.le_of_ble_eq_true rfl) hh_X4 lx_27 (cc4_tell er3) rfl ?_
    exact sa_iret C dX4_tax_13 (sl_p1 h) (sl_p2 h)
/-! X4 all -/
def f4_all (M : sl_M) : Option Int32 := (f0_allTax 0 M).bind fun r1 => some r1
theorem cc4_all {D : va_G} {cA : ClassId} {g : Nat → Nat} {A : Nat → Prop} {z : sl_K} {l : Launch} {M : sl_M} {r : Int32} (h : f4_all M = some r) : sl_N sl_cl LX D cA g A z l yX4_all cX4_all 1 (some .int) 6 141 [.ref (g 27)] M (some (.int r)) M := by
  refine sl_N.of (by decide) (Nat.le_of_ble_eq_true rfl) rfl ?_
  intro p e s m args below meth c C
  replace C : sl_C RX4 cX4_all 1 (some .int) sl_cl LX D cA g A z p s m meth c := C
  have hR : 6 ≤ (({ frames := 6, cells := 0, slots := 0, locals := 141 } : Room)).frames ∧ 141 ≤ (({ frames := 6, cells := 0, slots := 0, locals := 141 } : Room)).locals := ⟨Nat.le_refl _, Nat.le_refl _⟩
  rw [f4_all] at h
  refine sa_aload_n C dX4_all_0 rfl 0 rfl ?_
  refine sa_getR C hh_X4 (k := 0) dX4_all_1 q_235 (by decide) lx_27 rfl ?_
  obtain ⟨r1, er1, h⟩ := sl_b h
  refine sa_invVNi C yy_X0_allTax ⟨q_444, q_19⟩ q_442 dX4_all_4 (As := []) (rest := []) rfl ⟨Nat.le_trans (Nat.le_of_ble_eq_true rfl) hR.1, Nat.le_trans (Nat.le_of_ble_eq_true rfl) hR.2⟩ (Nat.le_of_ble_eq_true rfl) hh_X0 lx_0 (cc0_allTax sl_j0 er1) rfl ?_
  exact sa_iret C dX4_all_7 (Option.some.inj h) rfl
/-! X4 thriftyFloor -/
def f4_thriftyFloor_56 (k18 : Int32 → Int32 → Int32 → sl_M → Option (Int32 × sl_M)) (x1 : Int32) (x4 : Int32) (x5 : Int32) (M : sl_M) : Option (Int32 × sl_M) := k18 x4 x5 (x4 + (1 : Int32)) M
def f4_thriftyFloor_18 (x1 : Int32) : Nat → Int32 → Int32 → Int32 → sl_M → Option (Int32 × sl_M)
  | 0, _, _, _, _ => none
  | n + 1, x2, x3, x4, M => (if (40 : Int32) < x4 then some (x2, M) else (sl_st M 15 8 x1 x4).bind fun M2 => (f0_taxOf 1 x1 M2).bind fun r3 => (if x2 < 0 then f4_thriftyFloor_56 (f4_thriftyFloor_18 x1 n) x1 x4 r3 M2 else (if x3 ≤ r3 then f4_thriftyFloor_18 x1 n x2 x3 (x4 + (1 : Int32)) M2 else f4_thriftyFloor_56 (f4_thriftyFloor_18 x1 n) x1 x4 r3 M2)))
def f4_thriftyFloor (x1 : Int32) (M : sl_M) : Option (Int32 × sl_M) := (f0_takeAll 1 0 M).bind fun r1 => f4_thriftyFloor_18 x1 400 (-1 : Int32) (0 : Int32) (1 : Int32) r1
theorem w4_thriftyFloor_56 {D : va_G} {cA : ClassId} {g : Nat → Nat} {A : Nat → Prop} {z : sl_K} {l : Launch} {p : Program} {e : Env} {R : Room} {s : State} {m : MethodId} {args : Array Value} {below : List Frame} {meth : Method} {c : Code} (C : sl_C RX4 cX4_thriftyFloor 6 (some .int) sl_cl LX D cA g A z p s m meth c) (hR : 5 ≤ R.frames ∧ 119 ≤ R.locals) {M : sl_M} {r : Int32 × sl_M} {x1 : Int32} {x4 : Int32} {x5 : Int32} {k18 : Int32 → Int32 → Int32 → sl_M → Option (Int32 × sl_M)} (hk18 : ∀ {x2 : Int32} {x3 : Int32} {x4 : Int32} {M : sl_M}, k18 x2 x3 x4 M = some r → sl_A sl_cl LX D cA g A p l e R s m args below meth c (MQ below (sl_Q sl_cl LX D cA g A (some (.int r.1)) r.2) args s 0 0 A) 6 18 [(0, .ref (g 27)), (1, .int x1), (2, .int x2), (3, .int x3), (4, .int x4)] [] M) (h : f4_thriftyFloor_56 k18 x1 x4 x5 M = some r) : sl_A sl_cl LX D cA g A p l e R s m args below meth c (MQ below (sl_Q sl_cl LX D cA g A (some (.int r.1)) r.2) args s 0 0 A) 6 56 [(0, .ref (g 27)), (1, .int x1), (4, .int x4), (5, .int x5)] [] M := by
  rw [f4_thriftyFloor_56] at h
  refine sa_iload C dX4_thriftyFloor_56 3 rfl ?_
  refine sa_istore_n C dX4_thriftyFloor_58 rfl (by decide) (lv2 := [(3, .int x5), (0, .ref (g 27)), (1, .int x1), (4, .int x4), (5, .int x5)]) rfl ?_
  refine sa_iload C dX4_thriftyFloor_59 3 rfl ?_
  refine sa_istore_n C dX4_thriftyFloor_61 rfl (by decide) (lv2 := [(2, .int x4), (3, .int x5), (0, .ref (g 27)), (1, .int x1), (4, .int x4), (5, .int x5)]) rfl ?_
  refine sa_iinc C dX4_thriftyFloor_62 4 rfl (v := (x4 + (1 : Int32))) (by rw [ic_1]) (by decide) (lv2 := [(4, .int (x4 + (1 : Int32))), (2, .int x4), (3, .int x5), (0, .ref (g 27)), (1, .int x1), (5, .int x5)]) rfl ?_
  refine sa_goto C dX4_thriftyFloor_65 (tgt := 18) (by decide) ?_
  exact sa_sub [3, 4, 1, 2, 0] rfl (hk18 h)
theorem w4_thriftyFloor_18 {D : va_G} {cA : ClassId} {g : Nat → Nat} {A : Nat → Prop} {z : sl_K} {l : Launch} {p : Program} {e : Env} {R : Room} {s : State} {m : MethodId} {args : Array Value} {below : List Frame} {meth : Method} {c : Code} (C : sl_C RX4 cX4_thriftyFloor 6 (some .int) sl_cl LX D cA g A z p s m meth c) (hR : 5 ≤ R.frames ∧ 119 ≤ R.locals) {r : Int32 × sl_M} {x1 : Int32} : ∀ (n : Nat) {x2 : Int32} {x3 : Int32} {x4 : Int32} {M : sl_M}, f4_thriftyFloor_18 x1 n x2 x3 x4 M = some r → sl_A sl_cl LX D cA g A p l e R s m args below meth c (MQ below (sl_Q sl_cl LX D cA g A (some (.int r.1)) r.2) args s 0 0 A) 6 18 [(0, .ref (g 27)), (1, .int x1), (2, .int x2), (3, .int x3), (4, .int x4)] [] M := by
  intro n
  induction n with
  | zero =>
    intro x2 x3 x4 M h
    exact absurd h.symm (Option.some_ne_none _)
  | succ n ih =>
    intro x2 x3 x4 M h
    rw [f4_thriftyFloor_18] at h
    refine sa_iload C dX4_thriftyFloor_18 4 rfl ?_
    refine sa_bipush C dX4_thriftyFloor_20 bp_40 ?_
    refine sa_icmp_gt C dX4_thriftyFloor_22 (tgt := 68) (by decide) (fun c1 => ?_) (fun c1 => ?_)
    · replace h := sl_t c1 h
      refine sa_iload_n C dX4_thriftyFloor_68 rfl 2 rfl ?_
      exact sa_iret C dX4_thriftyFloor_69 (sl_p1 h) (sl_p2 h)
    · replace h := sl_n c1 h
      refine sa_aload_n C dX4_thriftyFloor_25 rfl 0 rfl ?_
      refine sa_getR C hh_X4 (k := 1) dX4_thriftyFloor_26 q_236 (by decide) lx_27 rfl ?_
      refine sa_getRN C hh_X0 (k := 5) dX4_thriftyFloor_29 q_132 (by decide) lx_9 rfl ?_
      refine sa_iload_n C dX4_thriftyFloor_32 rfl 1 rfl ?_
      refine sa_iload C dX4_thriftyFloor_33 4 rfl ?_
      obtain ⟨M2, eM2, h⟩ := sl_b h
      refine sa_iast C dX4_thriftyFloor_35 lx_15 eM2 ?_
      refine sa_aload_n C dX4_thriftyFloor_36 rfl 0 rfl ?_
      refine sa_getR C hh_X4 (k := 1) dX4_thriftyFloor_37 q_236 (by decide) lx_27 rfl ?_
      refine sa_iload_n C dX4_thriftyFloor_40 rfl 1 rfl ?_
      obtain ⟨r3, er3, h⟩ := sl_b h
      refine sa_invVNi C yy_X0_taxOf ⟨q_428, q_17⟩ q_426 dX4_thriftyFloor_41 (As := [.int x1]) (rest := []) rfl ⟨Nat.le_trans (Nat.le_of_ble_eq_true rfl) hR.1, Nat.le_trans (Nat.le_of_ble_eq_true rfl) hR.2⟩ (Nat.le_of_ble_eq_true rfl) hh_X0 lx_9 (cc0_taxOf sl_j1 er3) rfl ?_
      refine sa_istore C dX4_thriftyFloor_44 (by decide) (lv2 := [(5, .int r3), (0, .ref (g 27)), (1, .int x1), (2, .int x2), (3, .int x3), (4, .int x4)]) rfl ?_
      refine sa_iload_n C dX4_thriftyFloor_46 rfl 3 rfl ?_
      refine sa_if_lt C dX4_thriftyFloor_47 (tgt := 56) (by decide) (fun c4 => ?_) (fun c4 => ?_)
      · replace h := sl_t c4 h
        exact sa_sub [1, 2, 5, 0] rfl (w4_thriftyFloor_56 C hR (fun h => ih h) h)
      · replace h := sl_n c4 h
        refine sa_iload C dX4_thriftyFloor_50 0 rfl ?_
        refine sa_iload_n C dX4_thriftyFloor_52 rfl 4 rfl ?_
        refine sa_icmp_ge C dX4_thriftyFloor_53 (tgt := 62) (by decide) (fun c5 => ?_) (fun c5 => ?_)
        · replace h := sl_t c5 h
          refine sa_iinc C dX4_thriftyFloor_62 5 rfl (v := (x4 + (1 : Int32))) (by rw [ic_1]) (by decide) (lv2 := [(4, .int (x4 + (1 : Int32))), (5, .int r3), (0, .ref (g 27)), (1, .int x1), (2, .int x2), (3, .int x3)]) rfl ?_
          refine sa_goto C dX4_thriftyFloor_65 (tgt := 18) (by decide) ?_
          exact sa_sub [2, 3, 4, 5, 0] rfl (ih h)
        · replace h := sl_n c5 h
          exact sa_sub [1, 2, 5, 0] rfl (w4_thriftyFloor_56 C hR (fun h => ih h) h)
theorem cc4_thriftyFloor {D : va_G} {cA : ClassId} {g : Nat → Nat} {A : Nat → Prop} {z : sl_K} {l : Launch} {x1 : Int32} {M : sl_M} {r : Int32 × sl_M} (h : f4_thriftyFloor x1 M = some r) : sl_N sl_cl LX D cA g A z l yX4_thriftyFloor cX4_thriftyFloor 6 (some .int) 5 119 [.ref (g 27), .int x1] M (some (.int r.1)) r.2 := by
  refine sl_N.of (by decide) (Nat.le_of_ble_eq_true rfl) rfl ?_
  intro p e s m args below meth c C
  replace C : sl_C RX4 cX4_thriftyFloor 6 (some .int) sl_cl LX D cA g A z p s m meth c := C
  have hR : 5 ≤ (({ frames := 5, cells := 0, slots := 0, locals := 119 } : Room)).frames ∧ 119 ≤ (({ frames := 5, cells := 0, slots := 0, locals := 119 } : Room)).locals := ⟨Nat.le_refl _, Nat.le_refl _⟩
  rw [f4_thriftyFloor] at h
  refine sa_aload_n C dX4_thriftyFloor_0 rfl 0 rfl ?_
  refine sa_getR C hh_X4 (k := 1) dX4_thriftyFloor_1 q_236 (by decide) lx_27 rfl ?_
  refine sa_aload_n C dX4_thriftyFloor_4 rfl 0 rfl ?_
  refine sa_getR C hh_X4 (k := 0) dX4_thriftyFloor_5 q_235 (by decide) lx_27 rfl ?_
  obtain ⟨r1, er1, h⟩ := sl_b h
  refine sa_invVNv C yy_X0_takeAll ⟨q_457, q_21⟩ q_455 dX4_thriftyFloor_8 (As := [.ref (g 0)]) (rest := []) rfl ⟨Nat.le_trans (Nat.le_of_ble_eq_true rfl) hR.1, Nat.le_trans (Nat.le_of_ble_eq_true rfl) hR.2⟩ (Nat.le_of_ble_eq_true rfl) hh_X0 lx_9 (cc0_takeAll sl_j1 sl_j0 er1) rfl ?_
  refine sa_iconst C dX4_thriftyFloor_11 ic_m1 ?_
  refine sa_istore_n C dX4_thriftyFloor_12 rfl (by decide) (lv2 := [(2, .int (-1 : Int32)), (0, .ref (g 27)), (1, .int x1)]) rfl ?_
  refine sa_iconst C dX4_thriftyFloor_13 ic_0 ?_
  refine sa_istore_n C dX4_thriftyFloor_14 rfl (by decide) (lv2 := [(3, .int (0 : Int32)), (2, .int (-1 : Int32)), (0, .ref (g 27)), (1, .int x1)]) rfl ?_
  refine sa_iconst C dX4_thriftyFloor_15 ic_1 ?_
  refine sa_istore C dX4_thriftyFloor_16 (by decide) (lv2 := [(4, .int (1 : Int32)), (3, .int (0 : Int32)), (2, .int (-1 : Int32)), (0, .ref (g 27)), (1, .int x1)]) rfl ?_
  exact sa_sub [3, 4, 2, 1, 0] rfl (w4_thriftyFloor_18 C hR 400 h)
/-! X4 cheapest -/
def f4_cheapest (x1 : Int32) (M : sl_M) : Option (Int32 × sl_M) := (if (f4_isHouse x1 M) = 0 then (f4_tell (0 : Int32) M).bind fun r3 => some (r3.1, r3.2) else (f4_thriftyFloor x1 M).bind fun r2 => some (r2.1, r2.2))
theorem cc4_cheapest {D : va_G} {cA : ClassId} {g : Nat → Nat} {A : Nat → Prop} {z : sl_K} {l : Launch} {x1 : Int32} {M : sl_M} {r : Int32 × sl_M} (h : f4_cheapest x1 M = some r) : sl_N sl_cl LX D cA g A z l yX4_cheapest cX4_cheapest 2 (some .int) 6 144 [.ref (g 27), .int x1] M (some (.int r.1)) r.2 := by
  refine sl_N.of (by decide) (Nat.le_of_ble_eq_true rfl) rfl ?_
  intro p e s m args below meth c C
  replace C : sl_C RX4 cX4_cheapest 2 (some .int) sl_cl LX D cA g A z p s m meth c := C
  have hR : 6 ≤ (({ frames := 6, cells := 0, slots := 0, locals := 144 } : Room)).frames ∧ 144 ≤ (({ frames := 6, cells := 0, slots := 0, locals := 144 } : Room)).locals := ⟨Nat.le_refl _, Nat.le_refl _⟩
  rw [f4_cheapest] at h
  refine sa_aload_n C dX4_cheapest_0 rfl 0 rfl ?_
  refine sa_iload_n C dX4_cheapest_1 rfl 1 rfl ?_
  refine sa_invVi C yy_X4_isHouse ⟨q_335, q_8⟩ q_333 dX4_cheapest_2 (As := [.int x1]) (rest := []) rfl ⟨Nat.le_trans (Nat.le_of_ble_eq_true rfl) hR.1, Nat.le_trans (Nat.le_of_ble_eq_true rfl) hR.2⟩ (Nat.le_of_ble_eq_true rfl) hh_X4 lx_27 (cc4_isHouse rfl) rfl ?_
  refine sa_if_ne C dX4_cheapest_5 (tgt := 14) (by decide) (fun c1 => ?_) (fun c1 => ?_)
  · replace h := sl_n c1 h
    refine sa_aload_n C dX4_cheapest_14 rfl 0 rfl ?_
    refine sa_iload_n C dX4_cheapest_15 rfl 1 rfl ?_
    obtain ⟨r2, er2, h⟩ := sl_b h
    refine sa_invVi C yy_X4_thriftyFloor ⟨q_453, q_20⟩ q_451 dX4_cheapest_16 (As := [.int x1]) (rest := []) rfl ⟨Nat.le_trans (Nat.le_of_ble_eq_true rfl) hR.1, Nat.le_trans (Nat.le_of_ble_eq_true rfl) hR.2⟩ (Nat.le_of_ble_eq_true rfl) hh_X4 lx_27 (cc4_thriftyFloor er2) rfl ?_
    exact sa_iret C dX4_cheapest_19 (sl_p1 h) (sl_p2 h)
  · replace h := sl_t c1 h
    refine sa_aload_n C dX4_cheapest_8 rfl 0 rfl ?_
    refine sa_iconst C dX4_cheapest_9 ic_0 ?_
    obtain ⟨r3, er3, h⟩ := sl_b h
    refine sa_invVi C yy_X4_tell ⟨q_272, q_0⟩ q_270 dX4_cheapest_10 (As := [.int (0 : Int32)]) (rest := []) rfl ⟨Nat.le_trans (Nat.le_of_ble_eq_true rfl) hR.1, Nat.le_trans (Nat.le_of_ble_eq_true rfl) hR.2⟩ (Nat.le_of_ble_eq_true rfl) hh_X4 lx_27 (cc4_tell er3) rfl ?_
    exact sa_iret C dX4_cheapest_13 (sl_p1 h) (sl_p2 h)
/-! X4 widest -/
def f4_widest_32 (x1 : Int32) : Nat → Int32 → Int32 → Int32 → sl_M → Option (Int32 × sl_M)
  | 0, _, _, _, _ => none
  | n + 1, x2, x3, x4, M => (if (40 : Int32) < x4 then some (x2, M) else (sl_st M 15 8 x1 x4).bind fun M2 => (f0_sightOf 1 x1 M2).bind fun r3 => (if (fJ6_bitCount_0f7a4 r3) ≤ x3 then f4_widest_32 x1 n x2 x3 (x4 + (1 : Int32)) M2 else f4_widest_32 x1 n x4 (fJ6_bitCount_0f7a4 r3) (x4 + (1 : Int32)) M2))
def f4_widest (x1 : Int32) (M : sl_M) : Option (Int32 × sl_M) := (if (f4_isHouse x1 M) = 0 then (f4_tell (0 : Int32) M).bind fun r3 => some (r3.1, r3.2) else (f0_takeAll 1 0 M).bind fun r2 => f4_widest_32 x1 400 (1 : Int32) (0 : Int32) (1 : Int32) r2)
theorem w4_widest_32 {D : va_G} {cA : ClassId} {g : Nat → Nat} {A : Nat → Prop} {z : sl_K} {l : Launch} {p : Program} {e : Env} {R : Room} {s : State} {m : MethodId} {args : Array Value} {below : List Frame} {meth : Method} {c : Code} (C : sl_C RX4 cX4_widest 6 (some .int) sl_cl LX D cA g A z p s m meth c) (hR : 3 ≤ R.frames ∧ 74 ≤ R.locals) {r : Int32 × sl_M} {x1 : Int32} : ∀ (n : Nat) {x2 : Int32} {x3 : Int32} {x4 : Int32} {M : sl_M}, f4_widest_32 x1 n x2 x3 x4 M = some r → sl_A sl_cl LX D cA g A p l e R s m args below meth c (MQ below (sl_Q sl_cl LX D cA g A (some (.int r.1)) r.2) args s 0 0 A) 6 32 [(0, .ref (g 27)), (1, .int x1), (2, .int x2), (3, .int x3), (4, .int x4)] [] M := by
  intro n
  induction n with
  | zero =>
    intro x2 x3 x4 M h
    exact absurd h.symm (Option.some_ne_none _)
  | succ n ih =>
    intro x2 x3 x4 M h
    rw [f4_widest_32] at h
    refine sa_iload C dX4_widest_32 4 rfl ?_
    refine sa_bipush C dX4_widest_34 bp_40 ?_
    refine sa_icmp_gt C dX4_widest_36 (tgt := 81) (by decide) (fun c1 => ?_) (fun c1 => ?_)
    · replace h := sl_t c1 h
      refine sa_iload_n C dX4_widest_81 rfl 2 rfl ?_
      exact sa_iret C dX4_widest_82 (sl_p1 h) (sl_p2 h)
    · replace h := sl_n c1 h
      refine sa_aload_n C dX4_widest_39 rfl 0 rfl ?_
      refine sa_getR C hh_X4 (k := 1) dX4_widest_40 q_236 (by decide) lx_27 rfl ?_
      refine sa_getRN C hh_X0 (k := 5) dX4_widest_43 q_132 (by decide) lx_9 rfl ?_
      refine sa_iload_n C dX4_widest_46 rfl 1 rfl ?_
      refine sa_iload C dX4_widest_47 4 rfl ?_
      obtain ⟨M2, eM2, h⟩ := sl_b h
      refine sa_iast C dX4_widest_49 lx_15 eM2 ?_
      refine sa_aload_n C dX4_widest_50 rfl 0 rfl ?_
      refine sa_getR C hh_X4 (k := 1) dX4_widest_51 q_236 (by decide) lx_27 rfl ?_
      refine sa_iload_n C dX4_widest_54 rfl 1 rfl ?_
      obtain ⟨r3, er3, h⟩ := sl_b h
      refine sa_invVNi C yy_X0_sightOf ⟨q_379, q_12⟩ q_377 dX4_widest_55 (As := [.int x1]) (rest := []) rfl ⟨Nat.le_trans (Nat.le_of_ble_eq_true rfl) hR.1, Nat.le_trans (Nat.le_of_ble_eq_true rfl) hR.2⟩ (Nat.le_of_ble_eq_true rfl) hh_X0 lx_9 (cc0_sightOf sl_j1 er3) rfl ?_
      refine sa_invSi C yy_J6_bitCount_0f7a4 q_467 q_466 dX4_widest_58 (As := [.int r3]) (rest := []) rfl ⟨Nat.le_trans (Nat.le_of_ble_eq_true rfl) hR.1, Nat.le_trans (Nat.le_of_ble_eq_true rfl) hR.2⟩ (Nat.le_of_ble_eq_true rfl) (ccJ6_bitCount_0f7a4 rfl) rfl ?_
      refine sa_istore C dX4_widest_61 (by decide) (lv2 := [(5, .int (fJ6_bitCount_0f7a4 r3)), (0, .ref (g 27)), (1, .int x1), (2, .int x2), (3, .int x3), (4, .int x4)]) rfl ?_
      refine sa_iload C dX4_widest_63 0 rfl ?_
      refine sa_iload_n C dX4_widest_65 rfl 4 rfl ?_
      refine sa_icmp_le C dX4_widest_66 (tgt := 75) (by decide) (fun c4 => ?_) (fun c4 => ?_)
      · replace h := sl_t c4 h
        refine sa_iinc C dX4_widest_75 5 rfl (v := (x4 + (1 : Int32))) (by rw [ic_1]) (by decide) (lv2 := [(4, .int (x4 + (1 : Int32))), (5, .int (fJ6_bitCount_0f7a4 r3)), (0, .ref (g 27)), (1, .int x1), (2, .int x2), (3, .int x3)]) rfl ?_
        refine sa_goto C dX4_widest_78 (tgt := 32) (by decide) ?_
        exact sa_sub [2, 3, 4, 5, 0] rfl (ih h)
      · replace h := sl_n c4 h
        refine sa_iload C dX4_widest_69 0 rfl ?_
        refine sa_istore_n C dX4_widest_71 rfl (by decide) (lv2 := [(3, .int (fJ6_bitCount_0f7a4 r3)), (5, .int (fJ6_bitCount_0f7a4 r3)), (0, .ref (g 27)), (1, .int x1), (2, .int x2), (4, .int x4)]) rfl ?_
        refine sa_iload C dX4_widest_72 5 rfl ?_
        refine sa_istore_n C dX4_widest_74 rfl (by decide) (lv2 := [(2, .int x4), (3, .int (fJ6_bitCount_0f7a4 r3)), (5, .int (fJ6_bitCount_0f7a4 r3)), (0, .ref (g 27)), (1, .int x1), (4, .int x4)]) rfl ?_
        refine sa_iinc C dX4_widest_75 5 rfl (v := (x4 + (1 : Int32))) (by rw [ic_1]) (by decide) (lv2 := [(4, .int (x4 + (1 : Int32))), (2, .int x4), (3, .int (fJ6_bitCount_0f7a4 r3)), (5, .int (fJ6_bitCount_0f7a4 r3)), (0, .ref (g 27)), (1, .int x1)]) rfl ?_
        refine sa_goto C dX4_widest_78 (tgt := 32) (by decide) ?_
        exact sa_sub [4, 5, 1, 2, 0] rfl (ih h)
theorem cc4_widest {D : va_G} {cA : ClassId} {g : Nat → Nat} {A : Nat → Prop} {z : sl_K} {l : Launch} {x1 : Int32} {M : sl_M} {r : Int32 × sl_M} (h : f4_widest x1 M = some r) : sl_N sl_cl LX D cA g A z l yX4_widest cX4_widest 6 (some .int) 3 74 [.ref (g 27), .int x1] M (some (.int r.1)) r.2 := by
  refine sl_N.of (by decide) (Nat.le_of_ble_eq_true rfl) rfl ?_
  intro p e s m args below meth c C
  replace C : sl_C RX4 cX4_widest 6 (some .int) sl_cl LX D cA g A z p s m meth c := C
  have hR : 3 ≤ (({ frames := 3, cells := 0, slots := 0, locals := 74 } : Room)).frames ∧ 74 ≤ (({ frames := 3, cells := 0, slots := 0, locals := 74 } : Room)).locals := ⟨Nat.le_refl _, Nat.le_refl _⟩
  rw [f4_widest] at h
  refine sa_aload_n C dX4_widest_0 rfl 0 rfl ?_
  refine sa_iload_n C dX4_widest_1 rfl 1 rfl ?_
  refine sa_invVi C yy_X4_isHouse ⟨q_335, q_8⟩ q_333 dX4_widest_2 (As := [.int x1]) (rest := []) rfl ⟨Nat.le_trans (Nat.le_of_ble_eq_true rfl) hR.1, Nat.le_trans (Nat.le_of_ble_eq_true rfl) hR.2⟩ (Nat.le_of_ble_eq_true rfl) hh_X4 lx_27 (cc4_isHouse rfl) rfl ?_
  refine sa_if_ne C dX4_widest_5 (tgt := 14) (by decide) (fun c1 => ?_) (fun c1 => ?_)
  · replace h := sl_n c1 h
    refine sa_aload_n C dX4_widest_14 rfl 0 rfl ?_
    refine sa_getR C hh_X4 (k := 1) dX4_widest_15 q_236 (by decide) lx_27 rfl ?_
    refine sa_aload_n C dX4_widest_18 rfl 0 rfl ?_
    refine sa_getR C hh_X4 (k := 0) dX4_widest_19 q_235 (by decide) lx_27 rfl ?_
    obtain ⟨r2, er2, h⟩ := sl_b h
    refine sa_invVNv C yy_X0_takeAll ⟨q_457, q_21⟩ q_455 dX4_widest_22 (As := [.ref (g 0)]) (rest := []) rfl ⟨Nat.le_trans (Nat.le_of_ble_eq_true rfl) hR.1, Nat.le_trans (Nat.le_of_ble_eq_true rfl) hR.2⟩ (Nat.le_of_ble_eq_true rfl) hh_X0 lx_9 (cc0_takeAll sl_j1 sl_j0 er2) rfl ?_
    refine sa_iconst C dX4_widest_25 ic_1 ?_
    refine sa_istore_n C dX4_widest_26 rfl (by decide) (lv2 := [(2, .int (1 : Int32)), (0, .ref (g 27)), (1, .int x1)]) rfl ?_
    refine sa_iconst C dX4_widest_27 ic_0 ?_
    refine sa_istore_n C dX4_widest_28 rfl (by decide) (lv2 := [(3, .int (0 : Int32)), (2, .int (1 : Int32)), (0, .ref (g 27)), (1, .int x1)]) rfl ?_
    refine sa_iconst C dX4_widest_29 ic_1 ?_
    refine sa_istore C dX4_widest_30 (by decide) (lv2 := [(4, .int (1 : Int32)), (3, .int (0 : Int32)), (2, .int (1 : Int32)), (0, .ref (g 27)), (1, .int x1)]) rfl ?_
    exact sa_sub [3, 4, 2, 1, 0] rfl (w4_widest_32 C hR 400 h)
  · replace h := sl_t c1 h
    refine sa_aload_n C dX4_widest_8 rfl 0 rfl ?_
    refine sa_iconst C dX4_widest_9 ic_0 ?_
    obtain ⟨r3, er3, h⟩ := sl_b h
    refine sa_invVi C yy_X4_tell ⟨q_272, q_0⟩ q_270 dX4_widest_10 (As := [.int (0 : Int32)]) (rest := []) rfl ⟨Nat.le_trans (Nat.le_of_ble_eq_true rfl) hR.1, Nat.le_trans (Nat.le_of_ble_eq_true rfl) hR.2⟩ (Nat.le_of_ble_eq_true rfl) hh_X4 lx_27 (cc4_tell er3) rfl ?_
    exact sa_iret C dX4_widest_13 (sl_p1 h) (sl_p2 h)
/-! X4 wall -/
def f4_wall_90 (k40 : Int32 → Int32 → Int32 → sl_M → Option (Int32 × sl_M)) (x1 : Int32) (x2 : Int32) (x5 : Int32) (x6 : Int32) (M : sl_M) : Option (Int32 × sl_M) := k40 x5 x6 (x5 + (1 : Int32)) M
def f4_wall_40 (x1 : Int32) (x2 : Int32) : Nat → Int32 → Int32 → Int32 → sl_M → Option (Int32 × sl_M)
  | 0, _, _, _, _ => none
  | n + 1, x3, x4, x5, M => (if (3 : Int32) < x5 then (if 0 ≤ x3 then some (x3, M) else (f4_tell (3 : Int32) M).bind fun r3 => some (r3.1, r3.2)) else (sl_st M 16 8 x1 x5).bind fun M4 => (f0_taxOf 1 x1 M4).bind fun r5 => (f0_hasInSight 1 x1 x2 M4).bind fun r6 => (if r6 = 0 then f4_wall_40 x1 x2 n x3 x4 (x5 + (1 : Int32)) M4 else (if x3 < 0 then f4_wall_90 (f4_wall_40 x1 x2 n) x1 x2 x5 r5 M4 else (if x4 ≤ r5 then f4_wall_40 x1 x2 n x3 x4 (x5 + (1 : Int32)) M4 else f4_wall_90 (f4_wall_40 x1 x2 n) x1 x2 x5 r5 M4))))
def f4_wall (x1 : Int32) (x2 : Int32) (M : sl_M) : Option (Int32 × sl_M) := (if (f4_isHouse x1 M) = 0 then (f4_tell (0 : Int32) M).bind fun r2 => some (r2.1, r2.2) else (if (f4_isCell x2) = 0 then (f4_tell (0 : Int32) M).bind fun r5 => some (r5.1, r5.2) else (f0_takeAll 1 0 M).bind fun r4 => f4_wall_40 x1 x2 400 (-1 : Int32) (0 : Int32) (0 : Int32) r4))
theorem w4_wall_90 {D : va_G} {cA : ClassId} {g : Nat → Nat} {A : Nat → Prop} {z : sl_K} {l : Launch} {p : Program} {e : Env} {R : Room} {s : State} {m : MethodId} {args : Array Value} {below : List Frame} {meth : Method} {c : Code} (C : sl_C RX4 cX4_wall 7 (some .int) sl_cl LX D cA g A z p s m meth c) (hR : 5 ≤ R.frames ∧ 119 ≤ R.locals) {M : sl_M} {r : Int32 × sl_M} {x1 : Int32} {x2 : Int32} {x5 : Int32} {x6 : Int32} {k40 : Int32 → Int32 → Int32 → sl_M → Option (Int32 × sl_M)} (hk40 : ∀ {x3 : Int32} {x4 : Int32} {x5 : Int32} {M : sl_M}, k40 x3 x4 x5 M = some r → sl_A sl_cl LX D cA g A p l e R s m args below meth c (MQ below (sl_Q sl_cl LX D cA g A (some (.int r.1)) r.2) args s 0 0 A) 7 40 [(0, .ref (g 27)), (1, .int x1), (2, .int x2), (3, .int x3), (4, .int x4), (5, .int x5)] [] M) (h : f4_wall_90 k40 x1 x2 x5 x6 M = some r) : sl_A sl_cl LX D cA g A p l e R s m args below meth c (MQ below (sl_Q sl_cl LX D cA g A (some (.int r.1)) r.2) args s 0 0 A) 7 90 [(0, .ref (g 27)), (1, .int x1), (2, .int x2), (5, .int x5), (6, .int x6)] [] M := by
  rw [f4_wall_90] at h
  refine sa_iload C dX4_wall_90 4 rfl ?_
  refine sa_istore C dX4_wall_92 (by decide) (lv2 := [(4, .int x6), (0, .ref (g 27)), (1, .int x1), (2, .int x2), (5, .int x5), (6, .int x6)]) rfl ?_
  refine sa_iload C dX4_wall_94 4 rfl ?_
  refine sa_istore_n C dX4_wall_96 rfl (by decide) (lv2 := [(3, .int x5), (4, .int x6), (0, .ref (g 27)), (1, .int x1), (2, .int x2), (5, .int x5), (6, .int x6)]) rfl ?_
  refine sa_iinc C dX4_wall_97 5 rfl (v := (x5 + (1 : Int32))) (by rw [ic_1]) (by decide) (lv2 := [(5, .int (x5 + (1 : Int32))), (3, .int x5), (4, .int x6), (0, .ref (g 27)), (1, .int x1), (2, .int x2), (6, .int x6)]) rfl ?_
  refine sa_goto C dX4_wall_100 (tgt := 40) (by decide) ?_
  exact sa_sub [3, 4, 5, 1, 2, 0] rfl (hk40 h)
theorem w4_wall_40 {D : va_G} {cA : ClassId} {g : Nat → Nat} {A : Nat → Prop} {z : sl_K} {l : Launch} {p : Program} {e : Env} {R : Room} {s : State} {m : MethodId} {args : Array Value} {below : List Frame} {meth : Method} {c : Code} (C : sl_C RX4 cX4_wall 7 (some .int) sl_cl LX D cA g A z p s m meth c) (hR : 5 ≤ R.frames ∧ 119 ≤ R.locals) {r : Int32 × sl_M} {x1 : Int32} {x2 : Int32} : ∀ (n : Nat) {x3 : Int32} {x4 : Int32} {x5 : Int32} {M : sl_M}, f4_wall_40 x1 x2 n x3 x4 x5 M = some r → sl_A sl_cl LX D cA g A p l e R s m args below meth c (MQ below (sl_Q sl_cl LX D cA g A (some (.int r.1)) r.2) args s 0 0 A) 7 40 [(0, .ref (g 27)), (1, .int x1), (2, .int x2), (3, .int x3), (4, .int x4), (5, .int x5)] [] M := by
  intro n
  induction n with
  | zero =>
    intro x3 x4 x5 M h
    exact absurd h.symm (Option.some_ne_none _)
  | succ n ih =>
    intro x3 x4 x5 M h
    rw [f4_wall_40] at h
    refine sa_iload C dX4_wall_40 5 rfl ?_
    refine sa_iconst C dX4_wall_42 ic_3 ?_
    refine sa_icmp_gt C dX4_wall_43 (tgt := 103) (by decide) (fun c1 => ?_) (fun c1 => ?_)
    · replace h := sl_t c1 h
      refine sa_iload_n C dX4_wall_103 rfl 3 rfl ?_
      refine sa_if_ge C dX4_wall_104 (tgt := 115) (by decide) (fun c2 => ?_) (fun c2 => ?_)
      · replace h := sl_t c2 h
        refine sa_iload_n C dX4_wall_115 rfl 3 rfl ?_
        exact sa_iret C dX4_wall_116 (sl_p1 h) (sl_p2 h)
      · replace h := sl_n c2 h
        refine sa_aload_n C dX4_wall_107 rfl 0 rfl ?_
        refine sa_iconst C dX4_wall_108 ic_3 ?_
        obtain ⟨r3, er3, h⟩ := sl_b h
        refine sa_invVi C yy_X4_tell ⟨q_272, q_0⟩ q_270 dX4_wall_109 (As := [.int (3 : Int32)]) (rest := []) rfl ⟨Nat.le_trans (Nat.le_of_ble_eq_true rfl) hR.1, Nat.le_trans (Nat.le_of_ble_eq_true rfl) hR.2⟩ (Nat.le_of_ble_eq_true rfl) hh_X4 lx_27 (cc4_tell er3) rfl ?_
        refine sa_goto C dX4_wall_112 (tgt := 116) (by decide) ?_
        exact sa_iret C dX4_wall_116 (sl_p1 h) (sl_p2 h)
    · replace h := sl_n c1 h
      refine sa_aload_n C dX4_wall_46 rfl 0 rfl ?_
      refine sa_getR C hh_X4 (k := 1) dX4_wall_47 q_236 (by decide) lx_27 rfl ?_
      refine sa_getRN C hh_X0 (k := 6) dX4_wall_50 q_134 (by decide) lx_9 rfl ?_
      refine sa_iload_n C dX4_wall_53 rfl 1 rfl ?_
      refine sa_iload C dX4_wall_54 5 rfl ?_
      obtain ⟨M4, eM4, h⟩ := sl_b h
      refine sa_iast C dX4_wall_56 lx_16 eM4 ?_
      refine sa_aload_n C dX4_wall_57 rfl 0 rfl ?_
      refine sa_getR C hh_X4 (k := 1) dX4_wall_58 q_236 (by decide) lx_27 rfl ?_
      refine sa_iload_n C dX4_wall_61 rfl 1 rfl ?_
      obtain ⟨r5, er5, h⟩ := sl_b h
      refine sa_invVNi C yy_X0_taxOf ⟨q_428, q_17⟩ q_426 dX4_wall_62 (As := [.int x1]) (rest := []) rfl ⟨Nat.le_trans (Nat.le_of_ble_eq_true rfl) hR.1, Nat.le_trans (Nat.le_of_ble_eq_true rfl) hR.2⟩ (Nat.le_of_ble_eq_true rfl) hh_X0 lx_9 (cc0_taxOf sl_j1 er5) rfl ?_
      refine sa_istore C dX4_wall_65 (by decide) (lv2 := [(6, .int r5), (0, .ref (g 27)), (1, .int x1), (2, .int x2), (3, .int x3), (4, .int x4), (5, .int x5)]) rfl ?_
      refine sa_aload_n C dX4_wall_67 rfl 1 rfl ?_
      refine sa_getR C hh_X4 (k := 1) dX4_wall_68 q_236 (by decide) lx_27 rfl ?_
      refine sa_iload_n C dX4_wall_71 rfl 2 rfl ?_
      refine sa_iload_n C dX4_wall_72 rfl 3 rfl ?_
      obtain ⟨r6, er6, h⟩ := sl_b h
      refine sa_invVNi C yy_X0_hasInSight ⟨q_392, q_14⟩ q_390 dX4_wall_73 (As := [.int x1, .int x2]) (rest := []) rfl ⟨Nat.le_trans (Nat.le_of_ble_eq_true rfl) hR.1, Nat.le_trans (Nat.le_of_ble_eq_true rfl) hR.2⟩ (Nat.le_of_ble_eq_true rfl) hh_X0 lx_9 (cc0_hasInSight sl_j1 er6) rfl ?_
      refine sa_if_eq C dX4_wall_76 (tgt := 97) (by decide) (fun c7 => ?_) (fun c7 => ?_)
      · replace h := sl_t c7 h
        refine sa_iinc C dX4_wall_97 6 rfl (v := (x5 + (1 : Int32))) (by rw [ic_1]) (by decide) (lv2 := [(5, .int (x5 + (1 : Int32))), (6, .int r5), (0, .ref (g 27)), (1, .int x1), (2, .int x2), (3, .int x3), (4, .int x4)]) rfl ?_
        refine sa_goto C dX4_wall_100 (tgt := 40) (by decide) ?_
        exact sa_sub [2, 3, 4, 5, 6, 0] rfl (ih h)
      · replace h := sl_n c7 h
        refine sa_iload_n C dX4_wall_79 rfl 4 rfl ?_
        refine sa_if_lt C dX4_wall_80 (tgt := 90) (by decide) (fun c8 => ?_) (fun c8 => ?_)
        · replace h := sl_t c8 h
          exact sa_sub [1, 2, 3, 6, 0] rfl (w4_wall_90 C hR (fun h => ih h) h)
        · replace h := sl_n c8 h
          refine sa_iload C dX4_wall_83 0 rfl ?_
          refine sa_iload C dX4_wall_85 5 rfl ?_
          refine sa_icmp_ge C dX4_wall_87 (tgt := 97) (by decide) (fun c9 => ?_) (fun c9 => ?_)
          · replace h := sl_t c9 h
            refine sa_iinc C dX4_wall_97 6 rfl (v := (x5 + (1 : Int32))) (by rw [ic_1]) (by decide) (lv2 := [(5, .int (x5 + (1 : Int32))), (6, .int r5), (0, .ref (g 27)), (1, .int x1), (2, .int x2), (3, .int x3), (4, .int x4)]) rfl ?_
            refine sa_goto C dX4_wall_100 (tgt := 40) (by decide) ?_
            exact sa_sub [2, 3, 4, 5, 6, 0] rfl (ih h)
          · replace h := sl_n c9 h
            exact sa_sub [1, 2, 3, 6, 0] rfl (w4_wall_90 C hR (fun h => ih h) h)
theorem cc4_wall {D : va_G} {cA : ClassId} {g : Nat → Nat} {A : Nat → Prop} {z : sl_K} {l : Launch} {x1 : Int32} {x2 : Int32} {M : sl_M} {r : Int32 × sl_M} (h : f4_wall x1 x2 M = some r) : sl_N sl_cl LX D cA g A z l yX4_wall cX4_wall 7 (some .int) 5 119 [.ref (g 27), .int x1, .int x2] M (some (.int r.1)) r.2 := by
  refine sl_N.of (by decide) (Nat.le_of_ble_eq_true rfl) rfl ?_
  intro p e s m args below meth c C
  replace C : sl_C RX4 cX4_wall 7 (some .int) sl_cl LX D cA g A z p s m meth c := C
  have hR : 5 ≤ (({ frames := 5, cells := 0, slots := 0, locals := 119 } : Room)).frames ∧ 119 ≤ (({ frames := 5, cells := 0, slots := 0, locals := 119 } : Room)).locals := ⟨Nat.le_refl _, Nat.le_refl _⟩
  rw [f4_wall] at h
  refine sa_aload_n C dX4_wall_0 rfl 0 rfl ?_
  refine sa_iload_n C dX4_wall_1 rfl 1 rfl ?_
  refine sa_invVi C yy_X4_isHouse ⟨q_335, q_8⟩ q_333 dX4_wall_2 (As := [.int x1]) (rest := []) rfl ⟨Nat.le_trans (Nat.le_of_ble_eq_true rfl) hR.1, Nat.le_trans (Nat.le_of_ble_eq_true rfl) hR.2⟩ (Nat.le_of_ble_eq_true rfl) hh_X4 lx_27 (cc4_isHouse rfl) rfl ?_
  refine sa_if_eq C dX4_wall_5 (tgt := 15) (by decide) (fun c1 => ?_) (fun c1 => ?_)
  · replace h := sl_t c1 h
    refine sa_aload_n C dX4_wall_15 rfl 0 rfl ?_
    refine sa_iconst C dX4_wall_16 ic_0 ?_
    obtain ⟨r2, er2, h⟩ := sl_b h
    refine sa_invVi C yy_X4_tell ⟨q_272, q_0⟩ q_270 dX4_wall_17 (As := [.int (0 : Int32)]) (rest := []) rfl ⟨Nat.le_trans (Nat.le_of_ble_eq_true rfl) hR.1, Nat.le_trans (Nat.le_of_ble_eq_true rfl) hR.2⟩ (Nat.le_of_ble_eq_true rfl) hh_X4 lx_27 (cc4_tell er2) rfl ?_
    exact sa_iret C dX4_wall_20 (sl_p1 h) (sl_p2 h)
  · replace h := sl_n c1 h
    refine sa_iload_n C dX4_wall_8 rfl 2 rfl ?_
    refine sa_invSi C yy_X4_isCell q_265 q_264 dX4_wall_9 (As := [.int x2]) (rest := []) rfl ⟨Nat.le_trans (Nat.le_of_ble_eq_true rfl) hR.1, Nat.le_trans (Nat.le_of_ble_eq_true rfl) hR.2⟩ (Nat.le_of_ble_eq_true rfl) (cc4_isCell rfl) rfl ?_
    refine sa_if_ne C dX4_wall_12 (tgt := 21) (by decide) (fun c3 => ?_) (fun c3 => ?_)
    · replace h := sl_n c3 h
      refine sa_aload_n C dX4_wall_21 rfl 0 rfl ?_
      refine sa_getR C hh_X4 (k := 1) dX4_wall_22 q_236 (by decide) lx_27 rfl ?_
      refine sa_aload_n C dX4_wall_25 rfl 0 rfl ?_
      refine sa_getR C hh_X4 (k := 0) dX4_wall_26 q_235 (by decide) lx_27 rfl ?_
      obtain ⟨r4, er4, h⟩ := sl_b h
      refine sa_invVNv C yy_X0_takeAll ⟨q_457, q_21⟩ q_455 dX4_wall_29 (As := [.ref (g 0)]) (rest := []) rfl ⟨Nat.le_trans (Nat.le_of_ble_eq_true rfl) hR.1, Nat.le_trans (Nat.le_of_ble_eq_true rfl) hR.2⟩ (Nat.le_of_ble_eq_true rfl) hh_X0 lx_9 (cc0_takeAll sl_j1 sl_j0 er4) rfl ?_
      refine sa_iconst C dX4_wall_32 ic_m1 ?_
      refine sa_istore_n C dX4_wall_33 rfl (by decide) (lv2 := [(3, .int (-1 : Int32)), (0, .ref (g 27)), (1, .int x1), (2, .int x2)]) rfl ?_
      refine sa_iconst C dX4_wall_34 ic_0 ?_
      refine sa_istore C dX4_wall_35 (by decide) (lv2 := [(4, .int (0 : Int32)), (3, .int (-1 : Int32)), (0, .ref (g 27)), (1, .int x1), (2, .int x2)]) rfl ?_
      refine sa_iconst C dX4_wall_37 ic_0 ?_
      refine sa_istore C dX4_wall_38 (by decide) (lv2 := [(5, .int (0 : Int32)), (4, .int (0 : Int32)), (3, .int (-1 : Int32)), (0, .ref (g 27)), (1, .int x1), (2, .int x2)]) rfl ?_
      exact sa_sub [3, 4, 5, 2, 1, 0] rfl (w4_wall_40 C hR 400 h)
    · replace h := sl_t c3 h
      refine sa_aload_n C dX4_wall_15 rfl 0 rfl ?_
      refine sa_iconst C dX4_wall_16 ic_0 ?_
      obtain ⟨r5, er5, h⟩ := sl_b h
      refine sa_invVi C yy_X4_tell ⟨q_272, q_0⟩ q_270 dX4_wall_17 (As := [.int (0 : Int32)]) (rest := []) rfl ⟨Nat.le_trans (Nat.le_of_ble_eq_true rfl) hR.1, Nat.le_trans (Nat.le_of_ble_eq_true rfl) hR.2⟩ (Nat.le_of_ble_eq_true rfl) hh_X4 lx_27 (cc4_tell er5) rfl ?_
      exact sa_iret C dX4_wall_20 (sl_p1 h) (sl_p2 h)
/-! X4 isTaxAsked -/
def f4_isTaxAsked (x0 : Int32) : Int32 := (f4_isWithin x0 (0 : Int32) (99999 : Int32))
theorem f4_isTaxAsked_b {x0 : Int32} : f4_isTaxAsked x0 = 0 ∨ f4_isTaxAsked x0 = 1 := by
  rw [f4_isTaxAsked]
  first | exact f4_isWithin_b | ((repeat' split) <;> first | exact Or.inl rfl | exact Or.inr rfl)
theorem cc4_isTaxAsked {D : va_G} {cA : ClassId} {g : Nat → Nat} {A : Nat → Prop} {z : sl_K} {l : Launch} {x0 : Int32} {M : sl_M} {r : Int32} (h : f4_isTaxAsked x0 = r) : sl_N sl_cl LX D cA g A z l yX4_isTaxAsked cX4_isTaxAsked 1 (some .boolean) 1 22 [.int x0] M (some (.int r)) M := by
  refine sl_N.of (by decide) (Nat.le_of_ble_eq_true rfl) rfl ?_
  intro p e s m args below meth c C
  replace C : sl_C RX4 cX4_isTaxAsked 1 (some .boolean) sl_cl LX D cA g A z p s m meth c := C
  have hR : 1 ≤ (({ frames := 1, cells := 0, slots := 0, locals := 22 } : Room)).frames ∧ 22 ≤ (({ frames := 1, cells := 0, slots := 0, locals := 22 } : Room)).locals := ⟨Nat.le_refl _, Nat.le_refl _⟩
  rw [f4_isTaxAsked] at h
  refine sa_iload_n C dX4_isTaxAsked_0 rfl 0 rfl ?_
  refine sa_iconst C dX4_isTaxAsked_1 ic_0 ?_
  refine sa_ldcw C dX4_isTaxAsked_2 q_483 ?_
  refine sa_invSi C yy_X4_isWithin q_268 q_267 dX4_isTaxAsked_5 (As := [.int x0, .int (0 : Int32), .int (99999 : Int32)]) (rest := []) rfl ⟨Nat.le_trans (Nat.le_of_ble_eq_true rfl) hR.1, Nat.le_trans (Nat.le_of_ble_eq_true rfl) hR.2⟩ (Nat.le_of_ble_eq_true rfl) (cc4_isWithin rfl) rfl ?_
  exact sa_zret C dX4_isTaxAsked_8 (by first | assumption | exact f4_isWithin_b | ((repeat' split) <;> first | exact Or.inl rfl | exact Or.inr rfl)) h rfl
/-! X4 rateFor -/
def f4_rateFor_59 (k48 : Int32 → sl_M → Option (Int32 × sl_M)) (x1 : Int32) (x2 : Int32) : Nat → Int32 → Int32 → sl_M → Option (Int32 × sl_M)
  | 0, _, _, _ => none
  | n + 1, x3, x4, M => (if (M 0 8) ≤ x4 then (if x3 < x1 then k48 (x2 + (1 : Int32)) M else some (x2, M)) else (sl_ld (M 36) 8 x4).bind fun v3 => f4_rateFor_59 k48 x1 x2 n (x3 + (f0_taxFor v3 x2)) (x4 + (1 : Int32)) M)
def f4_rateFor_48 (x1 : Int32) : Nat → Int32 → sl_M → Option (Int32 × sl_M)
  | 0, _, _ => none
  | n + 1, x2, M => (if (99 : Int32) < x2 then (f4_tell (3 : Int32) M).bind fun r2 => some (r2.1, r2.2) else f4_rateFor_59 (f4_rateFor_48 x1 n) x1 x2 400 (0 : Int32) (0 : Int32) M)
def f4_rateFor_15 (x1 : Int32) : Nat → Int32 → sl_M → Option (Int32 × sl_M)
  | 0, _, _ => none
  | n + 1, x2, M => (if (M 0 8) ≤ x2 then f4_rateFor_48 x1 400 (0 : Int32) M else (f0_worthSeenBy 0 x2 M).bind fun r2 => (sl_st M 36 8 x2 r2).bind fun M3 => f4_rateFor_15 x1 n (x2 + (1 : Int32)) M3)
def f4_rateFor (x1 : Int32) (M : sl_M) : Option (Int32 × sl_M) := (if (f4_isTaxAsked x1) = 0 then (f4_tell (0 : Int32) M).bind fun r2 => some (r2.1, r2.2) else f4_rateFor_15 x1 400 (0 : Int32) M)
theorem w4_rateFor_59 {D : va_G} {cA : ClassId} {g : Nat → Nat} {A : Nat → Prop} {z : sl_K} {l : Launch} {p : Program} {e : Env} {R : Room} {s : State} {m : MethodId} {args : Array Value} {below : List Frame} {meth : Method} {c : Code} (C : sl_C RX4 cX4_rateFor 5 (some .int) sl_cl LX D cA g A z p s m meth c) (hR : 4 ≤ R.frames ∧ 98 ≤ R.locals) {r : Int32 × sl_M} {x1 : Int32} {x2 : Int32} {k48 : Int32 → sl_M → Option (Int32 × sl_M)} (hk48 : ∀ {x2 : Int32} {M : sl_M}, k48 x2 M = some r → sl_A sl_cl LX D cA g A p l e R s m args below meth c (MQ below (sl_Q sl_cl LX D cA g A (some (.int r.1)) r.2) args s 0 0 A) 5 48 [(0, .ref (g 27)), (1, .int x1), (2, .int x2)] [] M) : ∀ (n : Nat) {x3 : Int32} {x4 : Int32} {M : sl_M}, f4_rateFor_59 k48 x1 x2 n x3 x4 M = some r → sl_A sl_cl LX D cA g A p l e R s m args below meth c (MQ below (sl_Q sl_cl LX D cA g A (some (.int r.1)) r.2) args s 0 0 A) 5 59 [(0, .ref (g 27)), (1, .int x1), (2, .int x2), (3, .int x3), (4, .int x4)] [] M := by
  intro n
  induction n with
  | zero =>
    intro x3 x4 M h
    exact absurd h.symm (Option.some_ne_none _)
  | succ n ih =>
    intro x3 x4 M h
    rw [f4_rateFor_59] at h
    refine sa_iload C dX4_rateFor_59 4 rfl ?_
    refine sa_aload_n C dX4_rateFor_61 rfl 0 rfl ?_
    refine sa_getR C hh_X4 (k := 0) dX4_rateFor_62 q_235 (by decide) lx_27 rfl ?_
    refine sa_getIN C hh_X0 (k := 8) dX4_rateFor_65 q_138 (by decide) lx_0 rfl ?_
    refine sa_icmp_ge C dX4_rateFor_68 (tgt := 91) (by decide) (fun c1 => ?_) (fun c1 => ?_)
    · replace h := sl_t c1 h
      refine sa_iload_n C dX4_rateFor_91 rfl 3 rfl ?_
      refine sa_iload_n C dX4_rateFor_92 rfl 1 rfl ?_
      refine sa_icmp_lt C dX4_rateFor_93 (tgt := 98) (by decide) (fun c2 => ?_) (fun c2 => ?_)
      · replace h := sl_t c2 h
        refine sa_iinc C dX4_rateFor_98 2 rfl (v := (x2 + (1 : Int32))) (by rw [ic_1]) (by decide) (lv2 := [(2, .int (x2 + (1 : Int32))), (0, .ref (g 27)), (1, .int x1), (3, .int x3), (4, .int x4)]) rfl ?_
        refine sa_goto C dX4_rateFor_101 (tgt := 48) (by decide) ?_
        exact sa_sub [1, 2, 0] rfl (hk48 h)
      · replace h := sl_n c2 h
        refine sa_iload_n C dX4_rateFor_96 rfl 2 rfl ?_
        exact sa_iret C dX4_rateFor_97 (sl_p1 h) (sl_p2 h)
    · replace h := sl_n c1 h
      refine sa_iload_n C dX4_rateFor_71 rfl 3 rfl ?_
      refine sa_aload_n C dX4_rateFor_72 rfl 0 rfl ?_
      refine sa_getR C hh_X4 (k := 7) dX4_rateFor_73 q_242 (by decide) lx_27 rfl ?_
      refine sa_iload C dX4_rateFor_76 4 rfl ?_
      obtain ⟨v3, ev3, h⟩ := sl_b h
      refine sa_iald C dX4_rateFor_78 lx_36 ev3 ?_
      refine sa_iload_n C dX4_rateFor_79 rfl 2 rfl ?_
      refine sa_invSNi C yy_X0_taxFor q_436 q_485 dX4_rateFor_80 (As := [.int v3, .int x2]) (rest := [.int x3]) rfl ⟨Nat.le_trans (Nat.le_of_ble_eq_true rfl) hR.1, Nat.le_trans (Nat.le_of_ble_eq_true rfl) hR.2⟩ (Nat.le_of_ble_eq_true rfl) (cc0_taxFor rfl) rfl ?_
      refine sa_iadd C dX4_rateFor_83 ?_
      refine sa_istore_n C dX4_rateFor_84 rfl (by decide) (lv2 := [(3, .int (x3 + (f0_taxFor v3 x2))), (0, .ref (g 27)), (1, .int x1), (2, .int x2), (4, .int x4)]) rfl ?_
      refine sa_iinc C dX4_rateFor_85 4 rfl (v := (x4 + (1 : Int32))) (by rw [ic_1]) (by decide) (lv2 := [(4, .int (x4 + (1 : Int32))), (3, .int (x3 + (f0_taxFor v3 x2))), (0, .ref (g 27)), (1, .int x1), (2, .int x2)]) rfl ?_
      refine sa_goto C dX4_rateFor_88 (tgt := 59) (by decide) ?_
      exact sa_sub [2, 3, 4, 1, 0] rfl (ih h)
theorem w4_rateFor_48 {D : va_G} {cA : ClassId} {g : Nat → Nat} {A : Nat → Prop} {z : sl_K} {l : Launch} {p : Program} {e : Env} {R : Room} {s : State} {m : MethodId} {args : Array Value} {below : List Frame} {meth : Method} {c : Code} (C : sl_C RX4 cX4_rateFor 5 (some .int) sl_cl LX D cA g A z p s m meth c) (hR : 4 ≤ R.frames ∧ 98 ≤ R.locals) {r : Int32 × sl_M} {x1 : Int32} : ∀ (n : Nat) {x2 : Int32} {M : sl_M}, f4_rateFor_48 x1 n x2 M = some r → sl_A sl_cl LX D cA g A p l e R s m args below meth c (MQ below (sl_Q sl_cl LX D cA g A (some (.int r.1)) r.2) args s 0 0 A) 5 48 [(0, .ref (g 27)), (1, .int x1), (2, .int x2)] [] M := by
  intro n
  induction n with
  | zero =>
    intro x2 M h
    exact absurd h.symm (Option.some_ne_none _)
  | succ n ih =>
    intro x2 M h
    rw [f4_rateFor_48] at h
    refine sa_iload_n C dX4_rateFor_48 rfl 2 rfl ?_
    refine sa_bipush C dX4_rateFor_49 bp_99 ?_
    refine sa_icmp_gt C dX4_rateFor_51 (tgt := 104) (by decide) (fun c1 => ?_) (fun c1 => ?_)
    · replace h := sl_t c1 h
      refine sa_aload_n C dX4_rateFor_104 rfl 0 rfl ?_
      refine sa_iconst C dX4_rateFor_105 ic_3 ?_
      obtain ⟨r2, er2, h⟩ := sl_b h
      refine sa_invVi C yy_X4_tell ⟨q_272, q_0⟩ q_270 dX4_rateFor_106 (As := [.int (3 : Int32)]) (rest := []) rfl ⟨Nat.le_trans (Nat.le_of_ble_eq_true rfl) hR.1, Nat.le_trans (Nat.le_of_ble_eq_true rfl) hR.2⟩ (Nat.le_of_ble_eq_true rfl) hh_X4 lx_27 (cc4_tell er2) rfl ?_
      exact sa_iret C dX4_rateFor_109 (sl_p1 h) (sl_p2 h)
    · replace h := sl_n c1 h
      refine sa_iconst C dX4_rateFor_54 ic_0 ?_
      refine sa_istore_n C dX4_rateFor_55 rfl (by decide) (lv2 := [(3, .int (0 : Int32)), (0, .ref (g 27)), (1, .int x1), (2, .int x2)]) rfl ?_
      refine sa_iconst C dX4_rateFor_56 ic_0 ?_
      refine sa_istore C dX4_rateFor_57 (by decide) (lv2 := [(4, .int (0 : Int32)), (3, .int (0 : Int32)), (0, .ref (g 27)), (1, .int x1), (2, .int x2)]) rfl ?_
      exact sa_sub [2, 3, 4, 1, 0] rfl (w4_rateFor_59 C hR (fun h => ih h) 400 h)
theorem w4_rateFor_15 {D : va_G} {cA : ClassId} {g : Nat → Nat} {A : Nat → Prop} {z : sl_K} {l : Launch} {p : Program} {e : Env} {R : Room} {s : State} {m : MethodId} {args : Array Value} {below : List Frame} {meth : Method} {c : Code} (C : sl_C RX4 cX4_rateFor 5 (some .int) sl_cl LX D cA g A z p s m meth c) (hR : 4 ≤ R.frames ∧ 98 ≤ R.locals) {r : Int32 × sl_M} {x1 : Int32} : ∀ (n : Nat) {x2 : Int32} {M : sl_M}, f4_rateFor_15 x1 n x2 M = some r → sl_A sl_cl LX D cA g A p l e R s m args below meth c (MQ below (sl_Q sl_cl LX D cA g A (some (.int r.1)) r.2) args s 0 0 A) 5 15 [(0, .ref (g 27)), (1, .int x1), (2, .int x2)] [] M := by
  intro n
  induction n with
  | zero =>
    intro x2 M h
    exact absurd h.symm (Option.some_ne_none _)
  | succ n ih =>
    intro x2 M h
    rw [f4_rateFor_15] at h
    refine sa_iload_n C dX4_rateFor_15 rfl 2 rfl ?_
    refine sa_aload_n C dX4_rateFor_16 rfl 0 rfl ?_
    refine sa_getR C hh_X4 (k := 0) dX4_rateFor_17 q_235 (by decide) lx_27 rfl ?_
    refine sa_getIN C hh_X0 (k := 8) dX4_rateFor_20 q_138 (by decide) lx_0 rfl ?_
    refine sa_icmp_ge C dX4_rateFor_23 (tgt := 46) (by decide) (fun c1 => ?_) (fun c1 => ?_)
    · replace h := sl_t c1 h
      refine sa_iconst C dX4_rateFor_46 ic_0 ?_
      refine sa_istore_n C dX4_rateFor_47 rfl (by decide) (lv2 := [(2, .int (0 : Int32)), (0, .ref (g 27)), (1, .int x1)]) rfl ?_
      exact sa_sub [1, 2, 0] rfl (w4_rateFor_48 C hR 400 h)
    · replace h := sl_n c1 h
      refine sa_aload_n C dX4_rateFor_26 rfl 0 rfl ?_
      refine sa_getR C hh_X4 (k := 7) dX4_rateFor_27 q_242 (by decide) lx_27 rfl ?_
      refine sa_iload_n C dX4_rateFor_30 rfl 2 rfl ?_
      refine sa_aload_n C dX4_rateFor_31 rfl 0 rfl ?_
      refine sa_getR C hh_X4 (k := 0) dX4_rateFor_32 q_235 (by decide) lx_27 rfl ?_
      refine sa_iload_n C dX4_rateFor_35 rfl 2 rfl ?_
      obtain ⟨r2, er2, h⟩ := sl_b h
      refine sa_invVNi C yy_X0_worthSeenBy ⟨q_432, q_18⟩ q_484 dX4_rateFor_36 (As := [.int x2]) (rest := [.int x2, .ref (g 36)]) rfl ⟨Nat.le_trans (Nat.le_of_ble_eq_true rfl) hR.1, Nat.le_trans (Nat.le_of_ble_eq_true rfl) hR.2⟩ (Nat.le_of_ble_eq_true rfl) hh_X0 lx_0 (cc0_worthSeenBy sl_j0 er2) rfl ?_
      obtain ⟨M3, eM3, h⟩ := sl_b h
      refine sa_iast C dX4_rateFor_39 lx_36 eM3 ?_
      refine sa_iinc C dX4_rateFor_40 2 rfl (v := (x2 + (1 : Int32))) (by rw [ic_1]) (by decide) (lv2 := [(2, .int (x2 + (1 : Int32))), (0, .ref (g 27)), (1, .int x1)]) rfl ?_
      refine sa_goto C dX4_rateFor_43 (tgt := 15) (by decide) ?_
      exact sa_sub [1, 2, 0] rfl (ih h)
theorem cc4_rateFor {D : va_G} {cA : ClassId} {g : Nat → Nat} {A : Nat → Prop} {z : sl_K} {l : Launch} {x1 : Int32} {M : sl_M} {r : Int32 × sl_M} (h : f4_rateFor x1 M = some r) : sl_N sl_cl LX D cA g A z l yX4_rateFor cX4_rateFor 5 (some .int) 4 98 [.ref (g 27), .int x1] M (some (.int r.1)) r.2 := by
  refine sl_N.of (by decide) (Nat.le_of_ble_eq_true rfl) rfl ?_
  intro p e s m args below meth c C
  replace C : sl_C RX4 cX4_rateFor 5 (some .int) sl_cl LX D cA g A z p s m meth c := C
  have hR : 4 ≤ (({ frames := 4, cells := 0, slots := 0, locals := 98 } : Room)).frames ∧ 98 ≤ (({ frames := 4, cells := 0, slots := 0, locals := 98 } : Room)).locals := ⟨Nat.le_refl _, Nat.le_refl _⟩
  rw [f4_rateFor] at h
  refine sa_iload_n C dX4_rateFor_0 rfl 1 rfl ?_
  refine sa_invSi C yy_X4_isTaxAsked q_481 q_480 dX4_rateFor_1 (As := [.int x1]) (rest := []) rfl ⟨Nat.le_trans (Nat.le_of_ble_eq_true rfl) hR.1, Nat.le_trans (Nat.le_of_ble_eq_true rfl) hR.2⟩ (Nat.le_of_ble_eq_true rfl) (cc4_isTaxAsked rfl) rfl ?_
  refine sa_if_ne C dX4_rateFor_4 (tgt := 13) (by decide) (fun c1 => ?_) (fun c1 => ?_)
  · replace h := sl_n c1 h
    refine sa_iconst C dX4_rateFor_13 ic_0 ?_
    refine sa_istore_n C dX4_rateFor_14 rfl (by decide) (lv2 := [(2, .int (0 : Int32)), (0, .ref (g 27)), (1, .int x1)]) rfl ?_
    exact sa_sub [1, 2, 0] rfl (w4_rateFor_15 C hR 400 h)
  · replace h := sl_t c1 h
    refine sa_aload_n C dX4_rateFor_7 rfl 0 rfl ?_
    refine sa_iconst C dX4_rateFor_8 ic_0 ?_
    obtain ⟨r2, er2, h⟩ := sl_b h
    refine sa_invVi C yy_X4_tell ⟨q_272, q_0⟩ q_270 dX4_rateFor_9 (As := [.int (0 : Int32)]) (rest := []) rfl ⟨Nat.le_trans (Nat.le_of_ble_eq_true rfl) hR.1, Nat.le_trans (Nat.le_of_ble_eq_true rfl) hR.2⟩ (Nat.le_of_ble_eq_true rfl) hh_X4 lx_27 (cc4_tell er2) rfl ?_
    exact sa_iret C dX4_rateFor_12 (sl_p1 h) (sl_p2 h)
/-! X4 isSpan -/
def f4_isSpan (x0 : Int32) : Int32 := (f4_isWithin x0 (0 : Int32) (60 : Int32))
theorem f4_isSpan_b {x0 : Int32} : f4_isSpan x0 = 0 ∨ f4_isSpan x0 = 1 := by
  rw [f4_isSpan]
  first | exact f4_isWithin_b | ((repeat' split) <;> first | exact Or.inl rfl | exact Or.inr rfl)
theorem cc4_isSpan {D : va_G} {cA : ClassId} {g : Nat → Nat} {A : Nat → Prop} {z : sl_K} {l : Launch} {x0 : Int32} {M : sl_M} {r : Int32} (h : f4_isSpan x0 = r) : sl_N sl_cl LX D cA g A z l yX4_isSpan cX4_isSpan 1 (some .boolean) 1 22 [.int x0] M (some (.int r)) M := by
  refine sl_N.of (by decide) (Nat.le_of_ble_eq_true rfl) rfl ?_
  intro p e s m args below meth c C
  replace C : sl_C RX4 cX4_isSpan 1 (some .boolean) sl_cl LX D cA g A z p s m meth c := C
  have hR : 1 ≤ (({ frames := 1, cells := 0, slots := 0, locals := 22 } : Room)).frames ∧ 22 ≤ (({ frames := 1, cells := 0, slots := 0, locals := 22 } : Room)).locals := ⟨Nat.le_refl _, Nat.le_refl _⟩
  rw [f4_isSpan] at h
  refine sa_iload_n C dX4_isSpan_0 rfl 0 rfl ?_
  refine sa_iconst C dX4_isSpan_1 ic_0 ?_
  refine sa_bipush C dX4_isSpan_2 bp_60 ?_
  refine sa_invSi C yy_X4_isWithin q_268 q_267 dX4_isSpan_4 (As := [.int x0, .int (0 : Int32), .int (60 : Int32)]) (rest := []) rfl ⟨Nat.le_trans (Nat.le_of_ble_eq_true rfl) hR.1, Nat.le_trans (Nat.le_of_ble_eq_true rfl) hR.2⟩ (Nat.le_of_ble_eq_true rfl) (cc4_isWithin rfl) rfl ?_
  exact sa_zret C dX4_isSpan_7 (by first | assumption | exact f4_isWithin_b | ((repeat' split) <;> first | exact Or.inl rfl | exact Or.inr rfl)) h rfl
/-! X4 isTooLate -/
def f4_isTooLate (x1 : Int32) (M : sl_M) : Int32 := (if ((M 0 11) + x1) ≤ (999 : Int32) then (0 : Int32) else (1 : Int32))
theorem f4_isTooLate_b {x1 : Int32} {M : sl_M} : f4_isTooLate x1 M = 0 ∨ f4_isTooLate x1 M = 1 := by
  rw [f4_isTooLate]
  first | exact if_b | ((repeat' split) <;> first | exact Or.inl rfl | exact Or.inr rfl)
theorem cc4_isTooLate {D : va_G} {cA : ClassId} {g : Nat → Nat} {A : Nat → Prop} {z : sl_K} {l : Launch} {x1 : Int32} {M : sl_M} {r : Int32} (h : f4_isTooLate x1 M = r) : sl_N sl_cl LX D cA g A z l yX4_isTooLate cX4_isTooLate 2 (some .boolean) 0 0 [.ref (g 27), .int x1] M (some (.int r)) M := by
  refine sl_N.of (by decide) (Nat.le_of_ble_eq_true rfl) rfl ?_
  intro p e s m args below meth c C
  replace C : sl_C RX4 cX4_isTooLate 2 (some .boolean) sl_cl LX D cA g A z p s m meth c := C
  have hR : 0 ≤ (({ frames := 0, cells := 0, slots := 0, locals := 0 } : Room)).frames ∧ 0 ≤ (({ frames := 0, cells := 0, slots := 0, locals := 0 } : Room)).locals := ⟨Nat.le_refl _, Nat.le_refl _⟩
  rw [f4_isTooLate] at h
  refine sa_aload_n C dX4_isTooLate_0 rfl 0 rfl ?_
  refine sa_getR C hh_X4 (k := 0) dX4_isTooLate_1 q_235 (by decide) lx_27 rfl ?_
  refine sa_getIN C hh_X0 (k := 11) dX4_isTooLate_4 q_146 (by decide) lx_0 rfl ?_
  refine sa_iload_n C dX4_isTooLate_7 rfl 1 rfl ?_
  refine sa_iadd C dX4_isTooLate_8 ?_
  refine sa_sipush C dX4_isTooLate_9 sp_999 ?_
  refine sa_icmp_le C dX4_isTooLate_12 (tgt := 19) (by decide) (fun c1 => ?_) (fun c1 => ?_)
  · replace h := sl_t c1 h
    refine sa_iconst C dX4_isTooLate_19 ic_0 ?_
    exact sa_zret C dX4_isTooLate_20 (Or.inl rfl) h rfl
  · replace h := sl_n c1 h
    refine sa_iconst C dX4_isTooLate_15 ic_1 ?_
    refine sa_goto C dX4_isTooLate_16 (tgt := 20) (by decide) ?_
    exact sa_zret C dX4_isTooLate_20 (Or.inr rfl) h rfl
/-! X4 tryThing -/
def f4_tryThing (x1 : Int32) (x2 : Int32) (x3 : Int32) (M : sl_M) : Option sl_M := (f0_takeAll 1 0 M).bind fun r1 => (f0_place 1 x1 x2 r1).bind fun r2 => (f0_grow 1 x3 r2).bind fun r3 => some r3
theorem cc4_tryThing {D : va_G} {cA : ClassId} {g : Nat → Nat} {A : Nat → Prop} {z : sl_K} {l : Launch} {x1 : Int32} {x2 : Int32} {x3 : Int32} {M : sl_M} {r : sl_M} (h : f4_tryThing x1 x2 x3 M = some r) : sl_N sl_cl LX D cA g A z l yX4_tryThing cX4_tryThing 4 none 5 108 [.ref (g 27), .int x1, .int x2, .int x3] M none r := by
  refine sl_N.of (by decide) (Nat.le_of_ble_eq_true rfl) rfl ?_
  intro p e s m args below meth c C
  replace C : sl_C RX4 cX4_tryThing 4 none sl_cl LX D cA g A z p s m meth c := C
  have hR : 5 ≤ (({ frames := 5, cells := 0, slots := 0, locals := 108 } : Room)).frames ∧ 108 ≤ (({ frames := 5, cells := 0, slots := 0, locals := 108 } : Room)).locals := ⟨Nat.le_refl _, Nat.le_refl _⟩
  rw [f4_tryThing] at h
  refine sa_aload_n C dX4_tryThing_0 rfl 0 rfl ?_
  refine sa_getR C hh_X4 (k := 1) dX4_tryThing_1 q_236 (by decide) lx_27 rfl ?_
  refine sa_aload_n C dX4_tryThing_4 rfl 0 rfl ?_
  refine sa_getR C hh_X4 (k := 0) dX4_tryThing_5 q_235 (by decide) lx_27 rfl ?_
  obtain ⟨r1, er1, h⟩ := sl_b h
  refine sa_invVNv C yy_X0_takeAll ⟨q_457, q_21⟩ q_455 dX4_tryThing_8 (As := [.ref (g 0)]) (rest := []) rfl ⟨Nat.le_trans (Nat.le_of_ble_eq_true rfl) hR.1, Nat.le_trans (Nat.le_of_ble_eq_true rfl) hR.2⟩ (Nat.le_of_ble_eq_true rfl) hh_X0 lx_9 (cc0_takeAll sl_j1 sl_j0 er1) rfl ?_
  refine sa_aload_n C dX4_tryThing_11 rfl 0 rfl ?_
  refine sa_getR C hh_X4 (k := 1) dX4_tryThing_12 q_236 (by decide) lx_27 rfl ?_
  refine sa_iload_n C dX4_tryThing_15 rfl 1 rfl ?_
  refine sa_iload_n C dX4_tryThing_16 rfl 2 rfl ?_
  obtain ⟨r2, er2, h⟩ := sl_b h
  refine sa_invVNv C yy_X0_place ⟨q_302, q_4⟩ q_300 dX4_tryThing_17 (As := [.int x1, .int x2]) (rest := []) rfl ⟨Nat.le_trans (Nat.le_of_ble_eq_true rfl) hR.1, Nat.le_trans (Nat.le_of_ble_eq_true rfl) hR.2⟩ (Nat.le_of_ble_eq_true rfl) hh_X0 lx_9 (cc0_place sl_j1 er2) rfl ?_
  refine sa_aload_n C dX4_tryThing_20 rfl 0 rfl ?_
  refine sa_getR C hh_X4 (k := 1) dX4_tryThing_21 q_236 (by decide) lx_27 rfl ?_
  refine sa_iload_n C dX4_tryThing_24 rfl 3 rfl ?_
  obtain ⟨r3, er3, h⟩ := sl_b h
  refine sa_invVNv C yy_X0_grow ⟨q_503, q_24⟩ q_501 dX4_tryThing_25 (As := [.int x3]) (rest := []) rfl ⟨Nat.le_trans (Nat.le_of_ble_eq_true rfl) hR.1, Nat.le_trans (Nat.le_of_ble_eq_true rfl) hR.2⟩ (Nat.le_of_ble_eq_true rfl) hh_X0 lx_9 (cc0_grow sl_j1 er3) rfl ?_
  exact sa_vret C dX4_tryThing_28 (Option.some.inj h)
/-! X4 shade -/
def f4_shade_88 (k51 : Int32 → Int32 → Int32 → sl_M → Option (Int32 × sl_M)) (x1 : Int32) (x2 : Int32) (x3 : Int32) (x6 : Int32) (x7 : Int32) (M : sl_M) : Option (Int32 × sl_M) := k51 x6 x7 (x6 + (1 : Int32)) M
def f4_shade_51 (x1 : Int32) (x2 : Int32) (x3 : Int32) : Nat → Int32 → Int32 → Int32 → sl_M → Option (Int32 × sl_M)
  | 0, _, _, _, _ => none
  | n + 1, x4, x5, x6, M => (if (24 : Int32) ≤ x6 then some (x4, M) else (f4_tryThing x6 x2 x3 M).bind fun r2 => (f0_taxOf 1 x1 r2).bind fun r3 => (if x4 < 0 then f4_shade_88 (f4_shade_51 x1 x2 x3 n) x1 x2 x3 x6 r3 r2 else (if x5 ≤ r3 then f4_shade_51 x1 x2 x3 n x4 x5 (x6 + (1 : Int32)) r2 else f4_shade_88 (f4_shade_51 x1 x2 x3 n) x1 x2 x3 x6 r3 r2)))
def f4_shade (x1 : Int32) (x2 : Int32) (x3 : Int32) (M : sl_M) : Option (Int32 × sl_M) := (if (f4_isHouse x1 M) = 0 then (f4_tell (0 : Int32) M).bind fun r2 => some (r2.1, r2.2) else (if (f4_isKind x2) = 0 then (f4_tell (0 : Int32) M).bind fun r4 => some (r4.1, r4.2) else (if (f4_isSpan x3) = 0 then (f4_tell (0 : Int32) M).bind fun r8 => some (r8.1, r8.2) else (if (f4_isTooLate x3 M) = 0 then f4_shade_51 x1 x2 x3 400 (-1 : Int32) (0 : Int32) (0 : Int32) M else (f4_tell (4 : Int32) M).bind fun r7 => some (r7.1, r7.2)))))
theorem w4_shade_88 {D : va_G} {cA : ClassId} {g : Nat → Nat} {A : Nat → Prop} {z : sl_K} {l : Launch} {p : Program} {e : Env} {R : Room} {s : State} {m : MethodId} {args : Array Value} {below : List Frame} {meth : Method} {c : Code} (C : sl_C RX4 cX4_shade 8 (some .int) sl_cl LX D cA g A z p s m meth c) (hR : 6 ≤ R.frames ∧ 131 ≤ R.locals) {M : sl_M} {r : Int32 × sl_M} {x1 : Int32} {x2 : Int32} {x3 : Int32} {x6 : Int32} {x7 : Int32} {k51 : Int32 → Int32 → Int32 → sl_M → Option (Int32 × sl_M)} (hk51 : ∀ {x4 : Int32} {x5 : Int32} {x6 : Int32} {M : sl_M}, k51 x4 x5 x6 M = some r → sl_A sl_cl LX D cA g A p l e R s m args below meth c (MQ below (sl_Q sl_cl LX D cA g A (some (.int r.1)) r.2) args s 0 0 A) 8 51 [(0, .ref (g 27)), (1, .int x1), (2, .int x2), (3, .int x3), (4, .int x4), (5, .int x5), (6, .int x6)] [] M) (h : f4_shade_88 k51 x1 x2 x3 x6 x7 M = some r) : sl_A sl_cl LX D cA g A p l e R s m args below meth c (MQ below (sl_Q sl_cl LX D cA g A (some (.int r.1)) r.2) args s 0 0 A) 8 88 [(0, .ref (g 27)), (1, .int x1), (2, .int x2), (3, .int x3), (6, .int x6), (7, .int x7)] [] M := by
  rw [f4_shade_88] at h
  refine sa_iload C dX4_shade_88 5 rfl ?_
  refine sa_istore C dX4_shade_90 (by decide) (lv2 := [(5, .int x7), (0, .ref (g 27)), (1, .int x1), (2, .int x2), (3, .int x3), (6, .int x6), (7, .int x7)]) rfl ?_
  refine sa_iload C dX4_shade_92 5 rfl ?_
  refine sa_istore C dX4_shade_94 (by decide) (lv2 := [(4, .int x6), (5, .int x7), (0, .ref (g 27)), (1, .int x1), (2, .int x2), (3, .int x3), (6, .int x6), (7, .int x7)]) rfl ?_
  refine sa_iinc C dX4_shade_96 6 rfl (v := (x6 + (1 : Int32))) (by rw [ic_1]) (by decide) (lv2 := [(6, .int (x6 + (1 : Int32))), (4, .int x6), (5, .int x7), (0, .ref (g 27)), (1, .int x1), (2, .int x2), (3, .int x3), (7, .int x7)]) rfl ?_
  refine sa_goto C dX4_shade_99 (tgt := 51) (by decide) ?_
  exact sa_sub [3, 4, 5, 6, 1, 2, 0] rfl (hk51 h)
theorem w4_shade_51 {D : va_G} {cA : ClassId} {g : Nat → Nat} {A : Nat → Prop} {z : sl_K} {l : Launch} {p : Program} {e : Env} {R : Room} {s : State} {m : MethodId} {args : Array Value} {below : List Frame} {meth : Method} {c : Code} (C : sl_C RX4 cX4_shade 8 (some .int) sl_cl LX D cA g A z p s m meth c) (hR : 6 ≤ R.frames ∧ 131 ≤ R.locals) {r : Int32 × sl_M} {x1 : Int32} {x2 : Int32} {x3 : Int32} : ∀ (n : Nat) {x4 : Int32} {x5 : Int32} {x6 : Int32} {M : sl_M}, f4_shade_51 x1 x2 x3 n x4 x5 x6 M = some r → sl_A sl_cl LX D cA g A p l e R s m args below meth c (MQ below (sl_Q sl_cl LX D cA g A (some (.int r.1)) r.2) args s 0 0 A) 8 51 [(0, .ref (g 27)), (1, .int x1), (2, .int x2), (3, .int x3), (4, .int x4), (5, .int x5), (6, .int x6)] [] M := by
  intro n
  induction n with
  | zero =>
    intro x4 x5 x6 M h
    exact absurd h.symm (Option.some_ne_none _)
  | succ n ih =>
    intro x4 x5 x6 M h
    rw [f4_shade_51] at h
    refine sa_iload C dX4_shade_51 6 rfl ?_
    refine sa_bipush C dX4_shade_53 bp_24 ?_
    refine sa_icmp_ge C dX4_shade_55 (tgt := 102) (by decide) (fun c1 => ?_) (fun c1 => ?_)
    · replace h := sl_t c1 h
      refine sa_iload C dX4_shade_102 4 rfl ?_
      exact sa_iret C dX4_shade_104 (sl_p1 h) (sl_p2 h)
    · replace h := sl_n c1 h
      refine sa_aload_n C dX4_shade_58 rfl 0 rfl ?_
      refine sa_iload C dX4_shade_59 6 rfl ?_
      refine sa_iload_n C dX4_shade_61 rfl 2 rfl ?_
      refine sa_iload_n C dX4_shade_62 rfl 3 rfl ?_
      obtain ⟨r2, er2, h⟩ := sl_b h
      refine sa_invVv C yy_X4_tryThing ⟨q_499, q_23⟩ q_497 dX4_shade_63 (As := [.int x6, .int x2, .int x3]) (rest := []) rfl ⟨Nat.le_trans (Nat.le_of_ble_eq_true rfl) hR.1, Nat.le_trans (Nat.le_of_ble_eq_true rfl) hR.2⟩ (Nat.le_of_ble_eq_true rfl) hh_X4 lx_27 (cc4_tryThing er2) rfl ?_
      refine sa_aload_n C dX4_shade_66 rfl 0 rfl ?_
      refine sa_getR C hh_X4 (k := 1) dX4_shade_67 q_236 (by decide) lx_27 rfl ?_
      refine sa_iload_n C dX4_shade_70 rfl 1 rfl ?_
      obtain ⟨r3, er3, h⟩ := sl_b h
      refine sa_invVNi C yy_X0_taxOf ⟨q_428, q_17⟩ q_426 dX4_shade_71 (As := [.int x1]) (rest := []) rfl ⟨Nat.le_trans (Nat.le_of_ble_eq_true rfl) hR.1, Nat.le_trans (Nat.le_of_ble_eq_true rfl) hR.2⟩ (Nat.le_of_ble_eq_true rfl) hh_X0 lx_9 (cc0_taxOf sl_j1 er3) rfl ?_
      refine sa_istore C dX4_shade_74 (by decide) (lv2 := [(7, .int r3), (0, .ref (g 27)), (1, .int x1), (2, .int x2), (3, .int x3), (4, .int x4), (5, .int x5), (6, .int x6)]) rfl ?_
      refine sa_iload C dX4_shade_76 5 rfl ?_
      refine sa_if_lt C dX4_shade_78 (tgt := 88) (by decide) (fun c4 => ?_) (fun c4 => ?_)
      · replace h := sl_t c4 h
        exact sa_sub [1, 2, 3, 4, 7, 0] rfl (w4_shade_88 C hR (fun h => ih h) h)
      · replace h := sl_n c4 h
        refine sa_iload C dX4_shade_81 0 rfl ?_
        refine sa_iload C dX4_shade_83 6 rfl ?_
        refine sa_icmp_ge C dX4_shade_85 (tgt := 96) (by decide) (fun c5 => ?_) (fun c5 => ?_)
        · replace h := sl_t c5 h
          refine sa_iinc C dX4_shade_96 7 rfl (v := (x6 + (1 : Int32))) (by rw [ic_1]) (by decide) (lv2 := [(6, .int (x6 + (1 : Int32))), (7, .int r3), (0, .ref (g 27)), (1, .int x1), (2, .int x2), (3, .int x3), (4, .int x4), (5, .int x5)]) rfl ?_
          refine sa_goto C dX4_shade_99 (tgt := 51) (by decide) ?_
          exact sa_sub [2, 3, 4, 5, 6, 7, 0] rfl (ih h)
        · replace h := sl_n c5 h
          exact sa_sub [1, 2, 3, 4, 7, 0] rfl (w4_shade_88 C hR (fun h => ih h) h)
theorem cc4_shade {D : va_G} {cA : ClassId} {g : Nat → Nat} {A : Nat → Prop} {z : sl_K} {l : Launch} {x1 : Int32} {x2 : Int32} {x3 : Int32} {M : sl_M} {r : Int32 × sl_M} (h : f4_shade x1 x2 x3 M = some r) : sl_N sl_cl LX D cA g A z l yX4_shade cX4_shade 8 (some .int) 6 131 [.ref (g 27), .int x1, .int x2, .int x3] M (some (.int r.1)) r.2 := by
  refine sl_N.of (by decide) (Nat.le_of_ble_eq_true rfl) rfl ?_
  intro p e s m args below meth c C
  replace C : sl_C RX4 cX4_shade 8 (some .int) sl_cl LX D cA g A z p s m meth c := C
  have hR : 6 ≤ (({ frames := 6, cells := 0, slots := 0, locals := 131 } : Room)).frames ∧ 131 ≤ (({ frames := 6, cells := 0, slots := 0, locals := 131 } : Room)).locals := ⟨Nat.le_refl _, Nat.le_refl _⟩
  rw [f4_shade] at h
  refine sa_aload_n C dX4_shade_0 rfl 0 rfl ?_
  refine sa_iload_n C dX4_shade_1 rfl 1 rfl ?_
  refine sa_invVi C yy_X4_isHouse ⟨q_335, q_8⟩ q_333 dX4_shade_2 (As := [.int x1]) (rest := []) rfl ⟨Nat.le_trans (Nat.le_of_ble_eq_true rfl) hR.1, Nat.le_trans (Nat.le_of_ble_eq_true rfl) hR.2⟩ (Nat.le_of_ble_eq_true rfl) hh_X4 lx_27 (cc4_isHouse rfl) rfl ?_
  refine sa_if_eq C dX4_shade_5 (tgt := 22) (by decide) (fun c1 => ?_) (fun c1 => ?_)
  · replace h := sl_t c1 h
    refine sa_aload_n C dX4_shade_22 rfl 0 rfl ?_
    refine sa_iconst C dX4_shade_23 ic_0 ?_
    obtain ⟨r2, er2, h⟩ := sl_b h
    refine sa_invVi C yy_X4_tell ⟨q_272, q_0⟩ q_270 dX4_shade_24 (As := [.int (0 : Int32)]) (rest := []) rfl ⟨Nat.le_trans (Nat.le_of_ble_eq_true rfl) hR.1, Nat.le_trans (Nat.le_of_ble_eq_true rfl) hR.2⟩ (Nat.le_of_ble_eq_true rfl) hh_X4 lx_27 (cc4_tell er2) rfl ?_
    exact sa_iret C dX4_shade_27 (sl_p1 h) (sl_p2 h)
  · replace h := sl_n c1 h
    refine sa_iload_n C dX4_shade_8 rfl 2 rfl ?_
    refine sa_invSi C yy_X4_isKind q_298 q_297 dX4_shade_9 (As := [.int x2]) (rest := []) rfl ⟨Nat.le_trans (Nat.le_of_ble_eq_true rfl) hR.1, Nat.le_trans (Nat.le_of_ble_eq_true rfl) hR.2⟩ (Nat.le_of_ble_eq_true rfl) (cc4_isKind rfl) rfl ?_
    refine sa_if_eq C dX4_shade_12 (tgt := 22) (by decide) (fun c3 => ?_) (fun c3 => ?_)
    · replace h := sl_t c3 h
      refine sa_aload_n C dX4_shade_22 rfl 0 rfl ?_
      refine sa_iconst C dX4_shade_23 ic_0 ?_
      obtain ⟨r4, er4, h⟩ := sl_b h
      refine sa_invVi C yy_X4_tell ⟨q_272, q_0⟩ q_270 dX4_shade_24 (As := [.int (0 : Int32)]) (rest := []) rfl ⟨Nat.le_trans (Nat.le_of_ble_eq_true rfl) hR.1, Nat.le_trans (Nat.le_of_ble_eq_true rfl) hR.2⟩ (Nat.le_of_ble_eq_true rfl) hh_X4 lx_27 (cc4_tell er4) rfl ?_
      exact sa_iret C dX4_shade_27 (sl_p1 h) (sl_p2 h)
    · replace h := sl_n c3 h
      refine sa_iload_n C dX4_shade_15 rfl 3 rfl ?_
      refine sa_invSi C yy_X4_isSpan q_491 q_490 dX4_shade_16 (As := [.int x3]) (rest := []) rfl ⟨Nat.le_trans (Nat.le_of_ble_eq_true rfl) hR.1, Nat.le_trans (Nat.le_of_ble_eq_true rfl) hR.2⟩ (Nat.le_of_ble_eq_true rfl) (cc4_isSpan rfl) rfl ?_
      refine sa_if_ne C dX4_shade_19 (tgt := 28) (by decide) (fun c5 => ?_) (fun c5 => ?_)
      · replace h := sl_n c5 h
        refine sa_aload_n C dX4_shade_28 rfl 0 rfl ?_
        refine sa_iload_n C dX4_shade_29 rfl 3 rfl ?_
        refine sa_invVi C yy_X4_isTooLate ⟨q_495, q_22⟩ q_493 dX4_shade_30 (As := [.int x3]) (rest := []) rfl ⟨Nat.le_trans (Nat.le_of_ble_eq_true rfl) hR.1, Nat.le_trans (Nat.le_of_ble_eq_true rfl) hR.2⟩ (Nat.le_of_ble_eq_true rfl) hh_X4 lx_27 (cc4_isTooLate rfl) rfl ?_
        refine sa_if_eq C dX4_shade_33 (tgt := 42) (by decide) (fun c6 => ?_) (fun c6 => ?_)
        · replace h := sl_t c6 h
          refine sa_iconst C dX4_shade_42 ic_m1 ?_
          refine sa_istore C dX4_shade_43 (by decide) (lv2 := [(4, .int (-1 : Int32)), (0, .ref (g 27)), (1, .int x1), (2, .int x2), (3, .int x3)]) rfl ?_
          refine sa_iconst C dX4_shade_45 ic_0 ?_
          refine sa_istore C dX4_shade_46 (by decide) (lv2 := [(5, .int (0 : Int32)), (4, .int (-1 : Int32)), (0, .ref (g 27)), (1, .int x1), (2, .int x2), (3, .int x3)]) rfl ?_
          refine sa_iconst C dX4_shade_48 ic_0 ?_
          refine sa_istore C dX4_shade_49 (by decide) (lv2 := [(6, .int (0 : Int32)), (5, .int (0 : Int32)), (4, .int (-1 : Int32)), (0, .ref (g 27)), (1, .int x1), (2, .int x2), (3, .int x3)]) rfl ?_
          exact sa_sub [3, 4, 5, 6, 2, 1, 0] rfl (w4_shade_51 C hR 400 h)
        · replace h := sl_n c6 h
          refine sa_aload_n C dX4_shade_36 rfl 0 rfl ?_
          refine sa_iconst C dX4_shade_37 ic_4 ?_
          obtain ⟨r7, er7, h⟩ := sl_b h
          refine sa_invVi C yy_X4_tell ⟨q_272, q_0⟩ q_270 dX4_shade_38 (As := [.int (4 : Int32)]) (rest := []) rfl ⟨Nat.le_trans (Nat.le_of_ble_eq_true rfl) hR.1, Nat.le_trans (Nat.le_of_ble_eq_true rfl) hR.2⟩ (Nat.le_of_ble_eq_true rfl) hh_X4 lx_27 (cc4_tell er7) rfl ?_
          exact sa_iret C dX4_shade_41 (sl_p1 h) (sl_p2 h)
      · replace h := sl_t c5 h
        refine sa_aload_n C dX4_shade_22 rfl 0 rfl ?_
        refine sa_iconst C dX4_shade_23 ic_0 ?_
        obtain ⟨r8, er8, h⟩ := sl_b h
        refine sa_invVi C yy_X4_tell ⟨q_272, q_0⟩ q_270 dX4_shade_24 (As := [.int (0 : Int32)]) (rest := []) rfl ⟨Nat.le_trans (Nat.le_of_ble_eq_true rfl) hR.1, Nat.le_trans (Nat.le_of_ble_eq_true rfl) hR.2⟩ (Nat.le_of_ble_eq_true rfl) hh_X4 lx_27 (cc4_tell er8) rfl ?_
        exact sa_iret C dX4_shade_27 (sl_p1 h) (sl_p2 h)
/-! X4 tryYears -/
def f4_tryYears (x1 : Int32) (M : sl_M) : Option sl_M := (f0_takeAll 1 0 M).bind fun r1 => (f0_grow 1 x1 r1).bind fun r2 => some r2
theorem cc4_tryYears {D : va_G} {cA : ClassId} {g : Nat → Nat} {A : Nat → Prop} {z : sl_K} {l : Launch} {x1 : Int32} {M : sl_M} {r : sl_M} (h : f4_tryYears x1 M = some r) : sl_N sl_cl LX D cA g A z l yX4_tryYears cX4_tryYears 2 none 5 108 [.ref (g 27), .int x1] M none r := by
  refine sl_N.of (by decide) (Nat.le_of_ble_eq_true rfl) rfl ?_
  intro p e s m args below meth c C
  replace C : sl_C RX4 cX4_tryYears 2 none sl_cl LX D cA g A z p s m meth c := C
  have hR : 5 ≤ (({ frames := 5, cells := 0, slots := 0, locals := 108 } : Room)).frames ∧ 108 ≤ (({ frames := 5, cells := 0, slots := 0, locals := 108 } : Room)).locals := ⟨Nat.le_refl _, Nat.le_refl _⟩
  rw [f4_tryYears] at h
  refine sa_aload_n C dX4_tryYears_0 rfl 0 rfl ?_
  refine sa_getR C hh_X4 (k := 1) dX4_tryYears_1 q_236 (by decide) lx_27 rfl ?_
  refine sa_aload_n C dX4_tryYears_4 rfl 0 rfl ?_
  refine sa_getR C hh_X4 (k := 0) dX4_tryYears_5 q_235 (by decide) lx_27 rfl ?_
  obtain ⟨r1, er1, h⟩ := sl_b h
  refine sa_invVNv C yy_X0_takeAll ⟨q_457, q_21⟩ q_455 dX4_tryYears_8 (As := [.ref (g 0)]) (rest := []) rfl ⟨Nat.le_trans (Nat.le_of_ble_eq_true rfl) hR.1, Nat.le_trans (Nat.le_of_ble_eq_true rfl) hR.2⟩ (Nat.le_of_ble_eq_true rfl) hh_X0 lx_9 (cc0_takeAll sl_j1 sl_j0 er1) rfl ?_
  refine sa_aload_n C dX4_tryYears_11 rfl 0 rfl ?_
  refine sa_getR C hh_X4 (k := 1) dX4_tryYears_12 q_236 (by decide) lx_27 rfl ?_
  refine sa_iload_n C dX4_tryYears_15 rfl 1 rfl ?_
  obtain ⟨r2, er2, h⟩ := sl_b h
  refine sa_invVNv C yy_X0_grow ⟨q_503, q_24⟩ q_501 dX4_tryYears_16 (As := [.int x1]) (rest := []) rfl ⟨Nat.le_trans (Nat.le_of_ble_eq_true rfl) hR.1, Nat.le_trans (Nat.le_of_ble_eq_true rfl) hR.2⟩ (Nat.le_of_ble_eq_true rfl) hh_X0 lx_9 (cc0_grow sl_j1 er2) rfl ?_
  exact sa_vret C dX4_tryYears_19 (Option.some.inj h)
/-! X4 gains -/
def f4_gains_96 : Nat → Int32 → Int32 → sl_M → Option (Int32 × sl_M)
  | 0, _, _, _ => none
  | n + 1, x4, x5, M => (if (M 0 8) ≤ x5 then some (x4, M) else (f0_taxOf 1 x5 M).bind fun r2 => (sl_ld (M 36) 8 x5).bind fun v3 => (if v3 ≤ r2 then f4_gains_96 n x4 (x5 + (1 : Int32)) M else f4_gains_96 n (x4 ||| ((1 : Int32) <<< (x5 &&& 31))) (x5 + (1 : Int32)) M))
def f4_gains_49 (x1 : Int32) (x2 : Int32) (x3 : Int32) : Nat → Int32 → sl_M → Option (Int32 × sl_M)
  | 0, _, _ => none
  | n + 1, x4, M => (if (M 0 8) ≤ x4 then (f4_tryThing x1 x2 x3 M).bind fun r2 => f4_gains_96 400 (0 : Int32) (0 : Int32) r2 else (f0_taxOf 1 x4 M).bind fun r3 => (sl_st M 36 8 x4 r3).bind fun M4 => f4_gains_49 x1 x2 x3 n (x4 + (1 : Int32)) M4)
def f4_gains (x1 : Int32) (x2 : Int32) (x3 : Int32) (M : sl_M) : Option (Int32 × sl_M) := (if (f4_isCell x1) = 0 then (f4_tell (0 : Int32) M).bind fun r2 => some (r2.1, r2.2) else (if (f4_isKind x2) = 0 then (f4_tell (0 : Int32) M).bind fun r4 => some (r4.1, r4.2) else (if (f4_isSpan x3) = 0 then (f4_tell (0 : Int32) M).bind fun r9 => some (r9.1, r9.2) else (if (f4_isTooLate x3 M) = 0 then (f4_tryYears x3 M).bind fun r7 => f4_gains_49 x1 x2 x3 400 (0 : Int32) r7 else (f4_tell (4 : Int32) M).bind fun r8 => some (r8.1, r8.2)))))
theorem w4_gains_96 {D : va_G} {cA : ClassId} {g : Nat → Nat} {A : Nat → Prop} {z : sl_K} {l : Launch} {p : Program} {e : Env} {R : Room} {s : State} {m : MethodId} {args : Array Value} {below : List Frame} {meth : Method} {c : Code} (C : sl_C RX4 cX4_gains 6 (some .int) sl_cl LX D cA g A z p s m meth c) (hR : 6 ≤ R.frames ∧ 131 ≤ R.locals) {r : Int32 × sl_M} : ∀ (n : Nat) {x4 : Int32} {x5 : Int32} {M : sl_M}, f4_gains_96 n x4 x5 M = some r → sl_A sl_cl LX D cA g A p l e R s m args below meth c (MQ below (sl_Q sl_cl LX D cA g A (some (.int r.1)) r.2) args s 0 0 A) 6 96 [(0, .ref (g 27)), (4, .int x4), (5, .int x5)] [] M := by
  intro n
  induction n with
  | zero =>
    intro x4 x5 M h
    exact absurd h.symm (Option.some_ne_none _)
  | succ n ih =>
    intro x4 x5 M h
    rw [f4_gains_96] at h
    refine sa_iload C dX4_gains_96 2 rfl ?_
    refine sa_aload_n C dX4_gains_98 rfl 0 rfl ?_
    refine sa_getR C hh_X4 (k := 0) dX4_gains_99 q_235 (by decide) lx_27 rfl ?_
    refine sa_getIN C hh_X0 (k := 8) dX4_gains_102 q_138 (by decide) lx_0 rfl ?_
    refine sa_icmp_ge C dX4_gains_105 (tgt := 142) (by decide) (fun c1 => ?_) (fun c1 => ?_)
    · replace h := sl_t c1 h
      refine sa_iload C dX4_gains_142 1 rfl ?_
      exact sa_iret C dX4_gains_144 (sl_p1 h) (sl_p2 h)
    · replace h := sl_n c1 h
      refine sa_aload_n C dX4_gains_108 rfl 0 rfl ?_
      refine sa_getR C hh_X4 (k := 1) dX4_gains_109 q_236 (by decide) lx_27 rfl ?_
      refine sa_iload C dX4_gains_112 2 rfl ?_
      obtain ⟨r2, er2, h⟩ := sl_b h
      refine sa_invVNi C yy_X0_taxOf ⟨q_428, q_17⟩ q_426 dX4_gains_114 (As := [.int x5]) (rest := []) rfl ⟨Nat.le_trans (Nat.le_of_ble_eq_true rfl) hR.1, Nat.le_trans (Nat.le_of_ble_eq_true rfl) hR.2⟩ (Nat.le_of_ble_eq_true rfl) hh_X0 lx_9 (cc0_taxOf sl_j1 er2) rfl ?_
      refine sa_aload_n C dX4_gains_117 rfl 0 rfl ?_
      refine sa_getR C hh_X4 (k := 7) dX4_gains_118 q_242 (by decide) lx_27 rfl ?_
      refine sa_iload C dX4_gains_121 2 rfl ?_
      obtain ⟨v3, ev3, h⟩ := sl_b h
      refine sa_iald C dX4_gains_123 lx_36 ev3 ?_
      refine sa_icmp_ge C dX4_gains_124 (tgt := 136) (by decide) (fun c4 => ?_) (fun c4 => ?_)
      · replace h := sl_t c4 h
        refine sa_iinc C dX4_gains_136 2 rfl (v := (x5 + (1 : Int32))) (by rw [ic_1]) (by decide) (lv2 := [(5, .int (x5 + (1 : Int32))), (0, .ref (g 27)), (4, .int x4)]) rfl ?_
        refine sa_goto C dX4_gains_139 (tgt := 96) (by decide) ?_
        exact sa_sub [1, 2, 0] rfl (ih h)
      · replace h := sl_n c4 h
        refine sa_iload C dX4_gains_127 1 rfl ?_
        refine sa_iconst C dX4_gains_129 ic_1 ?_
        refine sa_iload C dX4_gains_130 2 rfl ?_
        refine sa_ishl C dX4_gains_132 ?_
        refine sa_ior C dX4_gains_133 ?_
        refine sa_istore C dX4_gains_134 (by decide) (lv2 := [(4, .int (x4 ||| ((1 : Int32) <<< (x5 &&& 31)))), (0, .ref (g 27)), (5, .int x5)]) rfl ?_
        refine sa_iinc C dX4_gains_136 2 rfl (v := (x5 + (1 : Int32))) (by rw [ic_1]) (by decide) (lv2 := [(5, .int (x5 + (1 : Int32))), (4, .int (x4 ||| ((1 : Int32) <<< (x5 &&& 31)))), (0, .ref (g 27))]) rfl ?_
        refine sa_goto C dX4_gains_139 (tgt := 96) (by decide) ?_
        exact sa_sub [2, 1, 0] rfl (ih h)
theorem w4_gains_49 {D : va_G} {cA : ClassId} {g : Nat → Nat} {A : Nat → Prop} {z : sl_K} {l : Launch} {p : Program} {e : Env} {R : Room} {s : State} {m : MethodId} {args : Array Value} {below : List Frame} {meth : Method} {c : Code} (C : sl_C RX4 cX4_gains 6 (some .int) sl_cl LX D cA g A z p s m meth c) (hR : 6 ≤ R.frames ∧ 131 ≤ R.locals) {r : Int32 × sl_M} {x1 : Int32} {x2 : Int32} {x3 : Int32} : ∀ (n : Nat) {x4 : Int32} {M : sl_M}, f4_gains_49 x1 x2 x3 n x4 M = some r → sl_A sl_cl LX D cA g A p l e R s m args below meth c (MQ below (sl_Q sl_cl LX D cA g A (some (.int r.1)) r.2) args s 0 0 A) 6 49 [(0, .ref (g 27)), (1, .int x1), (2, .int x2), (3, .int x3), (4, .int x4)] [] M := by
  intro n
  induction n with
  | zero =>
    intro x4 M h
    exact absurd h.symm (Option.some_ne_none _)
  | succ n ih =>
    intro x4 M h
    rw [f4_gains_49] at h
    refine sa_iload C dX4_gains_49 4 rfl ?_
    refine sa_aload_n C dX4_gains_51 rfl 0 rfl ?_
    refine sa_getR C hh_X4 (k := 0) dX4_gains_52 q_235 (by decide) lx_27 rfl ?_
    refine sa_getIN C hh_X0 (k := 8) dX4_gains_55 q_138 (by decide) lx_0 rfl ?_
    refine sa_icmp_ge C dX4_gains_58 (tgt := 83) (by decide) (fun c1 => ?_) (fun c1 => ?_)
    · replace h := sl_t c1 h
      refine sa_aload_n C dX4_gains_83 rfl 0 rfl ?_
      refine sa_iload_n C dX4_gains_84 rfl 1 rfl ?_
      refine sa_iload_n C dX4_gains_85 rfl 2 rfl ?_
      refine sa_iload_n C dX4_gains_86 rfl 3 rfl ?_
      obtain ⟨r2, er2, h⟩ := sl_b h
      refine sa_invVv C yy_X4_tryThing ⟨q_499, q_23⟩ q_497 dX4_gains_87 (As := [.int x1, .int x2, .int x3]) (rest := []) rfl ⟨Nat.le_trans (Nat.le_of_ble_eq_true rfl) hR.1, Nat.le_trans (Nat.le_of_ble_eq_true rfl) hR.2⟩ (Nat.le_of_ble_eq_true rfl) hh_X4 lx_27 (cc4_tryThing er2) rfl ?_
      refine sa_iconst C dX4_gains_90 ic_0 ?_
      refine sa_istore C dX4_gains_91 (by decide) (lv2 := [(4, .int (0 : Int32)), (0, .ref (g 27)), (1, .int x1), (2, .int x2), (3, .int x3)]) rfl ?_
      refine sa_iconst C dX4_gains_93 ic_0 ?_
      refine sa_istore C dX4_gains_94 (by decide) (lv2 := [(5, .int (0 : Int32)), (4, .int (0 : Int32)), (0, .ref (g 27)), (1, .int x1), (2, .int x2), (3, .int x3)]) rfl ?_
      exact sa_sub [2, 1, 0] rfl (w4_gains_96 C hR 400 h)
    · replace h := sl_n c1 h
      refine sa_aload_n C dX4_gains_61 rfl 0 rfl ?_
      refine sa_getR C hh_X4 (k := 7) dX4_gains_62 q_242 (by decide) lx_27 rfl ?_
      refine sa_iload C dX4_gains_65 4 rfl ?_
      refine sa_aload_n C dX4_gains_67 rfl 0 rfl ?_
      refine sa_getR C hh_X4 (k := 1) dX4_gains_68 q_236 (by decide) lx_27 rfl ?_
      refine sa_iload C dX4_gains_71 4 rfl ?_
      obtain ⟨r3, er3, h⟩ := sl_b h
      refine sa_invVNi C yy_X0_taxOf ⟨q_428, q_17⟩ q_426 dX4_gains_73 (As := [.int x4]) (rest := [.int x4, .ref (g 36)]) rfl ⟨Nat.le_trans (Nat.le_of_ble_eq_true rfl) hR.1, Nat.le_trans (Nat.le_of_ble_eq_true rfl) hR.2⟩ (Nat.le_of_ble_eq_true rfl) hh_X0 lx_9 (cc0_taxOf sl_j1 er3) rfl ?_
      obtain ⟨M4, eM4, h⟩ := sl_b h
      refine sa_iast C dX4_gains_76 lx_36 eM4 ?_
      refine sa_iinc C dX4_gains_77 4 rfl (v := (x4 + (1 : Int32))) (by rw [ic_1]) (by decide) (lv2 := [(4, .int (x4 + (1 : Int32))), (0, .ref (g 27)), (1, .int x1), (2, .int x2), (3, .int x3)]) rfl ?_
      refine sa_goto C dX4_gains_80 (tgt := 49) (by decide) ?_
      exact sa_sub [1, 2, 3, 4, 0] rfl (ih h)
theorem cc4_gains {D : va_G} {cA : ClassId} {g : Nat → Nat} {A : Nat → Prop} {z : sl_K} {l : Launch} {x1 : Int32} {x2 : Int32} {x3 : Int32} {M : sl_M} {r : Int32 × sl_M} (h : f4_gains x1 x2 x3 M = some r) : sl_N sl_cl LX D cA g A z l yX4_gains cX4_gains 6 (some .int) 6 131 [.ref (g 27), .int x1, .int x2, .int x3] M (some (.int r.1)) r.2 := by
  refine sl_N.of (by decide) (Nat.le_of_ble_eq_true rfl) rfl ?_
  intro p e s m args below meth c C
  replace C : sl_C RX4 cX4_gains 6 (some .int) sl_cl LX D cA g A z p s m meth c := C
  have hR : 6 ≤ (({ frames := 6, cells := 0, slots := 0, locals := 131 } : Room)).frames ∧ 131 ≤ (({ frames := 6, cells := 0, slots := 0, locals := 131 } : Room)).locals := ⟨Nat.le_refl _, Nat.le_refl _⟩
  rw [f4_gains] at h
  refine sa_iload_n C dX4_gains_0 rfl 1 rfl ?_
  refine sa_invSi C yy_X4_isCell q_265 q_264 dX4_gains_1 (As := [.int x1]) (rest := []) rfl ⟨Nat.le_trans (Nat.le_of_ble_eq_true rfl) hR.1, Nat.le_trans (Nat.le_of_ble_eq_true rfl) hR.2⟩ (Nat.le_of_ble_eq_true rfl) (cc4_isCell rfl) rfl ?_
  refine sa_if_eq C dX4_gains_4 (tgt := 21) (by decide) (fun c1 => ?_) (fun c1 => ?_)
  · replace h := sl_t c1 h
    refine sa_aload_n C dX4_gains_21 rfl 0 rfl ?_
    refine sa_iconst C dX4_gains_22 ic_0 ?_
    obtain ⟨r2, er2, h⟩ := sl_b h
    refine sa_invVi C yy_X4_tell ⟨q_272, q_0⟩ q_270 dX4_gains_23 (As := [.int (0 : Int32)]) (rest := []) rfl ⟨Nat.le_trans (Nat.le_of_ble_eq_true rfl) hR.1, Nat.le_trans (Nat.le_of_ble_eq_true rfl) hR.2⟩ (Nat.le_of_ble_eq_true rfl) hh_X4 lx_27 (cc4_tell er2) rfl ?_
    exact sa_iret C dX4_gains_26 (sl_p1 h) (sl_p2 h)
  · replace h := sl_n c1 h
    refine sa_iload_n C dX4_gains_7 rfl 2 rfl ?_
    refine sa_invSi C yy_X4_isKind q_298 q_297 dX4_gains_8 (As := [.int x2]) (rest := []) rfl ⟨Nat.le_trans (Nat.le_of_ble_eq_true rfl) hR.1, Nat.le_trans (Nat.le_of_ble_eq_true rfl) hR.2⟩ (Nat.le_of_ble_eq_true rfl) (cc4_isKind rfl) rfl ?_
    refine sa_if_eq C dX4_gains_11 (tgt := 21) (by decide) (fun c3 => ?_) (fun c3 => ?_)
    · replace h := sl_t c3 h
      refine sa_aload_n C dX4_gains_21 rfl 0 rfl ?_
      refine sa_iconst C dX4_gains_22 ic_0 ?_
      obtain ⟨r4, er4, h⟩ := sl_b h
      refine sa_invVi C yy_X4_tell ⟨q_272, q_0⟩ q_270 dX4_gains_23 (As := [.int (0 : Int32)]) (rest := []) rfl ⟨Nat.le_trans (Nat.le_of_ble_eq_true rfl) hR.1, Nat.le_trans (Nat.le_of_ble_eq_true rfl) hR.2⟩ (Nat.le_of_ble_eq_true rfl) hh_X4 lx_27 (cc4_tell er4) rfl ?_
      exact sa_iret C dX4_gains_26 (sl_p1 h) (sl_p2 h)
    · replace h := sl_n c3 h
      refine sa_iload_n C dX4_gains_14 rfl 3 rfl ?_
      refine sa_invSi C yy_X4_isSpan q_491 q_490 dX4_gains_15 (As := [.int x3]) (rest := []) rfl ⟨Nat.le_trans (Nat.le_of_ble_eq_true rfl) hR.1, Nat.le_trans (Nat.le_of_ble_eq_true rfl) hR.2⟩ (Nat.le_of_ble_eq_true rfl) (cc4_isSpan rfl) rfl ?_
      refine sa_if_ne C dX4_gains_18 (tgt := 27) (by decide) (fun c5 => ?_) (fun c5 => ?_)
      · replace h := sl_n c5 h
        refine sa_aload_n C dX4_gains_27 rfl 0 rfl ?_
        refine sa_iload_n C dX4_gains_28 rfl 3 rfl ?_
        refine sa_invVi C yy_X4_isTooLate ⟨q_495, q_22⟩ q_493 dX4_gains_29 (As := [.int x3]) (rest := []) rfl ⟨Nat.le_trans (Nat.le_of_ble_eq_true rfl) hR.1, Nat.le_trans (Nat.le_of_ble_eq_true rfl) hR.2⟩ (Nat.le_of_ble_eq_true rfl) hh_X4 lx_27 (cc4_isTooLate rfl) rfl ?_
        refine sa_if_eq C dX4_gains_32 (tgt := 41) (by decide) (fun c6 => ?_) (fun c6 => ?_)
        · replace h := sl_t c6 h
          refine sa_aload_n C dX4_gains_41 rfl 0 rfl ?_
          refine sa_iload_n C dX4_gains_42 rfl 3 rfl ?_
          obtain ⟨r7, er7, h⟩ := sl_b h
          refine sa_invVv C yy_X4_tryYears ⟨q_512, q_25⟩ q_510 dX4_gains_43 (As := [.int x3]) (rest := []) rfl ⟨Nat.le_trans (Nat.le_of_ble_eq_true rfl) hR.1, Nat.le_trans (Nat.le_of_ble_eq_true rfl) hR.2⟩ (Nat.le_of_ble_eq_true rfl) hh_X4 lx_27 (cc4_tryYears er7) rfl ?_
          refine sa_iconst C dX4_gains_46 ic_0 ?_
          refine sa_istore C dX4_gains_47 (by decide) (lv2 := [(4, .int (0 : Int32)), (0, .ref (g 27)), (1, .int x1), (2, .int x2), (3, .int x3)]) rfl ?_
          exact sa_sub [1, 2, 3, 4, 0] rfl (w4_gains_49 C hR 400 h)
        · replace h := sl_n c6 h
          refine sa_aload_n C dX4_gains_35 rfl 0 rfl ?_
          refine sa_iconst C dX4_gains_36 ic_4 ?_
          obtain ⟨r8, er8, h⟩ := sl_b h
          refine sa_invVi C yy_X4_tell ⟨q_272, q_0⟩ q_270 dX4_gains_37 (As := [.int (4 : Int32)]) (rest := []) rfl ⟨Nat.le_trans (Nat.le_of_ble_eq_true rfl) hR.1, Nat.le_trans (Nat.le_of_ble_eq_true rfl) hR.2⟩ (Nat.le_of_ble_eq_true rfl) hh_X4 lx_27 (cc4_tell er8) rfl ?_
          exact sa_iret C dX4_gains_40 (sl_p1 h) (sl_p2 h)
      · replace h := sl_t c5 h
        refine sa_aload_n C dX4_gains_21 rfl 0 rfl ?_
        refine sa_iconst C dX4_gains_22 ic_0 ?_
        obtain ⟨r9, er9, h⟩ := sl_b h
        refine sa_invVi C yy_X4_tell ⟨q_272, q_0⟩ q_270 dX4_gains_23 (As := [.int (0 : Int32)]) (rest := []) rfl ⟨Nat.le_trans (Nat.le_of_ble_eq_true rfl) hR.1, Nat.le_trans (Nat.le_of_ble_eq_true rfl) hR.2⟩ (Nat.le_of_ble_eq_true rfl) hh_X4 lx_27 (cc4_tell er9) rfl ?_
        exact sa_iret C dX4_gains_26 (sl_p1 h) (sl_p2 h)
/-! X4 plant -/
def f4_plant_54 (k20 : Int32 → Int32 → Int32 → sl_M → Option (Int32 × sl_M)) (x1 : Int32) (x4 : Int32) (x5 : Int32) (M : sl_M) : Option (Int32 × sl_M) := k20 x4 x5 (x4 + (1 : Int32)) M
def f4_plant_20 (x1 : Int32) : Nat → Int32 → Int32 → Int32 → sl_M → Option (Int32 × sl_M)
  | 0, _, _, _, _ => none
  | n + 1, x2, x3, x4, M => (if (24 : Int32) ≤ x4 then some (x2, M) else (f4_tryThing x4 x1 (0 : Int32) M).bind fun r2 => (f0_allTax 1 r2).bind fun r3 => (if x2 < 0 then f4_plant_54 (f4_plant_20 x1 n) x1 x4 r3 r2 else (if r3 ≤ x3 then f4_plant_20 x1 n x2 x3 (x4 + (1 : Int32)) r2 else f4_plant_54 (f4_plant_20 x1 n) x1 x4 r3 r2)))
def f4_plant (x1 : Int32) (M : sl_M) : Option (Int32 × sl_M) := (if (f4_isKind x1) = 0 then (f4_tell (0 : Int32) M).bind fun r2 => some (r2.1, r2.2) else f4_plant_20 x1 400 (-1 : Int32) (0 : Int32) (0 : Int32) M)
theorem w4_plant_54 {D : va_G} {cA : ClassId} {g : Nat → Nat} {A : Nat → Prop} {z : sl_K} {l : Launch} {p : Program} {e : Env} {R : Room} {s : State} {m : MethodId} {args : Array Value} {below : List Frame} {meth : Method} {c : Code} (C : sl_C RX4 cX4_plant 6 (some .int) sl_cl LX D cA g A z p s m meth c) (hR : 6 ≤ R.frames ∧ 141 ≤ R.locals) {M : sl_M} {r : Int32 × sl_M} {x1 : Int32} {x4 : Int32} {x5 : Int32} {k20 : Int32 → Int32 → Int32 → sl_M → Option (Int32 × sl_M)} (hk20 : ∀ {x2 : Int32} {x3 : Int32} {x4 : Int32} {M : sl_M}, k20 x2 x3 x4 M = some r → sl_A sl_cl LX D cA g A p l e R s m args below meth c (MQ below (sl_Q sl_cl LX D cA g A (some (.int r.1)) r.2) args s 0 0 A) 6 20 [(0, .ref (g 27)), (1, .int x1), (2, .int x2), (3, .int x3), (4, .int x4)] [] M) (h : f4_plant_54 k20 x1 x4 x5 M = some r) : sl_A sl_cl LX D cA g A p l e R s m args below meth c (MQ below (sl_Q sl_cl LX D cA g A (some (.int r.1)) r.2) args s 0 0 A) 6 54 [(0, .ref (g 27)), (1, .int x1), (4, .int x4), (5, .int x5)] [] M := by
  rw [f4_plant_54] at h
  refine sa_iload C dX4_plant_54 3 rfl ?_
  refine sa_istore_n C dX4_plant_56 rfl (by decide) (lv2 := [(3, .int x5), (0, .ref (g 27)), (1, .int x1), (4, .int x4), (5, .int x5)]) rfl ?_
  refine sa_iload C dX4_plant_57 3 rfl ?_
  refine sa_istore_n C dX4_plant_59 rfl (by decide) (lv2 := [(2, .int x4), (3, .int x5), (0, .ref (g 27)), (1, .int x1), (4, .int x4), (5, .int x5)]) rfl ?_
  refine sa_iinc C dX4_plant_60 4 rfl (v := (x4 + (1 : Int32))) (by rw [ic_1]) (by decide) (lv2 := [(4, .int (x4 + (1 : Int32))), (2, .int x4), (3, .int x5), (0, .ref (g 27)), (1, .int x1), (5, .int x5)]) rfl ?_
  refine sa_goto C dX4_plant_63 (tgt := 20) (by decide) ?_
  exact sa_sub [3, 4, 1, 2, 0] rfl (hk20 h)
theorem w4_plant_20 {D : va_G} {cA : ClassId} {g : Nat → Nat} {A : Nat → Prop} {z : sl_K} {l : Launch} {p : Program} {e : Env} {R : Room} {s : State} {m : MethodId} {args : Array Value} {below : List Frame} {meth : Method} {c : Code} (C : sl_C RX4 cX4_plant 6 (some .int) sl_cl LX D cA g A z p s m meth c) (hR : 6 ≤ R.frames ∧ 141 ≤ R.locals) {r : Int32 × sl_M} {x1 : Int32} : ∀ (n : Nat) {x2 : Int32} {x3 : Int32} {x4 : Int32} {M : sl_M}, f4_plant_20 x1 n x2 x3 x4 M = some r → sl_A sl_cl LX D cA g A p l e R s m args below meth c (MQ below (sl_Q sl_cl LX D cA g A (some (.int r.1)) r.2) args s 0 0 A) 6 20 [(0, .ref (g 27)), (1, .int x1), (2, .int x2), (3, .int x3), (4, .int x4)] [] M := by
  intro n
  induction n with
  | zero =>
    intro x2 x3 x4 M h
    exact absurd h.symm (Option.some_ne_none _)
  | succ n ih =>
    intro x2 x3 x4 M h
    rw [f4_plant_20] at h
    refine sa_iload C dX4_plant_20 4 rfl ?_
    refine sa_bipush C dX4_plant_22 bp_24 ?_
    refine sa_icmp_ge C dX4_plant_24 (tgt := 66) (by decide) (fun c1 => ?_) (fun c1 => ?_)
    · replace h := sl_t c1 h
      refine sa_iload_n C dX4_plant_66 rfl 2 rfl ?_
      exact sa_iret C dX4_plant_67 (sl_p1 h) (sl_p2 h)
    · replace h := sl_n c1 h
      refine sa_aload_n C dX4_plant_27 rfl 0 rfl ?_
      refine sa_iload C dX4_plant_28 4 rfl ?_
      refine sa_iload_n C dX4_plant_30 rfl 1 rfl ?_
      refine sa_iconst C dX4_plant_31 ic_0 ?_
      obtain ⟨r2, er2, h⟩ := sl_b h
      refine sa_invVv C yy_X4_tryThing ⟨q_499, q_23⟩ q_497 dX4_plant_32 (As := [.int x4, .int x1, .int (0 : Int32)]) (rest := []) rfl ⟨Nat.le_trans (Nat.le_of_ble_eq_true rfl) hR.1, Nat.le_trans (Nat.le_of_ble_eq_true rfl) hR.2⟩ (Nat.le_of_ble_eq_true rfl) hh_X4 lx_27 (cc4_tryThing er2) rfl ?_
      refine sa_aload_n C dX4_plant_35 rfl 0 rfl ?_
      refine sa_getR C hh_X4 (k := 1) dX4_plant_36 q_236 (by decide) lx_27 rfl ?_
      obtain ⟨r3, er3, h⟩ := sl_b h
      refine sa_invVNi C yy_X0_allTax ⟨q_444, q_19⟩ q_442 dX4_plant_39 (As := []) (rest := []) rfl ⟨Nat.le_trans (Nat.le_of_ble_eq_true rfl) hR.1, Nat.le_trans (Nat.le_of_ble_eq_true rfl) hR.2⟩ (Nat.le_of_ble_eq_true rfl) hh_X0 lx_9 (cc0_allTax sl_j1 er3) rfl ?_
      refine sa_istore C dX4_plant_42 (by decide) (lv2 := [(5, .int r3), (0, .ref (g 27)), (1, .int x1), (2, .int x2), (3, .int x3), (4, .int x4)]) rfl ?_
      refine sa_iload_n C dX4_plant_44 rfl 3 rfl ?_
      refine sa_if_lt C dX4_plant_45 (tgt := 54) (by decide) (fun c4 => ?_) (fun c4 => ?_)
      · replace h := sl_t c4 h
        exact sa_sub [1, 2, 5, 0] rfl (w4_plant_54 C hR (fun h => ih h) h)
      · replace h := sl_n c4 h
        refine sa_iload C dX4_plant_48 0 rfl ?_
        refine sa_iload_n C dX4_plant_50 rfl 4 rfl ?_
        refine sa_icmp_le C dX4_plant_51 (tgt := 60) (by decide) (fun c5 => ?_) (fun c5 => ?_)
        · replace h := sl_t c5 h
          refine sa_iinc C dX4_plant_60 5 rfl (v := (x4 + (1 : Int32))) (by rw [ic_1]) (by decide) (lv2 := [(4, .int (x4 + (1 : Int32))), (5, .int r3), (0, .ref (g 27)), (1, .int x1), (2, .int x2), (3, .int x3)]) rfl ?_
          refine sa_goto C dX4_plant_63 (tgt := 20) (by decide) ?_
          exact sa_sub [2, 3, 4, 5, 0] rfl (ih h)
        · replace h := sl_n c5 h
          exact sa_sub [1, 2, 5, 0] rfl (w4_plant_54 C hR (fun h => ih h) h)
theorem cc4_plant {D : va_G} {cA : ClassId} {g : Nat → Nat} {A : Nat → Prop} {z : sl_K} {l : Launch} {x1 : Int32} {M : sl_M} {r : Int32 × sl_M} (h : f4_plant x1 M = some r) : sl_N sl_cl LX D cA g A z l yX4_plant cX4_plant 6 (some .int) 6 141 [.ref (g 27), .int x1] M (some (.int r.1)) r.2 := by
  refine sl_N.of (by decide) (Nat.le_of_ble_eq_true rfl) rfl ?_
  intro p e s m args below meth c C
  replace C : sl_C RX4 cX4_plant 6 (some .int) sl_cl LX D cA g A z p s m meth c := C
  have hR : 6 ≤ (({ frames := 6, cells := 0, slots := 0, locals := 141 } : Room)).frames ∧ 141 ≤ (({ frames := 6, cells := 0, slots := 0, locals := 141 } : Room)).locals := ⟨Nat.le_refl _, Nat.le_refl _⟩
  rw [f4_plant] at h
  refine sa_iload_n C dX4_plant_0 rfl 1 rfl ?_
  refine sa_invSi C yy_X4_isKind q_298 q_297 dX4_plant_1 (As := [.int x1]) (rest := []) rfl ⟨Nat.le_trans (Nat.le_of_ble_eq_true rfl) hR.1, Nat.le_trans (Nat.le_of_ble_eq_true rfl) hR.2⟩ (Nat.le_of_ble_eq_true rfl) (cc4_isKind rfl) rfl ?_
  refine sa_if_ne C dX4_plant_4 (tgt := 13) (by decide) (fun c1 => ?_) (fun c1 => ?_)
  · replace h := sl_n c1 h
    refine sa_iconst C dX4_plant_13 ic_m1 ?_
    refine sa_istore_n C dX4_plant_14 rfl (by decide) (lv2 := [(2, .int (-1 : Int32)), (0, .ref (g 27)), (1, .int x1)]) rfl ?_
    refine sa_iconst C dX4_plant_15 ic_0 ?_
    refine sa_istore_n C dX4_plant_16 rfl (by decide) (lv2 := [(3, .int (0 : Int32)), (2, .int (-1 : Int32)), (0, .ref (g 27)), (1, .int x1)]) rfl ?_
    refine sa_iconst C dX4_plant_17 ic_0 ?_
    refine sa_istore C dX4_plant_18 (by decide) (lv2 := [(4, .int (0 : Int32)), (3, .int (0 : Int32)), (2, .int (-1 : Int32)), (0, .ref (g 27)), (1, .int x1)]) rfl ?_
    exact sa_sub [3, 4, 2, 1, 0] rfl (w4_plant_20 C hR 400 h)
  · replace h := sl_t c1 h
    refine sa_aload_n C dX4_plant_7 rfl 0 rfl ?_
    refine sa_iconst C dX4_plant_8 ic_0 ?_
    obtain ⟨r2, er2, h⟩ := sl_b h
    refine sa_invVi C yy_X4_tell ⟨q_272, q_0⟩ q_270 dX4_plant_9 (As := [.int (0 : Int32)]) (rest := []) rfl ⟨Nat.le_trans (Nat.le_of_ble_eq_true rfl) hR.1, Nat.le_trans (Nat.le_of_ble_eq_true rfl) hR.2⟩ (Nat.le_of_ble_eq_true rfl) hh_X4 lx_27 (cc4_tell er2) rfl ?_
    exact sa_iret C dX4_plant_12 (sl_p1 h) (sl_p2 h)
/-! X4 two -/
def f4_two_102 (k31 : Int32 → Int32 → Int32 → sl_M → Option (Int32 × sl_M)) (k54 : Int32 → Int32 → Int32 → sl_M → Option (Int32 × sl_M)) (x1 : Int32) (x2 : Int32) (x3 : Int32) (x4 : Int32) (x5 : Int32) (M : sl_M) : Option (Int32 × sl_M) := (f0_takeCell 1 0 x5 M).bind fun r1 => k54 x2 x3 (x5 + (1 : Int32)) r1
def f4_two_90 (k31 : Int32 → Int32 → Int32 → sl_M → Option (Int32 × sl_M)) (k54 : Int32 → Int32 → Int32 → sl_M → Option (Int32 × sl_M)) (x1 : Int32) (x4 : Int32) (x5 : Int32) (x6 : Int32) (M : sl_M) : Option (Int32 × sl_M) := f4_two_102 k31 k54 x1 (((100 : Int32) * x4) + x5) x6 x4 x5 M
def f4_two_54 (k31 : Int32 → Int32 → Int32 → sl_M → Option (Int32 × sl_M)) (x1 : Int32) (x4 : Int32) : Nat → Int32 → Int32 → Int32 → sl_M → Option (Int32 × sl_M)
  | 0, _, _, _, _ => none
  | n + 1, x2, x3, x5, M => (if (24 : Int32) ≤ x5 then (f0_takeCell 1 0 x4 M).bind fun r2 => k31 x2 x3 (x4 + (1 : Int32)) r2 else (f0_place 1 x5 x1 M).bind fun r3 => (f0_allTax 1 r3).bind fun r4 => (if x2 < 0 then f4_two_90 k31 (f4_two_54 k31 x1 x4 n) x1 x4 x5 r4 r3 else (if x3 ≤ r4 then f4_two_102 k31 (f4_two_54 k31 x1 x4 n) x1 x2 x3 x4 x5 r3 else f4_two_90 k31 (f4_two_54 k31 x1 x4 n) x1 x4 x5 r4 r3)))
def f4_two_31 (x1 : Int32) : Nat → Int32 → Int32 → Int32 → sl_M → Option (Int32 × sl_M)
  | 0, _, _, _, _ => none
  | n + 1, x2, x3, x4, M => (if (24 : Int32) ≤ x4 then some (x2, M) else (f0_place 1 x4 x1 M).bind fun r2 => f4_two_54 (f4_two_31 x1 n) x1 x4 400 x2 x3 (x4 + (1 : Int32)) r2)
def f4_two (x1 : Int32) (M : sl_M) : Option (Int32 × sl_M) := (if (f4_isKind x1) = 0 then (f4_tell (0 : Int32) M).bind fun r3 => some (r3.1, r3.2) else (f0_takeAll 1 0 M).bind fun r2 => f4_two_31 x1 400 (-1 : Int32) (0 : Int32) (0 : Int32) r2)
theorem w4_two_102 {D : va_G} {cA : ClassId} {g : Nat → Nat} {A : Nat → Prop} {z : sl_K} {l : Launch} {p : Program} {e : Env} {R : Room} {s : State} {m : MethodId} {args : Array Value} {below : List Frame} {meth : Method} {c : Code} (C : sl_C RX4 cX4_two 7 (some .int) sl_cl LX D cA g A z p s m meth c) (hR : 6 ≤ R.frames ∧ 141 ≤ R.locals) {M : sl_M} {r : Int32 × sl_M} {x1 : Int32} {x2 : Int32} {x3 : Int32} {x4 : Int32} {x5 : Int32} {k31 : Int32 → Int32 → Int32 → sl_M → Option (Int32 × sl_M)} {k54 : Int32 → Int32 → Int32 → sl_M → Option (Int32 × sl_M)} (hk31 : ∀ {x2 : Int32} {x3 : Int32} {x4 : Int32} {M : sl_M}, k31 x2 x3 x4 M = some r → sl_A sl_cl LX D cA g A p l e R s m args below meth c (MQ below (sl_Q sl_cl LX D cA g A (some (.int r.1)) r.2) args s 0 0 A) 7 31 [(0, .ref (g 27)), (1, .int x1), (2, .int x2), (3, .int x3), (4, .int x4)] [] M) (hk54 : ∀ {x2 : Int32} {x3 : Int32} {x5 : Int32} {M : sl_M}, k54 x2 x3 x5 M = some r → sl_A sl_cl LX D cA g A p l e R s m args below meth c (MQ below (sl_Q sl_cl LX D cA g A (some (.int r.1)) r.2) args s 0 0 A) 7 54 [(0, .ref (g 27)), (1, .int x1), (2, .int x2), (3, .int x3), (4, .int x4), (5, .int x5)] [] M) (h : f4_two_102 k31 k54 x1 x2 x3 x4 x5 M = some r) : sl_A sl_cl LX D cA g A p l e R s m args below meth c (MQ below (sl_Q sl_cl LX D cA g A (some (.int r.1)) r.2) args s 0 0 A) 7 102 [(0, .ref (g 27)), (1, .int x1), (2, .int x2), (3, .int x3), (4, .int x4), (5, .int x5)] [] M := by
  rw [f4_two_102] at h
  refine sa_aload_n C dX4_two_102 rfl 0 rfl ?_
  refine sa_getR C hh_X4 (k := 1) dX4_two_103 q_236 (by decide) lx_27 rfl ?_
  refine sa_aload_n C dX4_two_106 rfl 0 rfl ?_
  refine sa_getR C hh_X4 (k := 0) dX4_two_107 q_235 (by decide) lx_27 rfl ?_
  refine sa_iload C dX4_two_110 5 rfl ?_
  obtain ⟨r1, er1, h⟩ := sl_b h
  refine sa_invVNv C yy_X0_takeCell ⟨q_524, q_26⟩ q_522 dX4_two_112 (As := [.ref (g 0), .int x5]) (rest := []) rfl ⟨Nat.le_trans (Nat.le_of_ble_eq_true rfl) hR.1, Nat.le_trans (Nat.le_of_ble_eq_true rfl) hR.2⟩ (Nat.le_of_ble_eq_true rfl) hh_X0 lx_9 (cc0_takeCell sl_j1 sl_j0 er1) rfl ?_
  refine sa_iinc C dX4_two_115 5 rfl (v := (x5 + (1 : Int32))) (by rw [ic_1]) (by decide) (lv2 := [(5, .int (x5 + (1 : Int32))), (0, .ref (g 27)), (1, .int x1), (2, .int x2), (3, .int x3), (4, .int x4)]) rfl ?_
  refine sa_goto C dX4_two_118 (tgt := 54) (by decide) ?_
  exact sa_sub [1, 2, 3, 4, 5, 0] rfl (hk54 h)
theorem w4_two_90 {D : va_G} {cA : ClassId} {g : Nat → Nat} {A : Nat → Prop} {z : sl_K} {l : Launch} {p : Program} {e : Env} {R : Room} {s : State} {m : MethodId} {args : Array Value} {below : List Frame} {meth : Method} {c : Code} (C : sl_C RX4 cX4_two 7 (some .int) sl_cl LX D cA g A z p s m meth c) (hR : 6 ≤ R.frames ∧ 141 ≤ R.locals) {M : sl_M} {r : Int32 × sl_M} {x1 : Int32} {x4 : Int32} {x5 : Int32} {x6 : Int32} {k31 : Int32 → Int32 → Int32 → sl_M → Option (Int32 × sl_M)} {k54 : Int32 → Int32 → Int32 → sl_M → Option (Int32 × sl_M)} (hk31 : ∀ {x2 : Int32} {x3 : Int32} {x4 : Int32} {M : sl_M}, k31 x2 x3 x4 M = some r → sl_A sl_cl LX D cA g A p l e R s m args below meth c (MQ below (sl_Q sl_cl LX D cA g A (some (.int r.1)) r.2) args s 0 0 A) 7 31 [(0, .ref (g 27)), (1, .int x1), (2, .int x2), (3, .int x3), (4, .int x4)] [] M) (hk54 : ∀ {x2 : Int32} {x3 : Int32} {x5 : Int32} {M : sl_M}, k54 x2 x3 x5 M = some r → sl_A sl_cl LX D cA g A p l e R s m args below meth c (MQ below (sl_Q sl_cl LX D cA g A (some (.int r.1)) r.2) args s 0 0 A) 7 54 [(0, .ref (g 27)), (1, .int x1), (2, .int x2), (3, .int x3), (4, .int x4), (5, .int x5)] [] M) (h : f4_two_90 k31 k54 x1 x4 x5 x6 M = some r) : sl_A sl_cl LX D cA g A p l e R s m args below meth c (MQ below (sl_Q sl_cl LX D cA g A (some (.int r.1)) r.2) args s 0 0 A) 7 90 [(0, .ref (g 27)), (1, .int x1), (4, .int x4), (5, .int x5), (6, .int x6)] [] M := by
  rw [f4_two_90] at h
  refine sa_iload C dX4_two_90 4 rfl ?_
  refine sa_istore_n C dX4_two_92 rfl (by decide) (lv2 := [(3, .int x6), (0, .ref (g 27)), (1, .int x1), (4, .int x4), (5, .int x5), (6, .int x6)]) rfl ?_
  refine sa_bipush C dX4_two_93 bp_100 ?_
  refine sa_iload C dX4_two_95 3 rfl ?_
  refine sa_imul C dX4_two_97 ?_
  refine sa_iload C dX4_two_98 4 rfl ?_
  refine sa_iadd C dX4_two_100 ?_
  refine sa_istore_n C dX4_two_101 rfl (by decide) (lv2 := [(2, .int (((100 : Int32) * x4) + x5)), (3, .int x6), (0, .ref (g 27)), (1, .int x1), (4, .int x4), (5, .int x5), (6, .int x6)]) rfl ?_
  exact sa_sub [2, 3, 0, 1, 4, 5] rfl (w4_two_102 C hR (fun h => hk31 h) (fun h => hk54 h) h)
theorem w4_two_54 {D : va_G} {cA : ClassId} {g : Nat → Nat} {A : Nat → Prop} {z : sl_K} {l : Launch} {p : Program} {e : Env} {R : Room} {s : State} {m : MethodId} {args : Array Value} {below : List Frame} {meth : Method} {c : Code} (C : sl_C RX4 cX4_two 7 (some .int) sl_cl LX D cA g A z p s m meth c) (hR : 6 ≤ R.frames ∧ 141 ≤ R.locals) {r : Int32 × sl_M} {x1 : Int32} {x4 : Int32} {k31 : Int32 → Int32 → Int32 → sl_M → Option (Int32 × sl_M)} (hk31 : ∀ {x2 : Int32} {x3 : Int32} {x4 : Int32} {M : sl_M}, k31 x2 x3 x4 M = some r → sl_A sl_cl LX D cA g A p l e R s m args below meth c (MQ below (sl_Q sl_cl LX D cA g A (some (.int r.1)) r.2) args s 0 0 A) 7 31 [(0, .ref (g 27)), (1, .int x1), (2, .int x2), (3, .int x3), (4, .int x4)] [] M) : ∀ (n : Nat) {x2 : Int32} {x3 : Int32} {x5 : Int32} {M : sl_M}, f4_two_54 k31 x1 x4 n x2 x3 x5 M = some r → sl_A sl_cl LX D cA g A p l e R s m args below meth c (MQ below (sl_Q sl_cl LX D cA g A (some (.int r.1)) r.2) args s 0 0 A) 7 54 [(0, .ref (g 27)), (1, .int x1), (2, .int x2), (3, .int x3), (4, .int x4), (5, .int x5)] [] M := by
  intro n
  induction n with
  | zero =>
    intro x2 x3 x5 M h
    exact absurd h.symm (Option.some_ne_none _)
  | succ n ih =>
    intro x2 x3 x5 M h
    rw [f4_two_54] at h
    refine sa_iload C dX4_two_54 5 rfl ?_
    refine sa_bipush C dX4_two_56 bp_24 ?_
    refine sa_icmp_ge C dX4_two_58 (tgt := 121) (by decide) (fun c1 => ?_) (fun c1 => ?_)
    · replace h := sl_t c1 h
      refine sa_aload_n C dX4_two_121 rfl 0 rfl ?_
      refine sa_getR C hh_X4 (k := 1) dX4_two_122 q_236 (by decide) lx_27 rfl ?_
      refine sa_aload_n C dX4_two_125 rfl 0 rfl ?_
      refine sa_getR C hh_X4 (k := 0) dX4_two_126 q_235 (by decide) lx_27 rfl ?_
      refine sa_iload C dX4_two_129 4 rfl ?_
      obtain ⟨r2, er2, h⟩ := sl_b h
      refine sa_invVNv C yy_X0_takeCell ⟨q_524, q_26⟩ q_522 dX4_two_131 (As := [.ref (g 0), .int x4]) (rest := []) rfl ⟨Nat.le_trans (Nat.le_of_ble_eq_true rfl) hR.1, Nat.le_trans (Nat.le_of_ble_eq_true rfl) hR.2⟩ (Nat.le_of_ble_eq_true rfl) hh_X0 lx_9 (cc0_takeCell sl_j1 sl_j0 er2) rfl ?_
      refine sa_iinc C dX4_two_134 4 rfl (v := (x4 + (1 : Int32))) (by rw [ic_1]) (by decide) (lv2 := [(4, .int (x4 + (1 : Int32))), (0, .ref (g 27)), (1, .int x1), (2, .int x2), (3, .int x3), (5, .int x5)]) rfl ?_
      refine sa_goto C dX4_two_137 (tgt := 31) (by decide) ?_
      exact sa_sub [1, 2, 3, 4, 0] rfl (hk31 h)
    · replace h := sl_n c1 h
      refine sa_aload_n C dX4_two_61 rfl 0 rfl ?_
      refine sa_getR C hh_X4 (k := 1) dX4_two_62 q_236 (by decide) lx_27 rfl ?_
      refine sa_iload C dX4_two_65 5 rfl ?_
      refine sa_iload_n C dX4_two_67 rfl 1 rfl ?_
      obtain ⟨r3, er3, h⟩ := sl_b h
      refine sa_invVNv C yy_X0_place ⟨q_302, q_4⟩ q_300 dX4_two_68 (As := [.int x5, .int x1]) (rest := []) rfl ⟨Nat.le_trans (Nat.le_of_ble_eq_true rfl) hR.1, Nat.le_trans (Nat.le_of_ble_eq_true rfl) hR.2⟩ (Nat.le_of_ble_eq_true rfl) hh_X0 lx_9 (cc0_place sl_j1 er3) rfl ?_
      refine sa_aload_n C dX4_two_71 rfl 0 rfl ?_
      refine sa_getR C hh_X4 (k := 1) dX4_two_72 q_236 (by decide) lx_27 rfl ?_
      obtain ⟨r4, er4, h⟩ := sl_b h
      refine sa_invVNi C yy_X0_allTax ⟨q_444, q_19⟩ q_442 dX4_two_75 (As := []) (rest := []) rfl ⟨Nat.le_trans (Nat.le_of_ble_eq_true rfl) hR.1, Nat.le_trans (Nat.le_of_ble_eq_true rfl) hR.2⟩ (Nat.le_of_ble_eq_true rfl) hh_X0 lx_9 (cc0_allTax sl_j1 er4) rfl ?_
      refine sa_istore C dX4_two_78 (by decide) (lv2 := [(6, .int r4), (0, .ref (g 27)), (1, .int x1), (2, .int x2), (3, .int x3), (4, .int x4), (5, .int x5)]) rfl ?_
      refine sa_iload_n C dX4_two_80 rfl 3 rfl ?_
      refine sa_if_lt C dX4_two_81 (tgt := 90) (by decide) (fun c5 => ?_) (fun c5 => ?_)
      · replace h := sl_t c5 h
        exact sa_sub [1, 2, 5, 6, 0] rfl (w4_two_90 C hR (fun h => hk31 h) (fun h => ih h) h)
      · replace h := sl_n c5 h
        refine sa_iload C dX4_two_84 0 rfl ?_
        refine sa_iload_n C dX4_two_86 rfl 4 rfl ?_
        refine sa_icmp_ge C dX4_two_87 (tgt := 102) (by decide) (fun c6 => ?_) (fun c6 => ?_)
        · replace h := sl_t c6 h
          exact sa_sub [1, 2, 3, 4, 5, 6] rfl (w4_two_102 C hR (fun h => hk31 h) (fun h => ih h) h)
        · replace h := sl_n c6 h
          exact sa_sub [1, 2, 5, 6, 0] rfl (w4_two_90 C hR (fun h => hk31 h) (fun h => ih h) h)
theorem w4_two_31 {D : va_G} {cA : ClassId} {g : Nat → Nat} {A : Nat → Prop} {z : sl_K} {l : Launch} {p : Program} {e : Env} {R : Room} {s : State} {m : MethodId} {args : Array Value} {below : List Frame} {meth : Method} {c : Code} (C : sl_C RX4 cX4_two 7 (some .int) sl_cl LX D cA g A z p s m meth c) (hR : 6 ≤ R.frames ∧ 141 ≤ R.locals) {r : Int32 × sl_M} {x1 : Int32} : ∀ (n : Nat) {x2 : Int32} {x3 : Int32} {x4 : Int32} {M : sl_M}, f4_two_31 x1 n x2 x3 x4 M = some r → sl_A sl_cl LX D cA g A p l e R s m args below meth c (MQ below (sl_Q sl_cl LX D cA g A (some (.int r.1)) r.2) args s 0 0 A) 7 31 [(0, .ref (g 27)), (1, .int x1), (2, .int x2), (3, .int x3), (4, .int x4)] [] M := by
  intro n
  induction n with
  | zero =>
    intro x2 x3 x4 M h
    exact absurd h.symm (Option.some_ne_none _)
  | succ n ih =>
    intro x2 x3 x4 M h
    rw [f4_two_31] at h
    refine sa_iload C dX4_two_31 4 rfl ?_
    refine sa_bipush C dX4_two_33 bp_24 ?_
    refine sa_icmp_ge C dX4_two_35 (tgt := 140) (by decide) (fun c1 => ?_) (fun c1 => ?_)
    · replace h := sl_t c1 h
      refine sa_iload_n C dX4_two_140 rfl 2 rfl ?_
      exact sa_iret C dX4_two_141 (sl_p1 h) (sl_p2 h)
    · replace h := sl_n c1 h
      refine sa_aload_n C dX4_two_38 rfl 0 rfl ?_
      refine sa_getR C hh_X4 (k := 1) dX4_two_39 q_236 (by decide) lx_27 rfl ?_
      refine sa_iload C dX4_two_42 4 rfl ?_
      refine sa_iload_n C dX4_two_44 rfl 1 rfl ?_
      obtain ⟨r2, er2, h⟩ := sl_b h
      refine sa_invVNv C yy_X0_place ⟨q_302, q_4⟩ q_300 dX4_two_45 (As := [.int x4, .int x1]) (rest := []) rfl ⟨Nat.le_trans (Nat.le_of_ble_eq_true rfl) hR.1, Nat.le_trans (Nat.le_of_ble_eq_true rfl) hR.2⟩ (Nat.le_of_ble_eq_true rfl) hh_X0 lx_9 (cc0_place sl_j1 er2) rfl ?_
      refine sa_iload C dX4_two_48 4 rfl ?_
      refine sa_iconst C dX4_two_50 ic_1 ?_
      refine sa_iadd C dX4_two_51 ?_
      refine sa_istore C dX4_two_52 (by decide) (lv2 := [(5, .int (x4 + (1 : Int32))), (0, .ref (g 27)), (1, .int x1), (2, .int x2), (3, .int x3), (4, .int x4)]) rfl ?_
      exact sa_sub [1, 2, 3, 4, 5, 0] rfl (w4_two_54 C hR (fun h => ih h) 400 h)
theorem cc4_two {D : va_G} {cA : ClassId} {g : Nat → Nat} {A : Nat → Prop} {z : sl_K} {l : Launch} {x1 : Int32} {M : sl_M} {r : Int32 × sl_M} (h : f4_two x1 M = some r) : sl_N sl_cl LX D cA g A z l yX4_two cX4_two 7 (some .int) 6 141 [.ref (g 27), .int x1] M (some (.int r.1)) r.2 := by
  refine sl_N.of (by decide) (Nat.le_of_ble_eq_true rfl) rfl ?_
  intro p e s m args below meth c C
  replace C : sl_C RX4 cX4_two 7 (some .int) sl_cl LX D cA g A z p s m meth c := C
  have hR : 6 ≤ (({ frames := 6, cells := 0, slots := 0, locals := 141 } : Room)).frames ∧ 141 ≤ (({ frames := 6, cells := 0, slots := 0, locals := 141 } : Room)).locals := ⟨Nat.le_refl _, Nat.le_refl _⟩
  rw [f4_two] at h
  refine sa_iload_n C dX4_two_0 rfl 1 rfl ?_
  refine sa_invSi C yy_X4_isKind q_298 q_297 dX4_two_1 (As := [.int x1]) (rest := []) rfl ⟨Nat.le_trans (Nat.le_of_ble_eq_true rfl) hR.1, Nat.le_trans (Nat.le_of_ble_eq_true rfl) hR.2⟩ (Nat.le_of_ble_eq_true rfl) (cc4_isKind rfl) rfl ?_
  refine sa_if_ne C dX4_two_4 (tgt := 13) (by decide) (fun c1 => ?_) (fun c1 => ?_)
  · replace h := sl_n c1 h
    refine sa_iconst C dX4_two_13 ic_m1 ?_
    refine sa_istore_n C dX4_two_14 rfl (by decide) (lv2 := [(2, .int (-1 : Int32)), (0, .ref (g 27)), (1, .int x1)]) rfl ?_
    refine sa_iconst C dX4_two_15 ic_0 ?_
    refine sa_istore_n C dX4_two_16 rfl (by decide) (lv2 := [(3, .int (0 : Int32)), (2, .int (-1 : Int32)), (0, .ref (g 27)), (1, .int x1)]) rfl ?_
    refine sa_aload_n C dX4_two_17 rfl 2 rfl ?_
    refine sa_getR C hh_X4 (k := 1) dX4_two_18 q_236 (by decide) lx_27 rfl ?_
    refine sa_aload_n C dX4_two_21 rfl 2 rfl ?_
    refine sa_getR C hh_X4 (k := 0) dX4_two_22 q_235 (by decide) lx_27 rfl ?_
    obtain ⟨r2, er2, h⟩ := sl_b h
    refine sa_invVNv C yy_X0_takeAll ⟨q_457, q_21⟩ q_455 dX4_two_25 (As := [.ref (g 0)]) (rest := []) rfl ⟨Nat.le_trans (Nat.le_of_ble_eq_true rfl) hR.1, Nat.le_trans (Nat.le_of_ble_eq_true rfl) hR.2⟩ (Nat.le_of_ble_eq_true rfl) hh_X0 lx_9 (cc0_takeAll sl_j1 sl_j0 er2) rfl ?_
    refine sa_iconst C dX4_two_28 ic_0 ?_
    refine sa_istore C dX4_two_29 (by decide) (lv2 := [(4, .int (0 : Int32)), (3, .int (0 : Int32)), (2, .int (-1 : Int32)), (0, .ref (g 27)), (1, .int x1)]) rfl ?_
    exact sa_sub [3, 4, 2, 1, 0] rfl (w4_two_31 C hR 400 h)
  · replace h := sl_t c1 h
    refine sa_aload_n C dX4_two_7 rfl 0 rfl ?_
    refine sa_iconst C dX4_two_8 ic_0 ?_
    obtain ⟨r3, er3, h⟩ := sl_b h
    refine sa_invVi C yy_X4_tell ⟨q_272, q_0⟩ q_270 dX4_two_9 (As := [.int (0 : Int32)]) (rest := []) rfl ⟨Nat.le_trans (Nat.le_of_ble_eq_true rfl) hR.1, Nat.le_trans (Nat.le_of_ble_eq_true rfl) hR.2⟩ (Nat.le_of_ble_eq_true rfl) hh_X4 lx_27 (cc4_tell er3) rfl ?_
    exact sa_iret C dX4_two_12 (sl_p1 h) (sl_p2 h)
/-! X4 restless -/
def f4_restless_4 : Nat → Int32 → Int32 → sl_M → Option (Int32 × sl_M)
  | 0, _, _, _ => none
  | n + 1, x1, x2, M => (if (M 0 8) ≤ x2 then some (x1, M) else (f4_thriftyFloor x2 M).bind fun r2 => (sl_st r2.2 15 8 x2 r2.1).bind fun M3 => (f0_taxOf 1 x2 M3).bind fun r4 => (f0_taxOf 0 x2 M3).bind fun r5 => (if r5 ≤ r4 then f4_restless_4 n x1 (x2 + (1 : Int32)) M3 else f4_restless_4 n (x1 + (1 : Int32)) (x2 + (1 : Int32)) M3))
def f4_restless (M : sl_M) : Option (Int32 × sl_M) := f4_restless_4 400 (0 : Int32) (0 : Int32) M
theorem w4_restless_4 {D : va_G} {cA : ClassId} {g : Nat → Nat} {A : Nat → Prop} {z : sl_K} {l : Launch} {p : Program} {e : Env} {R : Room} {s : State} {m : MethodId} {args : Array Value} {below : List Frame} {meth : Method} {c : Code} (C : sl_C RX4 cX4_restless 4 (some .int) sl_cl LX D cA g A z p s m meth c) (hR : 6 ≤ R.frames ∧ 144 ≤ R.locals) {r : Int32 × sl_M} : ∀ (n : Nat) {x1 : Int32} {x2 : Int32} {M : sl_M}, f4_restless_4 n x1 x2 M = some r → sl_A sl_cl LX D cA g A p l e R s m args below meth c (MQ below (sl_Q sl_cl LX D cA g A (some (.int r.1)) r.2) args s 0 0 A) 4 4 [(0, .ref (g 27)), (1, .int x1), (2, .int x2)] [] M := by
  intro n
  induction n with
  | zero =>
    intro x1 x2 M h
    exact absurd h.symm (Option.some_ne_none _)
  | succ n ih =>
    intro x1 x2 M h
    rw [f4_restless_4] at h
    refine sa_iload_n C dX4_restless_4 rfl 2 rfl ?_
    refine sa_aload_n C dX4_restless_5 rfl 0 rfl ?_
    refine sa_getR C hh_X4 (k := 0) dX4_restless_6 q_235 (by decide) lx_27 rfl ?_
    refine sa_getIN C hh_X0 (k := 8) dX4_restless_9 q_138 (by decide) lx_0 rfl ?_
    refine sa_icmp_ge C dX4_restless_12 (tgt := 59) (by decide) (fun c1 => ?_) (fun c1 => ?_)
    · replace h := sl_t c1 h
      refine sa_iload_n C dX4_restless_59 rfl 1 rfl ?_
      exact sa_iret C dX4_restless_60 (sl_p1 h) (sl_p2 h)
    · replace h := sl_n c1 h
      refine sa_aload_n C dX4_restless_15 rfl 0 rfl ?_
      refine sa_iload_n C dX4_restless_16 rfl 2 rfl ?_
      obtain ⟨r2, er2, h⟩ := sl_b h
      refine sa_invVi C yy_X4_thriftyFloor ⟨q_453, q_20⟩ q_451 dX4_restless_17 (As := [.int x2]) (rest := []) rfl ⟨Nat.le_trans (Nat.le_of_ble_eq_true rfl) hR.1, Nat.le_trans (Nat.le_of_ble_eq_true rfl) hR.2⟩ (Nat.le_of_ble_eq_true rfl) hh_X4 lx_27 (cc4_thriftyFloor er2) rfl ?_
      refine sa_istore_n C dX4_restless_20 rfl (by decide) (lv2 := [(3, .int r2.1), (0, .ref (g 27)), (1, .int x1), (2, .int x2)]) rfl ?_
      refine sa_aload_n C dX4_restless_21 rfl 1 rfl ?_
      refine sa_getR C hh_X4 (k := 1) dX4_restless_22 q_236 (by decide) lx_27 rfl ?_
      refine sa_getRN C hh_X0 (k := 5) dX4_restless_25 q_132 (by decide) lx_9 rfl ?_
      refine sa_iload_n C dX4_restless_28 rfl 3 rfl ?_
      refine sa_iload_n C dX4_restless_29 rfl 0 rfl ?_
      obtain ⟨M3, eM3, h⟩ := sl_b h
      refine sa_iast C dX4_restless_30 lx_15 eM3 ?_
      refine sa_aload_n C dX4_restless_31 rfl 1 rfl ?_
      refine sa_getR C hh_X4 (k := 1) dX4_restless_32 q_236 (by decide) lx_27 rfl ?_
      refine sa_iload_n C dX4_restless_35 rfl 3 rfl ?_
      obtain ⟨r4, er4, h⟩ := sl_b h
      refine sa_invVNi C yy_X0_taxOf ⟨q_428, q_17⟩ q_426 dX4_restless_36 (As := [.int x2]) (rest := []) rfl ⟨Nat.le_trans (Nat.le_of_ble_eq_true rfl) hR.1, Nat.le_trans (Nat.le_of_ble_eq_true rfl) hR.2⟩ (Nat.le_of_ble_eq_true rfl) hh_X0 lx_9 (cc0_taxOf sl_j1 er4) rfl ?_
      refine sa_aload_n C dX4_restless_39 rfl 1 rfl ?_
      refine sa_getR C hh_X4 (k := 0) dX4_restless_40 q_235 (by decide) lx_27 rfl ?_
      refine sa_iload_n C dX4_restless_43 rfl 3 rfl ?_
      obtain ⟨r5, er5, h⟩ := sl_b h
      refine sa_invVNi C yy_X0_taxOf ⟨q_428, q_17⟩ q_426 dX4_restless_44 (As := [.int x2]) (rest := [.int r4]) rfl ⟨Nat.le_trans (Nat.le_of_ble_eq_true rfl) hR.1, Nat.le_trans (Nat.le_of_ble_eq_true rfl) hR.2⟩ (Nat.le_of_ble_eq_true rfl) hh_X0 lx_0 (cc0_taxOf sl_j0 er5) rfl ?_
      refine sa_icmp_ge C dX4_restless_47 (tgt := 53) (by decide) (fun c6 => ?_) (fun c6 => ?_)
      · replace h := sl_t c6 h
        refine sa_iinc C dX4_restless_53 3 rfl (v := (x2 + (1 : Int32))) (by rw [ic_1]) (by decide) (lv2 := [(2, .int (x2 + (1 : Int32))), (3, .int r2.1), (0, .ref (g 27)), (1, .int x1)]) rfl ?_
        refine sa_goto C dX4_restless_56 (tgt := 4) (by decide) ?_
        exact sa_sub [2, 3, 0] rfl (ih h)
      · replace h := sl_n c6 h
        refine sa_iinc C dX4_restless_50 2 rfl (v := (x1 + (1 : Int32))) (by rw [ic_1]) (by decide) (lv2 := [(1, .int (x1 + (1 : Int32))), (3, .int r2.1), (0, .ref (g 27)), (2, .int x2)]) rfl ?_
        refine sa_iinc C dX4_restless_53 3 rfl (v := (x2 + (1 : Int32))) (by rw [ic_1]) (by decide) (lv2 := [(2, .int (x2 + (1 : Int32))), (1, .int (x1 + (1 : Int32))), (3, .int r2.1), (0, .ref (g 27))]) rfl ?_
        refine sa_goto C dX4_restless_56 (tgt := 4) (by decide) ?_
        exact sa_sub [3, 1, 0] rfl (ih h)
theorem cc4_restless {D : va_G} {cA : ClassId} {g : Nat → Nat} {A : Nat → Prop} {z : sl_K} {l : Launch} {M : sl_M} {r : Int32 × sl_M} (h : f4_restless M = some r) : sl_N sl_cl LX D cA g A z l yX4_restless cX4_restless 4 (some .int) 6 144 [.ref (g 27)] M (some (.int r.1)) r.2 := by
  refine sl_N.of (by decide) (Nat.le_of_ble_eq_true rfl) rfl ?_
  intro p e s m args below meth c C
  replace C : sl_C RX4 cX4_restless 4 (some .int) sl_cl LX D cA g A z p s m meth c := C
  have hR : 6 ≤ (({ frames := 6, cells := 0, slots := 0, locals := 144 } : Room)).frames ∧ 144 ≤ (({ frames := 6, cells := 0, slots := 0, locals := 144 } : Room)).locals := ⟨Nat.le_refl _, Nat.le_refl _⟩
  rw [f4_restless] at h
  refine sa_iconst C dX4_restless_0 ic_0 ?_
  refine sa_istore_n C dX4_restless_1 rfl (by decide) (lv2 := [(1, .int (0 : Int32)), (0, .ref (g 27))]) rfl ?_
  refine sa_iconst C dX4_restless_2 ic_0 ?_
  refine sa_istore_n C dX4_restless_3 rfl (by decide) (lv2 := [(2, .int (0 : Int32)), (1, .int (0 : Int32)), (0, .ref (g 27))]) rfl ?_
  exact sa_sub [2, 1, 0] rfl (w4_restless_4 C hR 400 h)
/-! X4 sightsOf -/
def f4_sightsOf_4 (M : sl_M) (x1 : Int32) : Nat → Int32 → Int32 → Option Int32
  | 0, _, _ => none
  | n + 1, x2, x3 => (if (M 0 8) ≤ x3 then some x2 else (if (f0_isIn x3 x1) = 0 then f4_sightsOf_4 M x1 n x2 (x3 + (1 : Int32)) else (sl_ld (M 36) 8 x3).bind fun v3 => f4_sightsOf_4 M x1 n (x2 ||| v3) (x3 + (1 : Int32))))
def f4_sightsOf (x1 : Int32) (M : sl_M) : Option Int32 := f4_sightsOf_4 M x1 400 (0 : Int32) (0 : Int32)
theorem w4_sightsOf_4 {D : va_G} {cA : ClassId} {g : Nat → Nat} {A : Nat → Prop} {z : sl_K} {l : Launch} {p : Program} {e : Env} {R : Room} {s : State} {m : MethodId} {args : Array Value} {below : List Frame} {meth : Method} {c : Code} (C : sl_C RX4 cX4_sightsOf 4 (some .int) sl_cl LX D cA g A z p s m meth c) (hR : 1 ≤ R.frames ∧ 21 ≤ R.locals) {M : sl_M} {r : Int32} {x1 : Int32} : ∀ (n : Nat) {x2 : Int32} {x3 : Int32}, f4_sightsOf_4 M x1 n x2 x3 = some r → sl_A sl_cl LX D cA g A p l e R s m args below meth c (MQ below (sl_Q sl_cl LX D cA g A (some (.int r)) M) args s 0 0 A) 4 4 [(0, .ref (g 27)), (1, .int x1), (2, .int x2), (3, .int x3)] [] M := by
  intro n
  induction n with
  | zero =>
    intro x2 x3 h
    exact absurd h.symm (Option.some_ne_none _)
  | succ n ih =>
    intro x2 x3 h
    rw [f4_sightsOf_4] at h
    refine sa_iload_n C dX4_sightsOf_4 rfl 3 rfl ?_
    refine sa_aload_n C dX4_sightsOf_5 rfl 0 rfl ?_
    refine sa_getR C hh_X4 (k := 0) dX4_sightsOf_6 q_235 (by decide) lx_27 rfl ?_
    refine sa_getIN C hh_X0 (k := 8) dX4_sightsOf_9 q_138 (by decide) lx_0 rfl ?_
    refine sa_icmp_ge C dX4_sightsOf_12 (tgt := 38) (by decide) (fun c1 => ?_) (fun c1 => ?_)
    · replace h := sl_t c1 h
      refine sa_iload_n C dX4_sightsOf_38 rfl 2 rfl ?_
      exact sa_iret C dX4_sightsOf_39 (Option.some.inj h) rfl
    · replace h := sl_n c1 h
      refine sa_iload_n C dX4_sightsOf_15 rfl 3 rfl ?_
      refine sa_iload_n C dX4_sightsOf_16 rfl 1 rfl ?_
      refine sa_invSNi C yy_X0_isIn q_396 q_406 dX4_sightsOf_17 (As := [.int x3, .int x1]) (rest := []) rfl ⟨Nat.le_trans (Nat.le_of_ble_eq_true rfl) hR.1, Nat.le_trans (Nat.le_of_ble_eq_true rfl) hR.2⟩ (Nat.le_of_ble_eq_true rfl) (cc0_isIn rfl) rfl ?_
      refine sa_if_eq C dX4_sightsOf_20 (tgt := 32) (by decide) (fun c2 => ?_) (fun c2 => ?_)
      · replace h := sl_t c2 h
        refine sa_iinc C dX4_sightsOf_32 3 rfl (v := (x3 + (1 : Int32))) (by rw [ic_1]) (by decide) (lv2 := [(3, .int (x3 + (1 : Int32))), (0, .ref (g 27)), (1, .int x1), (2, .int x2)]) rfl ?_
        refine sa_goto C dX4_sightsOf_35 (tgt := 4) (by decide) ?_
        exact sa_sub [1, 2, 3, 0] rfl (ih h)
      · replace h := sl_n c2 h
        refine sa_iload_n C dX4_sightsOf_23 rfl 2 rfl ?_
        refine sa_aload_n C dX4_sightsOf_24 rfl 0 rfl ?_
        refine sa_getR C hh_X4 (k := 7) dX4_sightsOf_25 q_242 (by decide) lx_27 rfl ?_
        refine sa_iload_n C dX4_sightsOf_28 rfl 3 rfl ?_
        obtain ⟨v3, ev3, h⟩ := sl_b h
        refine sa_iald C dX4_sightsOf_29 lx_36 ev3 ?_
        refine sa_ior C dX4_sightsOf_30 ?_
        refine sa_istore_n C dX4_sightsOf_31 rfl (by decide) (lv2 := [(2, .int (x2 ||| v3)), (0, .ref (g 27)), (1, .int x1), (3, .int x3)]) rfl ?_
        refine sa_iinc C dX4_sightsOf_32 3 rfl (v := (x3 + (1 : Int32))) (by rw [ic_1]) (by decide) (lv2 := [(3, .int (x3 + (1 : Int32))), (2, .int (x2 ||| v3)), (0, .ref (g 27)), (1, .int x1)]) rfl ?_
        refine sa_goto C dX4_sightsOf_35 (tgt := 4) (by decide) ?_
        exact sa_sub [2, 3, 1, 0] rfl (ih h)
theorem cc4_sightsOf {D : va_G} {cA : ClassId} {g : Nat → Nat} {A : Nat → Prop} {z : sl_K} {l : Launch} {x1 : Int32} {M : sl_M} {r : Int32} (h : f4_sightsOf x1 M = some r) : sl_N sl_cl LX D cA g A z l yX4_sightsOf cX4_sightsOf 4 (some .int) 1 21 [.ref (g 27), .int x1] M (some (.int r)) M := by
  refine sl_N.of (by decide) (Nat.le_of_ble_eq_true rfl) rfl ?_
  intro p e s m args below meth c C
  replace C : sl_C RX4 cX4_sightsOf 4 (some .int) sl_cl LX D cA g A z p s m meth c := C
  have hR : 1 ≤ (({ frames := 1, cells := 0, slots := 0, locals := 21 } : Room)).frames ∧ 21 ≤ (({ frames := 1, cells := 0, slots := 0, locals := 21 } : Room)).locals := ⟨Nat.le_refl _, Nat.le_refl _⟩
  rw [f4_sightsOf] at h
  refine sa_iconst C dX4_sightsOf_0 ic_0 ?_
  refine sa_istore_n C dX4_sightsOf_1 rfl (by decide) (lv2 := [(2, .int (0 : Int32)), (0, .ref (g 27)), (1, .int x1)]) rfl ?_
  refine sa_iconst C dX4_sightsOf_2 ic_0 ?_
  refine sa_istore_n C dX4_sightsOf_3 rfl (by decide) (lv2 := [(3, .int (0 : Int32)), (2, .int (0 : Int32)), (0, .ref (g 27)), (1, .int x1)]) rfl ?_
  exact sa_sub [2, 3, 1, 0] rfl (w4_sightsOf_4 C hR 400 h)
/-! X4 walk -/
def f4_walk_64 (x1 : Int32) : Nat → Int32 → Int32 → Int32 → sl_M → Option (Int32 × sl_M)
  | 0, _, _, _, _ => none
  | n + 1, x2, x3, x4, M => (if ((1 : Int32) <<< ((M 0 8) &&& 31)) ≤ x4 then some (x2, M) else (if x3 ≤ (fJ6_bitCount_0f7a4 x4) then f4_walk_64 x1 n x2 x3 (x4 + (1 : Int32)) M else (f4_sightsOf x4 M).bind fun r3 => (if r3 = x1 then f4_walk_64 x1 n x4 (fJ6_bitCount_0f7a4 x4) (x4 + (1 : Int32)) M else f4_walk_64 x1 n x2 x3 (x4 + (1 : Int32)) M)))
def f4_walk_2 : Nat → Int32 → sl_M → Option (Int32 × sl_M)
  | 0, _, _ => none
  | n + 1, x1, M => (if (M 0 8) ≤ x1 then (f4_sightsOf (((1 : Int32) <<< ((M 0 8) &&& 31)) - (1 : Int32)) M).bind fun r2 => f4_walk_64 r2 400 (0 : Int32) ((M 0 8) + (1 : Int32)) (0 : Int32) M else (f0_sightOf 0 x1 M).bind fun r3 => (sl_st M 36 8 x1 r3).bind fun M4 => f4_walk_2 n (x1 + (1 : Int32)) M4)
def f4_walk (M : sl_M) : Option (Int32 × sl_M) := f4_walk_2 400 (0 : Int32) M
theorem w4_walk_64 {D : va_G} {cA : ClassId} {g : Nat → Nat} {A : Nat → Prop} {z : sl_K} {l : Launch} {p : Program} {e : Env} {R : Room} {s : State} {m : MethodId} {args : Array Value} {below : List Frame} {meth : Method} {c : Code} (C : sl_C RX4 cX4_walk 6 (some .int) sl_cl LX D cA g A z p s m meth c) (hR : 3 ≤ R.frames ∧ 74 ≤ R.locals) {r : Int32 × sl_M} {x1 : Int32} : ∀ (n : Nat) {x2 : Int32} {x3 : Int32} {x4 : Int32} {M : sl_M}, f4_walk_64 x1 n x2 x3 x4 M = some r → sl_A sl_cl LX D cA g A p l e R s m args below meth c (MQ below (sl_Q sl_cl LX D cA g A (some (.int r.1)) r.2) args s 0 0 A) 6 64 [(0, .ref (g 27)), (1, .int x1), (2, .int x2), (3, .int x3), (4, .int x4)] [] M := by
  intro n
  induction n with
  | zero =>
    intro x2 x3 x4 M h
    exact absurd h.symm (Option.some_ne_none _)
  | succ n ih =>
    intro x2 x3 x4 M h
    rw [f4_walk_64] at h
    refine sa_iload C dX4_walk_64 4 rfl ?_
    refine sa_iconst C dX4_walk_66 ic_1 ?_
    refine sa_aload_n C dX4_walk_67 rfl 0 rfl ?_
    refine sa_getR C hh_X4 (k := 0) dX4_walk_68 q_235 (by decide) lx_27 rfl ?_
    refine sa_getIN C hh_X0 (k := 8) dX4_walk_71 q_138 (by decide) lx_0 rfl ?_
    refine sa_ishl C dX4_walk_74 ?_
    refine sa_icmp_ge C dX4_walk_75 (tgt := 113) (by decide) (fun c1 => ?_) (fun c1 => ?_)
    · replace h := sl_t c1 h
      refine sa_iload_n C dX4_walk_113 rfl 2 rfl ?_
      exact sa_iret C dX4_walk_114 (sl_p1 h) (sl_p2 h)
    · replace h := sl_n c1 h
      refine sa_iload C dX4_walk_78 4 rfl ?_
      refine sa_invSi C yy_J6_bitCount_0f7a4 q_467 q_466 dX4_walk_80 (As := [.int x4]) (rest := []) rfl ⟨Nat.le_trans (Nat.le_of_ble_eq_true rfl) hR.1, Nat.le_trans (Nat.le_of_ble_eq_true rfl) hR.2⟩ (Nat.le_of_ble_eq_true rfl) (ccJ6_bitCount_0f7a4 rfl) rfl ?_
      refine sa_istore C dX4_walk_83 (by decide) (lv2 := [(5, .int (fJ6_bitCount_0f7a4 x4)), (0, .ref (g 27)), (1, .int x1), (2, .int x2), (3, .int x3), (4, .int x4)]) rfl ?_
      refine sa_iload C dX4_walk_85 0 rfl ?_
      refine sa_iload_n C dX4_walk_87 rfl 4 rfl ?_
      refine sa_icmp_ge C dX4_walk_88 (tgt := 107) (by decide) (fun c2 => ?_) (fun c2 => ?_)
      · replace h := sl_t c2 h
        refine sa_iinc C dX4_walk_107 5 rfl (v := (x4 + (1 : Int32))) (by rw [ic_1]) (by decide) (lv2 := [(4, .int (x4 + (1 : Int32))), (5, .int (fJ6_bitCount_0f7a4 x4)), (0, .ref (g 27)), (1, .int x1), (2, .int x2), (3, .int x3)]) rfl ?_
        refine sa_goto C dX4_walk_110 (tgt := 64) (by decide) ?_
        exact sa_sub [2, 3, 4, 5, 0] rfl (ih h)
      · replace h := sl_n c2 h
        refine sa_aload_n C dX4_walk_91 rfl 1 rfl ?_
        refine sa_iload C dX4_walk_92 5 rfl ?_
        obtain ⟨r3, er3, h⟩ := sl_b h
        refine sa_invVi C yy_X4_sightsOf ⟨q_536, q_27⟩ q_534 dX4_walk_94 (As := [.int x4]) (rest := []) rfl ⟨Nat.le_trans (Nat.le_of_ble_eq_true rfl) hR.1, Nat.le_trans (Nat.le_of_ble_eq_true rfl) hR.2⟩ (Nat.le_of_ble_eq_true rfl) hh_X4 lx_27 (cc4_sightsOf er3) rfl ?_
        refine sa_iload_n C dX4_walk_97 rfl 2 rfl ?_
        refine sa_icmp_ne C dX4_walk_98 (tgt := 107) (by decide) (fun c4 => ?_) (fun c4 => ?_)
        · replace h := sl_n c4 h
          refine sa_iinc C dX4_walk_107 5 rfl (v := (x4 + (1 : Int32))) (by rw [ic_1]) (by decide) (lv2 := [(4, .int (x4 + (1 : Int32))), (5, .int (fJ6_bitCount_0f7a4 x4)), (0, .ref (g 27)), (1, .int x1), (2, .int x2), (3, .int x3)]) rfl ?_
          refine sa_goto C dX4_walk_110 (tgt := 64) (by decide) ?_
          exact sa_sub [2, 3, 4, 5, 0] rfl (ih h)
        · replace h := sl_t c4 h
          refine sa_iload C dX4_walk_101 0 rfl ?_
          refine sa_istore_n C dX4_walk_103 rfl (by decide) (lv2 := [(3, .int (fJ6_bitCount_0f7a4 x4)), (5, .int (fJ6_bitCount_0f7a4 x4)), (0, .ref (g 27)), (1, .int x1), (2, .int x2), (4, .int x4)]) rfl ?_
          refine sa_iload C dX4_walk_104 5 rfl ?_
          refine sa_istore_n C dX4_walk_106 rfl (by decide) (lv2 := [(2, .int x4), (3, .int (fJ6_bitCount_0f7a4 x4)), (5, .int (fJ6_bitCount_0f7a4 x4)), (0, .ref (g 27)), (1, .int x1), (4, .int x4)]) rfl ?_
          refine sa_iinc C dX4_walk_107 5 rfl (v := (x4 + (1 : Int32))) (by rw [ic_1]) (by decide) (lv2 := [(4, .int (x4 + (1 : Int32))), (2, .int x4), (3, .int (fJ6_bitCount_0f7a4 x4)), (5, .int (fJ6_bitCount_0f7a4 x4)), (0, .ref (g 27)), (1, .int x1)]) rfl ?_
          refine sa_goto C dX4_walk_110 (tgt := 64) (by decide) ?_
          exact sa_sub [4, 5, 1, 2, 0] rfl (ih h)
theorem w4_walk_2 {D : va_G} {cA : ClassId} {g : Nat → Nat} {A : Nat → Prop} {z : sl_K} {l : Launch} {p : Program} {e : Env} {R : Room} {s : State} {m : MethodId} {args : Array Value} {below : List Frame} {meth : Method} {c : Code} (C : sl_C RX4 cX4_walk 6 (some .int) sl_cl LX D cA g A z p s m meth c) (hR : 3 ≤ R.frames ∧ 74 ≤ R.locals) {r : Int32 × sl_M} : ∀ (n : Nat) {x1 : Int32} {M : sl_M}, f4_walk_2 n x1 M = some r → sl_A sl_cl LX D cA g A p l e R s m args below meth c (MQ below (sl_Q sl_cl LX D cA g A (some (.int r.1)) r.2) args s 0 0 A) 6 2 [(0, .ref (g 27)), (1, .int x1)] [] M := by
  intro n
  induction n with
  | zero =>
    intro x1 M h
    exact absurd h.symm (Option.some_ne_none _)
  | succ n ih =>
    intro x1 M h
    rw [f4_walk_2] at h
    refine sa_iload_n C dX4_walk_2 rfl 1 rfl ?_
    refine sa_aload_n C dX4_walk_3 rfl 0 rfl ?_
    refine sa_getR C hh_X4 (k := 0) dX4_walk_4 q_235 (by decide) lx_27 rfl ?_
    refine sa_getIN C hh_X0 (k := 8) dX4_walk_7 q_138 (by decide) lx_0 rfl ?_
    refine sa_icmp_ge C dX4_walk_10 (tgt := 33) (by decide) (fun c1 => ?_) (fun c1 => ?_)
    · replace h := sl_t c1 h
      refine sa_aload_n C dX4_walk_33 rfl 0 rfl ?_
      refine sa_iconst C dX4_walk_34 ic_1 ?_
      refine sa_aload_n C dX4_walk_35 rfl 0 rfl ?_
      refine sa_getR C hh_X4 (k := 0) dX4_walk_36 q_235 (by decide) lx_27 rfl ?_
      refine sa_getIN C hh_X0 (k := 8) dX4_walk_39 q_138 (by decide) lx_0 rfl ?_
      refine sa_ishl C dX4_walk_42 ?_
      refine sa_iconst C dX4_walk_43 ic_1 ?_
      refine sa_isub C dX4_walk_44 ?_
      obtain ⟨r2, er2, h⟩ := sl_b h
      refine sa_invVi C yy_X4_sightsOf ⟨q_536, q_27⟩ q_534 dX4_walk_45 (As := [.int (((1 : Int32) <<< ((M 0 8) &&& 31)) - (1 : Int32))]) (rest := []) rfl ⟨Nat.le_trans (Nat.le_of_ble_eq_true rfl) hR.1, Nat.le_trans (Nat.le_of_ble_eq_true rfl) hR.2⟩ (Nat.le_of_ble_eq_true rfl) hh_X4 lx_27 (cc4_sightsOf er2) rfl ?_
      refine sa_istore_n C dX4_walk_48 rfl (by decide) (lv2 := [(1, .int r2), (0, .ref (g 27))]) rfl ?_
      refine sa_iconst C dX4_walk_49 ic_0 ?_
      refine sa_istore_n C dX4_walk_50 rfl (by decide) (lv2 := [(2, .int (0 : Int32)), (1, .int r2), (0, .ref (g 27))]) rfl ?_
      refine sa_aload_n C dX4_walk_51 rfl 2 rfl ?_
      refine sa_getR C hh_X4 (k := 0) dX4_walk_52 q_235 (by decide) lx_27 rfl ?_
      refine sa_getIN C hh_X0 (k := 8) dX4_walk_55 q_138 (by decide) lx_0 rfl ?_
      refine sa_iconst C dX4_walk_58 ic_1 ?_
      refine sa_iadd C dX4_walk_59 ?_
      refine sa_istore_n C dX4_walk_60 rfl (by decide) (lv2 := [(3, .int ((M 0 8) + (1 : Int32))), (2, .int (0 : Int32)), (1, .int r2), (0, .ref (g 27))]) rfl ?_
      refine sa_iconst C dX4_walk_61 ic_0 ?_
      refine sa_istore C dX4_walk_62 (by decide) (lv2 := [(4, .int (0 : Int32)), (3, .int ((M 0 8) + (1 : Int32))), (2, .int (0 : Int32)), (1, .int r2), (0, .ref (g 27))]) rfl ?_
      exact sa_sub [4, 3, 2, 1, 0] rfl (w4_walk_64 C hR 400 h)
    · replace h := sl_n c1 h
      refine sa_aload_n C dX4_walk_13 rfl 0 rfl ?_
      refine sa_getR C hh_X4 (k := 7) dX4_walk_14 q_242 (by decide) lx_27 rfl ?_
      refine sa_iload_n C dX4_walk_17 rfl 1 rfl ?_
      refine sa_aload_n C dX4_walk_18 rfl 0 rfl ?_
      refine sa_getR C hh_X4 (k := 0) dX4_walk_19 q_235 (by decide) lx_27 rfl ?_
      refine sa_iload_n C dX4_walk_22 rfl 1 rfl ?_
      obtain ⟨r3, er3, h⟩ := sl_b h
      refine sa_invVNi C yy_X0_sightOf ⟨q_379, q_12⟩ q_377 dX4_walk_23 (As := [.int x1]) (rest := [.int x1, .ref (g 36)]) rfl ⟨Nat.le_trans (Nat.le_of_ble_eq_true rfl) hR.1, Nat.le_trans (Nat.le_of_ble_eq_true rfl) hR.2⟩ (Nat.le_of_ble_eq_true rfl) hh_X0 lx_0 (cc0_sightOf sl_j0 er3) rfl ?_
      obtain ⟨M4, eM4, h⟩ := sl_b h
      refine sa_iast C dX4_walk_26 lx_36 eM4 ?_
      refine sa_iinc C dX4_walk_27 1 rfl (v := (x1 + (1 : Int32))) (by rw [ic_1]) (by decide) (lv2 := [(1, .int (x1 + (1 : Int32))), (0, .ref (g 27))]) rfl ?_
      refine sa_goto C dX4_walk_30 (tgt := 2) (by decide) ?_
      exact sa_sub [1, 0] rfl (ih h)
theorem cc4_walk {D : va_G} {cA : ClassId} {g : Nat → Nat} {A : Nat → Prop} {z : sl_K} {l : Launch} {M : sl_M} {r : Int32 × sl_M} (h : f4_walk M = some r) : sl_N sl_cl LX D cA g A z l yX4_walk cX4_walk 6 (some .int) 3 74 [.ref (g 27)] M (some (.int r.1)) r.2 := by
  refine sl_N.of (by decide) (Nat.le_of_ble_eq_true rfl) rfl ?_
  intro p e s m args below meth c C
  replace C : sl_C RX4 cX4_walk 6 (some .int) sl_cl LX D cA g A z p s m meth c := C
  have hR : 3 ≤ (({ frames := 3, cells := 0, slots := 0, locals := 74 } : Room)).frames ∧ 74 ≤ (({ frames := 3, cells := 0, slots := 0, locals := 74 } : Room)).locals := ⟨Nat.le_refl _, Nat.le_refl _⟩
  rw [f4_walk] at h
  refine sa_iconst C dX4_walk_0 ic_0 ?_
  refine sa_istore_n C dX4_walk_1 rfl (by decide) (lv2 := [(1, .int (0 : Int32)), (0, .ref (g 27))]) rfl ?_
  exact sa_sub [1, 0] rfl (w4_walk_2 C hR 400 h)
/-! X4 blind -/
def f4_blind (M : sl_M) : Option Int32 := (f0_allSight 0 M).bind fun r1 => some ((16777215 : Int32) &&& (r1 ^^^ (-1 : Int32)))
theorem cc4_blind {D : va_G} {cA : ClassId} {g : Nat → Nat} {A : Nat → Prop} {z : sl_K} {l : Launch} {M : sl_M} {r : Int32} (h : f4_blind M = some r) : sl_N sl_cl LX D cA g A z l yX4_blind cX4_blind 1 (some .int) 4 96 [.ref (g 27)] M (some (.int r)) M := by
  refine sl_N.of (by decide) (Nat.le_of_ble_eq_true rfl) rfl ?_
  intro p e s m args below meth c C
  replace C : sl_C RX4 cX4_blind 1 (some .int) sl_cl LX D cA g A z p s m meth c := C
  have hR : 4 ≤ (({ frames := 4, cells := 0, slots := 0, locals := 96 } : Room)).frames ∧ 96 ≤ (({ frames := 4, cells := 0, slots := 0, locals := 96 } : Room)).locals := ⟨Nat.le_refl _, Nat.le_refl _⟩
  rw [f4_blind] at h
  refine sa_ldc C dX4_blind_0 q_542 ?_
  refine sa_aload_n C dX4_blind_2 rfl 0 rfl ?_
  refine sa_getR C hh_X4 (k := 0) dX4_blind_3 q_235 (by decide) lx_27 rfl ?_
  obtain ⟨r1, er1, h⟩ := sl_b h
  refine sa_invVNi C yy_X0_allSight ⟨q_545, q_28⟩ q_543 dX4_blind_6 (As := []) (rest := [.int (16777215 : Int32)]) rfl ⟨Nat.le_trans (Nat.le_of_ble_eq_true rfl) hR.1, Nat.le_trans (Nat.le_of_ble_eq_true rfl) hR.2⟩ (Nat.le_of_ble_eq_true rfl) hh_X0 lx_0 (cc0_allSight sl_j0 er1) rfl ?_
  refine sa_iconst C dX4_blind_9 ic_m1 ?_
  refine sa_ixor C dX4_blind_10 ?_
  refine sa_iand C dX4_blind_11 ?_
  exact sa_iret C dX4_blind_12 (Option.some.inj h) rfl
/-! X4 heights -/
def f4_heights_45 (x1 : Int32) (x2 : Int32) (x3 : Int32) : Nat → Int32 → Int32 → sl_M → Option (Int32 × sl_M)
  | 0, _, _, _ => none
  | n + 1, x4, x5, M => (if (99 : Int32) < x5 then some (x4, M) else (f0_raiseTo 1 x1 x5 M).bind fun r2 => (f0_taxOf 1 x2 r2).bind fun r3 => (if r3 = x3 then f4_heights_45 x1 x2 x3 n (x4 + (1 : Int32)) (x5 + (1 : Int32)) r2 else f4_heights_45 x1 x2 x3 n x4 (x5 + (1 : Int32)) r2))
def f4_heights (x1 : Int32) (x2 : Int32) (x3 : Int32) (M : sl_M) : Option (Int32 × sl_M) := (if (f4_isCell x1) = 0 then (f4_tell (0 : Int32) M).bind fun r2 => some (r2.1, r2.2) else (if (f4_isHouse x2 M) = 0 then (f4_tell (0 : Int32) M).bind fun r4 => some (r4.1, r4.2) else (if (f4_isTaxAsked x3) = 0 then (f4_tell (0 : Int32) M).bind fun r7 => some (r7.1, r7.2) else (f0_takeAll 1 0 M).bind fun r6 => f4_heights_45 x1 x2 x3 400 (0 : Int32) (0 : Int32) r6)))
theorem w4_heights_45 {D : va_G} {cA : ClassId} {g : Nat → Nat} {A : Nat → Prop} {z : sl_K} {l : Launch} {p : Program} {e : Env} {R : Room} {s : State} {m : MethodId} {args : Array Value} {below : List Frame} {meth : Method} {c : Code} (C : sl_C RX4 cX4_heights 6 (some .int) sl_cl LX D cA g A z p s m meth c) (hR : 5 ≤ R.frames ∧ 119 ≤ R.locals) {r : Int32 × sl_M} {x1 : Int32} {x2 : Int32} {x3 : Int32} : ∀ (n : Nat) {x4 : Int32} {x5 : Int32} {M : sl_M}, f4_heights_45 x1 x2 x3 n x4 x5 M = some r → sl_A sl_cl LX D cA g A p l e R s m args below meth c (MQ below (sl_Q sl_cl LX D cA g A (some (.int r.1)) r.2) args s 0 0 A) 6 45 [(0, .ref (g 27)), (1, .int x1), (2, .int x2), (3, .int x3), (4, .int x4), (5, .int x5)] [] M := by
  intro n
  induction n with
  | zero =>
    intro x4 x5 M h
    exact absurd h.symm (Option.some_ne_none _)
  | succ n ih =>
    intro x4 x5 M h
    rw [f4_heights_45] at h
    refine sa_iload C dX4_heights_45 5 rfl ?_
    refine sa_bipush C dX4_heights_47 bp_99 ?_
    refine sa_icmp_gt C dX4_heights_49 (tgt := 83) (by decide) (fun c1 => ?_) (fun c1 => ?_)
    · replace h := sl_t c1 h
      refine sa_iload C dX4_heights_83 4 rfl ?_
      exact sa_iret C dX4_heights_85 (sl_p1 h) (sl_p2 h)
    · replace h := sl_n c1 h
      refine sa_aload_n C dX4_heights_52 rfl 0 rfl ?_
      refine sa_getR C hh_X4 (k := 1) dX4_heights_53 q_236 (by decide) lx_27 rfl ?_
      refine sa_iload_n C dX4_heights_56 rfl 1 rfl ?_
      refine sa_iload C dX4_heights_57 5 rfl ?_
      obtain ⟨r2, er2, h⟩ := sl_b h
      refine sa_invVNv C yy_X0_raiseTo ⟨q_277, q_1⟩ q_275 dX4_heights_59 (As := [.int x1, .int x5]) (rest := []) rfl ⟨Nat.le_trans (Nat.le_of_ble_eq_true rfl) hR.1, Nat.le_trans (Nat.le_of_ble_eq_true rfl) hR.2⟩ (Nat.le_of_ble_eq_true rfl) hh_X0 lx_9 (cc0_raiseTo sl_j1 er2) rfl ?_
      refine sa_aload_n C dX4_heights_62 rfl 0 rfl ?_
      refine sa_getR C hh_X4 (k := 1) dX4_heights_63 q_236 (by decide) lx_27 rfl ?_
      refine sa_iload_n C dX4_heights_66 rfl 2 rfl ?_
      obtain ⟨r3, er3, h⟩ := sl_b h
      refine sa_invVNi C yy_X0_taxOf ⟨q_428, q_17⟩ q_426 dX4_heights_67 (As := [.int x2]) (rest := []) rfl ⟨Nat.le_trans (Nat.le_of_ble_eq_true rfl) hR.1, Nat.le_trans (Nat.le_of_ble_eq_true rfl) hR.2⟩ (Nat.le_of_ble_eq_true rfl) hh_X0 lx_9 (cc0_taxOf sl_j1 er3) rfl ?_
      refine sa_iload_n C dX4_heights_70 rfl 3 rfl ?_
      refine sa_icmp_ne C dX4_heights_71 (tgt := 77) (by decide) (fun c4 => ?_) (fun c4 => ?_)
      · replace h := sl_n c4 h
        refine sa_iinc C dX4_heights_77 5 rfl (v := (x5 + (1 : Int32))) (by rw [ic_1]) (by decide) (lv2 := [(5, .int (x5 + (1 : Int32))), (0, .ref (g 27)), (1, .int x1), (2, .int x2), (3, .int x3), (4, .int x4)]) rfl ?_
        refine sa_goto C dX4_heights_80 (tgt := 45) (by decide) ?_
        exact sa_sub [1, 2, 3, 4, 5, 0] rfl (ih h)
      · replace h := sl_t c4 h
        refine sa_iinc C dX4_heights_74 4 rfl (v := (x4 + (1 : Int32))) (by rw [ic_1]) (by decide) (lv2 := [(4, .int (x4 + (1 : Int32))), (0, .ref (g 27)), (1, .int x1), (2, .int x2), (3, .int x3), (5, .int x5)]) rfl ?_
        refine sa_iinc C dX4_heights_77 5 rfl (v := (x5 + (1 : Int32))) (by rw [ic_1]) (by decide) (lv2 := [(5, .int (x5 + (1 : Int32))), (4, .int (x4 + (1 : Int32))), (0, .ref (g 27)), (1, .int x1), (2, .int x2), (3, .int x3)]) rfl ?_
        refine sa_goto C dX4_heights_80 (tgt := 45) (by decide) ?_
        exact sa_sub [2, 3, 4, 5, 1, 0] rfl (ih h)
theorem cc4_heights {D : va_G} {cA : ClassId} {g : Nat → Nat} {A : Nat → Prop} {z : sl_K} {l : Launch} {x1 : Int32} {x2 : Int32} {x3 : Int32} {M : sl_M} {r : Int32 × sl_M} (h : f4_heights x1 x2 x3 M = some r) : sl_N sl_cl LX D cA g A z l yX4_heights cX4_heights 6 (some .int) 5 119 [.ref (g 27), .int x1, .int x2, .int x3] M (some (.int r.1)) r.2 := by
  refine sl_N.of (by decide) (Nat.le_of_ble_eq_true rfl) rfl ?_
  intro p e s m args below meth c C
  replace C : sl_C RX4 cX4_heights 6 (some .int) sl_cl LX D cA g A z p s m meth c := C
  have hR : 5 ≤ (({ frames := 5, cells := 0, slots := 0, locals := 119 } : Room)).frames ∧ 119 ≤ (({ frames := 5, cells := 0, slots := 0, locals := 119 } : Room)).locals := ⟨Nat.le_refl _, Nat.le_refl _⟩
  rw [f4_heights] at h
  refine sa_iload_n C dX4_heights_0 rfl 1 rfl ?_
  refine sa_invSi C yy_X4_isCell q_265 q_264 dX4_heights_1 (As := [.int x1]) (rest := []) rfl ⟨Nat.le_trans (Nat.le_of_ble_eq_true rfl) hR.1, Nat.le_trans (Nat.le_of_ble_eq_true rfl) hR.2⟩ (Nat.le_of_ble_eq_true rfl) (cc4_isCell rfl) rfl ?_
  refine sa_if_eq C dX4_heights_4 (tgt := 22) (by decide) (fun c1 => ?_) (fun c1 => ?_)
  · replace h := sl_t c1 h
    refine sa_aload_n C dX4_heights_22 rfl 0 rfl ?_
    refine sa_iconst C dX4_heights_23 ic_0 ?_
    obtain ⟨r2, er2, h⟩ := sl_b h
    refine sa_invVi C yy_X4_tell ⟨q_272, q_0⟩ q_270 dX4_heights_24 (As := [.int (0 : Int32)]) (rest := []) rfl ⟨Nat.le_trans (Nat.le_of_ble_eq_true rfl) hR.1, Nat.le_trans (Nat.le_of_ble_eq_true rfl) hR.2⟩ (Nat.le_of_ble_eq_true rfl) hh_X4 lx_27 (cc4_tell er2) rfl ?_
    exact sa_iret C dX4_heights_27 (sl_p1 h) (sl_p2 h)
  · replace h := sl_n c1 h
    refine sa_aload_n C dX4_heights_7 rfl 0 rfl ?_
    refine sa_iload_n C dX4_heights_8 rfl 2 rfl ?_
    refine sa_invVi C yy_X4_isHouse ⟨q_335, q_8⟩ q_333 dX4_heights_9 (As := [.int x2]) (rest := []) rfl ⟨Nat.le_trans (Nat.le_of_ble_eq_true rfl) hR.1, Nat.le_trans (Nat.le_of_ble_eq_true rfl) hR.2⟩ (Nat.le_of_ble_eq_true rfl) hh_X4 lx_27 (cc4_isHouse rfl) rfl ?_
    refine sa_if_eq C dX4_heights_12 (tgt := 22) (by decide) (fun c3 => ?_) (fun c3 => ?_)
    · replace h := sl_t c3 h
      refine sa_aload_n C dX4_heights_22 rfl 0 rfl ?_
      refine sa_iconst C dX4_heights_23 ic_0 ?_
      obtain ⟨r4, er4, h⟩ := sl_b h
      refine sa_invVi C yy_X4_tell ⟨q_272, q_0⟩ q_270 dX4_heights_24 (As := [.int (0 : Int32)]) (rest := []) rfl ⟨Nat.le_trans (Nat.le_of_ble_eq_true rfl) hR.1, Nat.le_trans (Nat.le_of_ble_eq_true rfl) hR.2⟩ (Nat.le_of_ble_eq_true rfl) hh_X4 lx_27 (cc4_tell er4) rfl ?_
      exact sa_iret C dX4_heights_27 (sl_p1 h) (sl_p2 h)
    · replace h := sl_n c3 h
      refine sa_iload_n C dX4_heights_15 rfl 3 rfl ?_
      refine sa_invSi C yy_X4_isTaxAsked q_481 q_480 dX4_heights_16 (As := [.int x3]) (rest := []) rfl ⟨Nat.le_trans (Nat.le_of_ble_eq_true rfl) hR.1, Nat.le_trans (Nat.le_of_ble_eq_true rfl) hR.2⟩ (Nat.le_of_ble_eq_true rfl) (cc4_isTaxAsked rfl) rfl ?_
      refine sa_if_ne C dX4_heights_19 (tgt := 28) (by decide) (fun c5 => ?_) (fun c5 => ?_)
      · replace h := sl_n c5 h
        refine sa_aload_n C dX4_heights_28 rfl 0 rfl ?_
        refine sa_getR C hh_X4 (k := 1) dX4_heights_29 q_236 (by decide) lx_27 rfl ?_
        refine sa_aload_n C dX4_heights_32 rfl 0 rfl ?_
        refine sa_getR C hh_X4 (k := 0) dX4_heights_33 q_235 (by decide) lx_27 rfl ?_
        obtain ⟨r6, er6, h⟩ := sl_b h
        refine sa_invVNv C yy_X0_takeAll ⟨q_457, q_21⟩ q_455 dX4_heights_36 (As := [.ref (g 0)]) (rest := []) rfl ⟨Nat.le_trans (Nat.le_of_ble_eq_true rfl) hR.1, Nat.le_trans (Nat.le_of_ble_eq_true rfl) hR.2⟩ (Nat.le_of_ble_eq_true rfl) hh_X0 lx_9 (cc0_takeAll sl_j1 sl_j0 er6) rfl ?_
        refine sa_iconst C dX4_heights_39 ic_0 ?_
        refine sa_istore C dX4_heights_40 (by decide) (lv2 := [(4, .int (0 : Int32)), (0, .ref (g 27)), (1, .int x1), (2, .int x2), (3, .int x3)]) rfl ?_
        refine sa_iconst C dX4_heights_42 ic_0 ?_
        refine sa_istore C dX4_heights_43 (by decide) (lv2 := [(5, .int (0 : Int32)), (4, .int (0 : Int32)), (0, .ref (g 27)), (1, .int x1), (2, .int x2), (3, .int x3)]) rfl ?_
        exact sa_sub [2, 3, 4, 5, 1, 0] rfl (w4_heights_45 C hR 400 h)
      · replace h := sl_t c5 h
        refine sa_aload_n C dX4_heights_22 rfl 0 rfl ?_
        refine sa_iconst C dX4_heights_23 ic_0 ?_
        obtain ⟨r7, er7, h⟩ := sl_b h
        refine sa_invVi C yy_X4_tell ⟨q_272, q_0⟩ q_270 dX4_heights_24 (As := [.int (0 : Int32)]) (rest := []) rfl ⟨Nat.le_trans (Nat.le_of_ble_eq_true rfl) hR.1, Nat.le_trans (Nat.le_of_ble_eq_true rfl) hR.2⟩ (Nat.le_of_ble_eq_true rfl) hh_X4 lx_27 (cc4_tell er7) rfl ?_
        exact sa_iret C dX4_heights_27 (sl_p1 h) (sl_p2 h)
/-! X4 height -/
def f4_height_74 (k52 : Int32 → sl_M → Option (Int32 × sl_M)) (x1 : Int32) (x2 : Int32) (x3 : Int32) (x4 : Int32) (x5 : Int32) (t0 : Int32) (M : sl_M) : Option (Int32 × sl_M) := (f0_raiseTo 1 x1 t0 M).bind fun r1 => (f0_taxOf 1 x2 r1).bind fun r2 => (if r2 = x3 then some (t0, r1) else k52 (x5 + (1 : Int32)) r1)
def f4_height_52 (x1 : Int32) (x2 : Int32) (x3 : Int32) (x4 : Int32) : Nat → Int32 → sl_M → Option (Int32 × sl_M)
  | 0, _, _ => none
  | n + 1, x5, M => (if (99 : Int32) < x5 then (f4_tell (3 : Int32) M).bind fun r2 => some (r2.1, r2.2) else (if x4 = 0 then f4_height_74 (f4_height_52 x1 x2 x3 x4 n) x1 x2 x3 x4 x5 x5 M else f4_height_74 (f4_height_52 x1 x2 x3 x4 n) x1 x2 x3 x4 x5 ((99 : Int32) - x5) M))
def f4_height (x1 : Int32) (x2 : Int32) (x3 : Int32) (x4 : Int32) (M : sl_M) : Option (Int32 × sl_M) := (if (f4_isCell x1) = 0 then (f4_tell (0 : Int32) M).bind fun r2 => some (r2.1, r2.2) else (if (f4_isHouse x2 M) = 0 then (f4_tell (0 : Int32) M).bind fun r4 => some (r4.1, r4.2) else (if (f4_isTaxAsked x3) = 0 then (f4_tell (0 : Int32) M).bind fun r6 => some (r6.1, r6.2) else (if (f4_isWithin x4 (0 : Int32) (1 : Int32)) = 0 then (f4_tell (0 : Int32) M).bind fun r9 => some (r9.1, r9.2) else (f0_takeAll 1 0 M).bind fun r8 => f4_height_52 x1 x2 x3 x4 400 (0 : Int32) r8))))
theorem w4_height_74 {D : va_G} {cA : ClassId} {g : Nat → Nat} {A : Nat → Prop} {z : sl_K} {l : Launch} {p : Program} {e : Env} {R : Room} {s : State} {m : MethodId} {args : Array Value} {below : List Frame} {meth : Method} {c : Code} (C : sl_C RX4 cX4_height 7 (some .int) sl_cl LX D cA g A z p s m meth c) (hR : 5 ≤ R.frames ∧ 119 ≤ R.locals) {M : sl_M} {r : Int32 × sl_M} {x1 : Int32} {x2 : Int32} {x3 : Int32} {x4 : Int32} {x5 : Int32} {t0 : Int32} {k52 : Int32 → sl_M → Option (Int32 × sl_M)} (hk52 : ∀ {x5 : Int32} {M : sl_M}, k52 x5 M = some r → sl_A sl_cl LX D cA g A p l e R s m args below meth c (MQ below (sl_Q sl_cl LX D cA g A (some (.int r.1)) r.2) args s 0 0 A) 7 52 [(0, .ref (g 27)), (1, .int x1), (2, .int x2), (3, .int x3), (4, .int x4), (5, .int x5)] [] M) (h : f4_height_74 k52 x1 x2 x3 x4 x5 t0 M = some r) : sl_A sl_cl LX D cA g A p l e R s m args below meth c (MQ below (sl_Q sl_cl LX D cA g A (some (.int r.1)) r.2) args s 0 0 A) 7 74 [(0, .ref (g 27)), (1, .int x1), (2, .int x2), (3, .int x3), (4, .int x4), (5, .int x5)] [.int t0] M := by
  rw [f4_height_74] at h
  refine sa_istore C dX4_height_74 (by decide) (lv2 := [(6, .int t0), (0, .ref (g 27)), (1, .int x1), (2, .int x2), (3, .int x3), (4, .int x4), (5, .int x5)]) rfl ?_
  refine sa_aload_n C dX4_height_76 rfl 1 rfl ?_
  refine sa_getR C hh_X4 (k := 1) dX4_height_77 q_236 (by decide) lx_27 rfl ?_
  refine sa_iload_n C dX4_height_80 rfl 2 rfl ?_
  refine sa_iload C dX4_height_81 0 rfl ?_
  obtain ⟨r1, er1, h⟩ := sl_b h
  refine sa_invVNv C yy_X0_raiseTo ⟨q_277, q_1⟩ q_275 dX4_height_83 (As := [.int x1, .int t0]) (rest := []) rfl ⟨Nat.le_trans (Nat.le_of_ble_eq_true rfl) hR.1, Nat.le_trans (Nat.le_of_ble_eq_true rfl) hR.2⟩ (Nat.le_of_ble_eq_true rfl) hh_X0 lx_9 (cc0_raiseTo sl_j1 er1) rfl ?_
  refine sa_aload_n C dX4_height_86 rfl 1 rfl ?_
  refine sa_getR C hh_X4 (k := 1) dX4_height_87 q_236 (by decide) lx_27 rfl ?_
  refine sa_iload_n C dX4_height_90 rfl 3 rfl ?_
  obtain ⟨r2, er2, h⟩ := sl_b h
  refine sa_invVNi C yy_X0_taxOf ⟨q_428, q_17⟩ q_426 dX4_height_91 (As := [.int x2]) (rest := []) rfl ⟨Nat.le_trans (Nat.le_of_ble_eq_true rfl) hR.1, Nat.le_trans (Nat.le_of_ble_eq_true rfl) hR.2⟩ (Nat.le_of_ble_eq_true rfl) hh_X0 lx_9 (cc0_taxOf sl_j1 er2) rfl ?_
  refine sa_iload_n C dX4_height_94 rfl 4 rfl ?_
  refine sa_icmp_ne C dX4_height_95 (tgt := 101) (by decide) (fun c3 => ?_) (fun c3 => ?_)
  · replace h := sl_n c3 h
    refine sa_iinc C dX4_height_101 6 rfl (v := (x5 + (1 : Int32))) (by rw [ic_1]) (by decide) (lv2 := [(5, .int (x5 + (1 : Int32))), (6, .int t0), (0, .ref (g 27)), (1, .int x1), (2, .int x2), (3, .int x3), (4, .int x4)]) rfl ?_
    refine sa_goto C dX4_height_104 (tgt := 52) (by decide) ?_
    exact sa_sub [2, 3, 4, 5, 6, 0] rfl (hk52 h)
  · replace h := sl_t c3 h
    refine sa_iload C dX4_height_98 0 rfl ?_
    exact sa_iret C dX4_height_100 (sl_p1 h) (sl_p2 h)
theorem w4_height_52 {D : va_G} {cA : ClassId} {g : Nat → Nat} {A : Nat → Prop} {z : sl_K} {l : Launch} {p : Program} {e : Env} {R : Room} {s : State} {m : MethodId} {args : Array Value} {below : List Frame} {meth : Method} {c : Code} (C : sl_C RX4 cX4_height 7 (some .int) sl_cl LX D cA g A z p s m meth c) (hR : 5 ≤ R.frames ∧ 119 ≤ R.locals) {r : Int32 × sl_M} {x1 : Int32} {x2 : Int32} {x3 : Int32} {x4 : Int32} : ∀ (n : Nat) {x5 : Int32} {M : sl_M}, f4_height_52 x1 x2 x3 x4 n x5 M = some r → sl_A sl_cl LX D cA g A p l e R s m args below meth c (MQ below (sl_Q sl_cl LX D cA g A (some (.int r.1)) r.2) args s 0 0 A) 7 52 [(0, .ref (g 27)), (1, .int x1), (2, .int x2), (3, .int x3), (4, .int x4), (5, .int x5)] [] M := by
  intro n
  induction n with
  | zero =>
    intro x5 M h
    exact absurd h.symm (Option.some_ne_none _)
  | succ n ih =>
    intro x5 M h
    rw [f4_height_52] at h
    refine sa_iload C dX4_height_52 5 rfl ?_
    refine sa_bipush C dX4_height_54 bp_99 ?_
    refine sa_icmp_gt C dX4_height_56 (tgt := 107) (by decide) (fun c1 => ?_) (fun c1 => ?_)
    · replace h := sl_t c1 h
      refine sa_aload_n C dX4_height_107 rfl 0 rfl ?_
      refine sa_iconst C dX4_height_108 ic_3 ?_
      obtain ⟨r2, er2, h⟩ := sl_b h
      refine sa_invVi C yy_X4_tell ⟨q_272, q_0⟩ q_270 dX4_height_109 (As := [.int (3 : Int32)]) (rest := []) rfl ⟨Nat.le_trans (Nat.le_of_ble_eq_true rfl) hR.1, Nat.le_trans (Nat.le_of_ble_eq_true rfl) hR.2⟩ (Nat.le_of_ble_eq_true rfl) hh_X4 lx_27 (cc4_tell er2) rfl ?_
      exact sa_iret C dX4_height_112 (sl_p1 h) (sl_p2 h)
    · replace h := sl_n c1 h
      refine sa_iload C dX4_height_59 4 rfl ?_
      refine sa_if_ne C dX4_height_61 (tgt := 69) (by decide) (fun c3 => ?_) (fun c3 => ?_)
      · replace h := sl_n c3 h
        refine sa_bipush C dX4_height_69 bp_99 ?_
        refine sa_iload C dX4_height_71 5 rfl ?_
        refine sa_isub C dX4_height_73 ?_
        exact sa_sub [0, 1, 2, 3, 4, 5] rfl (w4_height_74 C hR (fun h => ih h) h)
      · replace h := sl_t c3 h
        refine sa_iload C dX4_height_64 5 rfl ?_
        refine sa_goto C dX4_height_66 (tgt := 74) (by decide) ?_
        exact sa_sub [0, 1, 2, 3, 4, 5] rfl (w4_height_74 C hR (fun h => ih h) h)
theorem cc4_height {D : va_G} {cA : ClassId} {g : Nat → Nat} {A : Nat → Prop} {z : sl_K} {l : Launch} {x1 : Int32} {x2 : Int32} {x3 : Int32} {x4 : Int32} {M : sl_M} {r : Int32 × sl_M} (h : f4_height x1 x2 x3 x4 M = some r) : sl_N sl_cl LX D cA g A z l yX4_height cX4_height 7 (some .int) 5 119 [.ref (g 27), .int x1, .int x2, .int x3, .int x4] M (some (.int r.1)) r.2 := by
  refine sl_N.of (by decide) (Nat.le_of_ble_eq_true rfl) rfl ?_
  intro p e s m args below meth c C
  replace C : sl_C RX4 cX4_height 7 (some .int) sl_cl LX D cA g A z p s m meth c := C
  have hR : 5 ≤ (({ frames := 5, cells := 0, slots := 0, locals := 119 } : Room)).frames ∧ 119 ≤ (({ frames := 5, cells := 0, slots := 0, locals := 119 } : Room)).locals := ⟨Nat.le_refl _, Nat.le_refl _⟩
  rw [f4_height] at h
  refine sa_iload_n C dX4_height_0 rfl 1 rfl ?_
  refine sa_invSi C yy_X4_isCell q_265 q_264 dX4_height_1 (As := [.int x1]) (rest := []) rfl ⟨Nat.le_trans (Nat.le_of_ble_eq_true rfl) hR.1, Nat.le_trans (Nat.le_of_ble_eq_true rfl) hR.2⟩ (Nat.le_of_ble_eq_true rfl) (cc4_isCell rfl) rfl ?_
  refine sa_if_eq C dX4_height_4 (tgt := 32) (by decide) (fun c1 => ?_) (fun c1 => ?_)
  · replace h := sl_t c1 h
    refine sa_aload_n C dX4_height_32 rfl 0 rfl ?_
    refine sa_iconst C dX4_height_33 ic_0 ?_
    obtain ⟨r2, er2, h⟩ := sl_b h
    refine sa_invVi C yy_X4_tell ⟨q_272, q_0⟩ q_270 dX4_height_34 (As := [.int (0 : Int32)]) (rest := []) rfl ⟨Nat.le_trans (Nat.le_of_ble_eq_true rfl) hR.1, Nat.le_trans (Nat.le_of_ble_eq_true rfl) hR.2⟩ (Nat.le_of_ble_eq_true rfl) hh_X4 lx_27 (cc4_tell er2) rfl ?_
    exact sa_iret C dX4_height_37 (sl_p1 h) (sl_p2 h)
  · replace h := sl_n c1 h
    refine sa_aload_n C dX4_height_7 rfl 0 rfl ?_
    refine sa_iload_n C dX4_height_8 rfl 2 rfl ?_
    refine sa_invVi C yy_X4_isHouse ⟨q_335, q_8⟩ q_333 dX4_height_9 (As := [.int x2]) (rest := []) rfl ⟨Nat.le_trans (Nat.le_of_ble_eq_true rfl) hR.1, Nat.le_trans (Nat.le_of_ble_eq_true rfl) hR.2⟩ (Nat.le_of_ble_eq_true rfl) hh_X4 lx_27 (cc4_isHouse rfl) rfl ?_
    refine sa_if_eq C dX4_height_12 (tgt := 32) (by decide) (fun c3 => ?_) (fun c3 => ?_)
    · replace h := sl_t c3 h
      refine sa_aload_n C dX4_height_32 rfl 0 rfl ?_
      refine sa_iconst C dX4_height_33 ic_0 ?_
      obtain ⟨r4, er4, h⟩ := sl_b h
      refine sa_invVi C yy_X4_tell ⟨q_272, q_0⟩ q_270 dX4_height_34 (As := [.int (0 : Int32)]) (rest := []) rfl ⟨Nat.le_trans (Nat.le_of_ble_eq_true rfl) hR.1, Nat.le_trans (Nat.le_of_ble_eq_true rfl) hR.2⟩ (Nat.le_of_ble_eq_true rfl) hh_X4 lx_27 (cc4_tell er4) rfl ?_
      exact sa_iret C dX4_height_37 (sl_p1 h) (sl_p2 h)
    · replace h := sl_n c3 h
      refine sa_iload_n C dX4_height_15 rfl 3 rfl ?_
      refine sa_invSi C yy_X4_isTaxAsked q_481 q_480 dX4_height_16 (As := [.int x3]) (rest := []) rfl ⟨Nat.le_trans (Nat.le_of_ble_eq_true rfl) hR.1, Nat.le_trans (Nat.le_of_ble_eq_true rfl) hR.2⟩ (Nat.le_of_ble_eq_true rfl) (cc4_isTaxAsked rfl) rfl ?_
      refine sa_if_eq C dX4_height_19 (tgt := 32) (by decide) (fun c5 => ?_) (fun c5 => ?_)
      · replace h := sl_t c5 h
        refine sa_aload_n C dX4_height_32 rfl 0 rfl ?_
        refine sa_iconst C dX4_height_33 ic_0 ?_
        obtain ⟨r6, er6, h⟩ := sl_b h
        refine sa_invVi C yy_X4_tell ⟨q_272, q_0⟩ q_270 dX4_height_34 (As := [.int (0 : Int32)]) (rest := []) rfl ⟨Nat.le_trans (Nat.le_of_ble_eq_true rfl) hR.1, Nat.le_trans (Nat.le_of_ble_eq_true rfl) hR.2⟩ (Nat.le_of_ble_eq_true rfl) hh_X4 lx_27 (cc4_tell er6) rfl ?_
        exact sa_iret C dX4_height_37 (sl_p1 h) (sl_p2 h)
      · replace h := sl_n c5 h
        refine sa_iload C dX4_height_22 4 rfl ?_
        refine sa_iconst C dX4_height_24 ic_0 ?_
        refine sa_iconst C dX4_height_25 ic_1 ?_
        refine sa_invSi C yy_X4_isWithin q_268 q_267 dX4_height_26 (As := [.int x4, .int (0 : Int32), .int (1 : Int32)]) (rest := []) rfl ⟨Nat.le_trans (Nat.le_of_ble_eq_true rfl) hR.1, Nat.le_trans (Nat.le_of_ble_eq_true rfl) hR.2⟩ (Nat.le_of_ble_eq_true rfl) (cc4_isWithin rfl) rfl ?_
        refine sa_if_ne C dX4_height_29 (tgt := 38) (by decide) (fun c7 => ?_) (fun c7 => ?_)
        · replace h := sl_n c7 h
          refine sa_aload_n C dX4_height_38 rfl 0 rfl ?_
          refine sa_getR C hh_X4 (k := 1) dX4_height_39 q_236 (by decide) lx_27 rfl ?_
          refine sa_aload_n C dX4_height_42 rfl 0 rfl ?_
          refine sa_getR C hh_X4 (k := 0) dX4_height_43 q_235 (by decide) lx_27 rfl ?_
          obtain ⟨r8, er8, h⟩ := sl_b h
          refine sa_invVNv C yy_X0_takeAll ⟨q_457, q_21⟩ q_455 dX4_height_46 (As := [.ref (g 0)]) (rest := []) rfl ⟨Nat.le_trans (Nat.le_of_ble_eq_true rfl) hR.1, Nat.le_trans (Nat.le_of_ble_eq_true rfl) hR.2⟩ (Nat.le_of_ble_eq_true rfl) hh_X0 lx_9 (cc0_takeAll sl_j1 sl_j0 er8) rfl ?_
          refine sa_iconst C dX4_height_49 ic_0 ?_
          refine sa_istore C dX4_height_50 (by decide) (lv2 := [(5, .int (0 : Int32)), (0, .ref (g 27)), (1, .int x1), (2, .int x2), (3, .int x3), (4, .int x4)]) rfl ?_
          exact sa_sub [1, 2, 3, 4, 5, 0] rfl (w4_height_52 C hR 400 h)
        · replace h := sl_t c7 h
          refine sa_aload_n C dX4_height_32 rfl 0 rfl ?_
          refine sa_iconst C dX4_height_33 ic_0 ?_
          obtain ⟨r9, er9, h⟩ := sl_b h
          refine sa_invVi C yy_X4_tell ⟨q_272, q_0⟩ q_270 dX4_height_34 (As := [.int (0 : Int32)]) (rest := []) rfl ⟨Nat.le_trans (Nat.le_of_ble_eq_true rfl) hR.1, Nat.le_trans (Nat.le_of_ble_eq_true rfl) hR.2⟩ (Nat.le_of_ble_eq_true rfl) hh_X4 lx_27 (cc4_tell er9) rfl ?_
          exact sa_iret C dX4_height_37 (sl_p1 h) (sl_p2 h)
/-! X4 which -/
def f4_which_33 (x1 : Int32) (x2 : Int32) : Nat → Int32 → sl_M → Option (Int32 × sl_M)
  | 0, _, _ => none
  | n + 1, x3, M => (if (M 0 8) ≤ x3 then (f4_tell (3 : Int32) M).bind fun r2 => some (r2.1, r2.2) else (sl_st M 14 8 x3 x1).bind fun M3 => (f0_taxOf 1 x3 M3).bind fun r4 => (if r4 = x2 then some (x3, M3) else f4_which_33 x1 x2 n (x3 + (1 : Int32)) M3))
def f4_which (x1 : Int32) (x2 : Int32) (M : sl_M) : Option (Int32 × sl_M) := (if (f4_isCell x1) = 0 then (f4_tell (0 : Int32) M).bind fun r2 => some (r2.1, r2.2) else (if (f4_isTaxAsked x2) = 0 then (f4_tell (0 : Int32) M).bind fun r5 => some (r5.1, r5.2) else (f0_takeAll 1 0 M).bind fun r4 => f4_which_33 x1 x2 400 (0 : Int32) r4))
theorem w4_which_33 {D : va_G} {cA : ClassId} {g : Nat → Nat} {A : Nat → Prop} {z : sl_K} {l : Launch} {p : Program} {e : Env} {R : Room} {s : State} {m : MethodId} {args : Array Value} {below : List Frame} {meth : Method} {c : Code} (C : sl_C RX4 cX4_which 4 (some .int) sl_cl LX D cA g A z p s m meth c) (hR : 5 ≤ R.frames ∧ 119 ≤ R.locals) {r : Int32 × sl_M} {x1 : Int32} {x2 : Int32} : ∀ (n : Nat) {x3 : Int32} {M : sl_M}, f4_which_33 x1 x2 n x3 M = some r → sl_A sl_cl LX D cA g A p l e R s m args below meth c (MQ below (sl_Q sl_cl LX D cA g A (some (.int r.1)) r.2) args s 0 0 A) 4 33 [(0, .ref (g 27)), (1, .int x1), (2, .int x2), (3, .int x3)] [] M := by
  intro n
  induction n with
  | zero =>
    intro x3 M h
    exact absurd h.symm (Option.some_ne_none _)
  | succ n ih =>
    intro x3 M h
    rw [f4_which_33] at h
    refine sa_iload_n C dX4_which_33 rfl 3 rfl ?_
    refine sa_aload_n C dX4_which_34 rfl 0 rfl ?_
    refine sa_getR C hh_X4 (k := 0) dX4_which_35 q_235 (by decide) lx_27 rfl ?_
    refine sa_getIN C hh_X0 (k := 8) dX4_which_38 q_138 (by decide) lx_0 rfl ?_
    refine sa_icmp_ge C dX4_which_41 (tgt := 74) (by decide) (fun c1 => ?_) (fun c1 => ?_)
    · replace h := sl_t c1 h
      refine sa_aload_n C dX4_which_74 rfl 0 rfl ?_
      refine sa_iconst C dX4_which_75 ic_3 ?_
      obtain ⟨r2, er2, h⟩ := sl_b h
      refine sa_invVi C yy_X4_tell ⟨q_272, q_0⟩ q_270 dX4_which_76 (As := [.int (3 : Int32)]) (rest := []) rfl ⟨Nat.le_trans (Nat.le_of_ble_eq_true rfl) hR.1, Nat.le_trans (Nat.le_of_ble_eq_true rfl) hR.2⟩ (Nat.le_of_ble_eq_true rfl) hh_X4 lx_27 (cc4_tell er2) rfl ?_
      exact sa_iret C dX4_which_79 (sl_p1 h) (sl_p2 h)
    · replace h := sl_n c1 h
      refine sa_aload_n C dX4_which_44 rfl 0 rfl ?_
      refine sa_getR C hh_X4 (k := 1) dX4_which_45 q_236 (by decide) lx_27 rfl ?_
      refine sa_getRN C hh_X0 (k := 4) dX4_which_48 q_130 (by decide) lx_9 rfl ?_
      refine sa_iload_n C dX4_which_51 rfl 3 rfl ?_
      refine sa_iload_n C dX4_which_52 rfl 1 rfl ?_
      obtain ⟨M3, eM3, h⟩ := sl_b h
      refine sa_iast C dX4_which_53 lx_14 eM3 ?_
      refine sa_aload_n C dX4_which_54 rfl 0 rfl ?_
      refine sa_getR C hh_X4 (k := 1) dX4_which_55 q_236 (by decide) lx_27 rfl ?_
      refine sa_iload_n C dX4_which_58 rfl 3 rfl ?_
      obtain ⟨r4, er4, h⟩ := sl_b h
      refine sa_invVNi C yy_X0_taxOf ⟨q_428, q_17⟩ q_426 dX4_which_59 (As := [.int x3]) (rest := []) rfl ⟨Nat.le_trans (Nat.le_of_ble_eq_true rfl) hR.1, Nat.le_trans (Nat.le_of_ble_eq_true rfl) hR.2⟩ (Nat.le_of_ble_eq_true rfl) hh_X0 lx_9 (cc0_taxOf sl_j1 er4) rfl ?_
      refine sa_iload_n C dX4_which_62 rfl 2 rfl ?_
      refine sa_icmp_ne C dX4_which_63 (tgt := 68) (by decide) (fun c5 => ?_) (fun c5 => ?_)
      · replace h := sl_n c5 h
        refine sa_iinc C dX4_which_68 3 rfl (v := (x3 + (1 : Int32))) (by rw [ic_1]) (by decide) (lv2 := [(3, .int (x3 + (1 : Int32))), (0, .ref (g 27)), (1, .int x1), (2, .int x2)]) rfl ?_
        refine sa_goto C dX4_which_71 (tgt := 33) (by decide) ?_
        exact sa_sub [1, 2, 3, 0] rfl (ih h)
      · replace h := sl_t c5 h
        refine sa_iload_n C dX4_which_66 rfl 3 rfl ?_
        exact sa_iret C dX4_which_67 (sl_p1 h) (sl_p2 h)
theorem cc4_which {D : va_G} {cA : ClassId} {g : Nat → Nat} {A : Nat → Prop} {z : sl_K} {l : Launch} {x1 : Int32} {x2 : Int32} {M : sl_M} {r : Int32 × sl_M} (h : f4_which x1 x2 M = some r) : sl_N sl_cl LX D cA g A z l yX4_which cX4_which 4 (some .int) 5 119 [.ref (g 27), .int x1, .int x2] M (some (.int r.1)) r.2 := by
  refine sl_N.of (by decide) (Nat.le_of_ble_eq_true rfl) rfl ?_
  intro p e s m args below meth c C
  replace C : sl_C RX4 cX4_which 4 (some .int) sl_cl LX D cA g A z p s m meth c := C
  have hR : 5 ≤ (({ frames := 5, cells := 0, slots := 0, locals := 119 } : Room)).frames ∧ 119 ≤ (({ frames := 5, cells := 0, slots := 0, locals := 119 } : Room)).locals := ⟨Nat.le_refl _, Nat.le_refl _⟩
  rw [f4_which] at h
  refine sa_iload_n C dX4_which_0 rfl 1 rfl ?_
  refine sa_invSi C yy_X4_isCell q_265 q_264 dX4_which_1 (As := [.int x1]) (rest := []) rfl ⟨Nat.le_trans (Nat.le_of_ble_eq_true rfl) hR.1, Nat.le_trans (Nat.le_of_ble_eq_true rfl) hR.2⟩ (Nat.le_of_ble_eq_true rfl) (cc4_isCell rfl) rfl ?_
  refine sa_if_eq C dX4_which_4 (tgt := 14) (by decide) (fun c1 => ?_) (fun c1 => ?_)
  · replace h := sl_t c1 h
    refine sa_aload_n C dX4_which_14 rfl 0 rfl ?_
    refine sa_iconst C dX4_which_15 ic_0 ?_
    obtain ⟨r2, er2, h⟩ := sl_b h
    refine sa_invVi C yy_X4_tell ⟨q_272, q_0⟩ q_270 dX4_which_16 (As := [.int (0 : Int32)]) (rest := []) rfl ⟨Nat.le_trans (Nat.le_of_ble_eq_true rfl) hR.1, Nat.le_trans (Nat.le_of_ble_eq_true rfl) hR.2⟩ (Nat.le_of_ble_eq_true rfl) hh_X4 lx_27 (cc4_tell er2) rfl ?_
    exact sa_iret C dX4_which_19 (sl_p1 h) (sl_p2 h)
  · replace h := sl_n c1 h
    refine sa_iload_n C dX4_which_7 rfl 2 rfl ?_
    refine sa_invSi C yy_X4_isTaxAsked q_481 q_480 dX4_which_8 (As := [.int x2]) (rest := []) rfl ⟨Nat.le_trans (Nat.le_of_ble_eq_true rfl) hR.1, Nat.le_trans (Nat.le_of_ble_eq_true rfl) hR.2⟩ (Nat.le_of_ble_eq_true rfl) (cc4_isTaxAsked rfl) rfl ?_
    refine sa_if_ne C dX4_which_11 (tgt := 20) (by decide) (fun c3 => ?_) (fun c3 => ?_)
    · replace h := sl_n c3 h
      refine sa_aload_n C dX4_which_20 rfl 0 rfl ?_
      refine sa_getR C hh_X4 (k := 1) dX4_which_21 q_236 (by decide) lx_27 rfl ?_
      refine sa_aload_n C dX4_which_24 rfl 0 rfl ?_
      refine sa_getR C hh_X4 (k := 0) dX4_which_25 q_235 (by decide) lx_27 rfl ?_
      obtain ⟨r4, er4, h⟩ := sl_b h
      refine sa_invVNv C yy_X0_takeAll ⟨q_457, q_21⟩ q_455 dX4_which_28 (As := [.ref (g 0)]) (rest := []) rfl ⟨Nat.le_trans (Nat.le_of_ble_eq_true rfl) hR.1, Nat.le_trans (Nat.le_of_ble_eq_true rfl) hR.2⟩ (Nat.le_of_ble_eq_true rfl) hh_X0 lx_9 (cc0_takeAll sl_j1 sl_j0 er4) rfl ?_
      refine sa_iconst C dX4_which_31 ic_0 ?_
      refine sa_istore_n C dX4_which_32 rfl (by decide) (lv2 := [(3, .int (0 : Int32)), (0, .ref (g 27)), (1, .int x1), (2, .int x2)]) rfl ?_
      exact sa_sub [1, 2, 3, 0] rfl (w4_which_33 C hR 400 h)
    · replace h := sl_t c3 h
      refine sa_aload_n C dX4_which_14 rfl 0 rfl ?_
      refine sa_iconst C dX4_which_15 ic_0 ?_
      obtain ⟨r5, er5, h⟩ := sl_b h
      refine sa_invVi C yy_X4_tell ⟨q_272, q_0⟩ q_270 dX4_which_16 (As := [.int (0 : Int32)]) (rest := []) rfl ⟨Nat.le_trans (Nat.le_of_ble_eq_true rfl) hR.1, Nat.le_trans (Nat.le_of_ble_eq_true rfl) hR.2⟩ (Nat.le_of_ble_eq_true rfl) hh_X4 lx_27 (cc4_tell er5) rfl ?_
      exact sa_iret C dX4_which_19 (sl_p1 h) (sl_p2 h)
/-! X4 years -/
def f4_years (x1 : Int32) (M : sl_M) : Option (Int32 × sl_M) := (if (f4_isWithin x1 (1 : Int32) (60 : Int32)) = 0 then (f4_tell (0 : Int32) M).bind fun r5 => some (r5.1, r5.2) else (if (f4_isTooLate x1 M) = 0 then (f0_grow 0 x1 M).bind fun r3 => some ((r3 0 11), r3) else (f4_tell (4 : Int32) M).bind fun r4 => some (r4.1, r4.2)))
theorem cc4_years {D : va_G} {cA : ClassId} {g : Nat → Nat} {A : Nat → Prop} {z : sl_K} {l : Launch} {x1 : Int32} {M : sl_M} {r : Int32 × sl_M} (h : f4_years x1 M = some r) : sl_N sl_cl LX D cA g A z l yX4_years cX4_years 2 (some .int) 5 108 [.ref (g 27), .int x1] M (some (.int r.1)) r.2 := by
  refine sl_N.of (by decide) (Nat.le_of_ble_eq_true rfl) rfl ?_
  intro p e s m args below meth c C
  replace C : sl_C RX4 cX4_years 2 (some .int) sl_cl LX D cA g A z p s m meth c := C
  have hR : 5 ≤ (({ frames := 5, cells := 0, slots := 0, locals := 108 } : Room)).frames ∧ 108 ≤ (({ frames := 5, cells := 0, slots := 0, locals := 108 } : Room)).locals := ⟨Nat.le_refl _, Nat.le_refl _⟩
  rw [f4_years] at h
  refine sa_iload_n C dX4_years_0 rfl 1 rfl ?_
  refine sa_iconst C dX4_years_1 ic_1 ?_
  refine sa_bipush C dX4_years_2 bp_60 ?_
  refine sa_invSi C yy_X4_isWithin q_268 q_267 dX4_years_4 (As := [.int x1, .int (1 : Int32), .int (60 : Int32)]) (rest := []) rfl ⟨Nat.le_trans (Nat.le_of_ble_eq_true rfl) hR.1, Nat.le_trans (Nat.le_of_ble_eq_true rfl) hR.2⟩ (Nat.le_of_ble_eq_true rfl) (cc4_isWithin rfl) rfl ?_
  refine sa_if_ne C dX4_years_7 (tgt := 16) (by decide) (fun c1 => ?_) (fun c1 => ?_)
  · replace h := sl_n c1 h
    refine sa_aload_n C dX4_years_16 rfl 0 rfl ?_
    refine sa_iload_n C dX4_years_17 rfl 1 rfl ?_
    refine sa_invVi C yy_X4_isTooLate ⟨q_495, q_22⟩ q_493 dX4_years_18 (As := [.int x1]) (rest := []) rfl ⟨Nat.le_trans (Nat.le_of_ble_eq_true rfl) hR.1, Nat.le_trans (Nat.le_of_ble_eq_true rfl) hR.2⟩ (Nat.le_of_ble_eq_true rfl) hh_X4 lx_27 (cc4_isTooLate rfl) rfl ?_
    refine sa_if_eq C dX4_years_21 (tgt := 30) (by decide) (fun c2 => ?_) (fun c2 => ?_)
    · replace h := sl_t c2 h
      refine sa_aload_n C dX4_years_30 rfl 0 rfl ?_
      refine sa_getR C hh_X4 (k := 0) dX4_years_31 q_235 (by decide) lx_27 rfl ?_
      refine sa_iload_n C dX4_years_34 rfl 1 rfl ?_
      obtain ⟨r3, er3, h⟩ := sl_b h
      refine sa_invVNv C yy_X0_grow ⟨q_503, q_24⟩ q_501 dX4_years_35 (As := [.int x1]) (rest := []) rfl ⟨Nat.le_trans (Nat.le_of_ble_eq_true rfl) hR.1, Nat.le_trans (Nat.le_of_ble_eq_true rfl) hR.2⟩ (Nat.le_of_ble_eq_true rfl) hh_X0 lx_0 (cc0_grow sl_j0 er3) rfl ?_
      refine sa_aload_n C dX4_years_38 rfl 0 rfl ?_
      refine sa_getR C hh_X4 (k := 0) dX4_years_39 q_235 (by decide) lx_27 rfl ?_
      refine sa_getIN C hh_X0 (k := 11) dX4_years_42 q_146 (by decide) lx_0 rfl ?_
      exact sa_iret C dX4_years_45 (sl_p1 h) (sl_p2 h)
    · replace h := sl_n c2 h
      refine sa_aload_n C dX4_years_24 rfl 0 rfl ?_
      refine sa_iconst C dX4_years_25 ic_4 ?_
      obtain ⟨r4, er4, h⟩ := sl_b h
      refine sa_invVi C yy_X4_tell ⟨q_272, q_0⟩ q_270 dX4_years_26 (As := [.int (4 : Int32)]) (rest := []) rfl ⟨Nat.le_trans (Nat.le_of_ble_eq_true rfl) hR.1, Nat.le_trans (Nat.le_of_ble_eq_true rfl) hR.2⟩ (Nat.le_of_ble_eq_true rfl) hh_X4 lx_27 (cc4_tell er4) rfl ?_
      exact sa_iret C dX4_years_29 (sl_p1 h) (sl_p2 h)
  · replace h := sl_t c1 h
    refine sa_aload_n C dX4_years_10 rfl 0 rfl ?_
    refine sa_iconst C dX4_years_11 ic_0 ?_
    obtain ⟨r5, er5, h⟩ := sl_b h
    refine sa_invVi C yy_X4_tell ⟨q_272, q_0⟩ q_270 dX4_years_12 (As := [.int (0 : Int32)]) (rest := []) rfl ⟨Nat.le_trans (Nat.le_of_ble_eq_true rfl) hR.1, Nat.le_trans (Nat.le_of_ble_eq_true rfl) hR.2⟩ (Nat.le_of_ble_eq_true rfl) hh_X4 lx_27 (cc4_tell er5) rfl ?_
    exact sa_iret C dX4_years_15 (sl_p1 h) (sl_p2 h)
/-! X4 ahead -/
def f4_ahead (x1 : Int32) (x2 : Int32) (M : sl_M) : Option (Int32 × sl_M) := (if (f4_isSpan x1) = 0 then (f4_tell (0 : Int32) M).bind fun r2 => some (r2.1, r2.2) else (if (f4_isWithin x2 (0 : Int32) (M 0 8)) = 0 then (f4_tell (0 : Int32) M).bind fun r10 => some (r10.1, r10.2) else (if (f4_isTooLate x1 M) = 0 then (f4_tryYears x1 M).bind fun r5 => (if x2 = 0 then (f0_allTax 1 r5).bind fun r8 => some (r8, r5) else (f0_taxOf 1 (x2 - (1 : Int32)) r5).bind fun r7 => some (r7, r5)) else (f4_tell (4 : Int32) M).bind fun r9 => some (r9.1, r9.2))))
theorem cc4_ahead {D : va_G} {cA : ClassId} {g : Nat → Nat} {A : Nat → Prop} {z : sl_K} {l : Launch} {x1 : Int32} {x2 : Int32} {M : sl_M} {r : Int32 × sl_M} (h : f4_ahead x1 x2 M = some r) : sl_N sl_cl LX D cA g A z l yX4_ahead cX4_ahead 3 (some .int) 6 141 [.ref (g 27), .int x1, .int x2] M (some (.int r.1)) r.2 := by
  refine sl_N.of (by decide) (Nat.le_of_ble_eq_true rfl) rfl ?_
  intro p e s m args below meth c C
  replace C : sl_C RX4 cX4_ahead 3 (some .int) sl_cl LX D cA g A z p s m meth c := C
  have hR : 6 ≤ (({ frames := 6, cells := 0, slots := 0, locals := 141 } : Room)).frames ∧ 141 ≤ (({ frames := 6, cells := 0, slots := 0, locals := 141 } : Room)).locals := ⟨Nat.le_refl _, Nat.le_refl _⟩
  rw [f4_ahead] at h
  refine sa_iload_n C dX4_ahead_0 rfl 1 rfl ?_
  refine sa_invSi C yy_X4_isSpan q_491 q_490 dX4_ahead_1 (As := [.int x1]) (rest := []) rfl ⟨Nat.le_trans (Nat.le_of_ble_eq_true rfl) hR.1, Nat.le_trans (Nat.le_of_ble_eq_true rfl) hR.2⟩ (Nat.le_of_ble_eq_true rfl) (cc4_isSpan rfl) rfl ?_
  refine sa_if_eq C dX4_ahead_4 (tgt := 22) (by decide) (fun c1 => ?_) (fun c1 => ?_)
  · replace h := sl_t c1 h
    refine sa_aload_n C dX4_ahead_22 rfl 0 rfl ?_
    refine sa_iconst C dX4_ahead_23 ic_0 ?_
    obtain ⟨r2, er2, h⟩ := sl_b h
    refine sa_invVi C yy_X4_tell ⟨q_272, q_0⟩ q_270 dX4_ahead_24 (As := [.int (0 : Int32)]) (rest := []) rfl ⟨Nat.le_trans (Nat.le_of_ble_eq_true rfl) hR.1, Nat.le_trans (Nat.le_of_ble_eq_true rfl) hR.2⟩ (Nat.le_of_ble_eq_true rfl) hh_X4 lx_27 (cc4_tell er2) rfl ?_
    exact sa_iret C dX4_ahead_27 (sl_p1 h) (sl_p2 h)
  · replace h := sl_n c1 h
    refine sa_iload_n C dX4_ahead_7 rfl 2 rfl ?_
    refine sa_iconst C dX4_ahead_8 ic_0 ?_
    refine sa_aload_n C dX4_ahead_9 rfl 0 rfl ?_
    refine sa_getR C hh_X4 (k := 0) dX4_ahead_10 q_235 (by decide) lx_27 rfl ?_
    refine sa_getIN C hh_X0 (k := 8) dX4_ahead_13 q_138 (by decide) lx_0 rfl ?_
    refine sa_invSi C yy_X4_isWithin q_268 q_267 dX4_ahead_16 (As := [.int x2, .int (0 : Int32), .int (M 0 8)]) (rest := []) rfl ⟨Nat.le_trans (Nat.le_of_ble_eq_true rfl) hR.1, Nat.le_trans (Nat.le_of_ble_eq_true rfl) hR.2⟩ (Nat.le_of_ble_eq_true rfl) (cc4_isWithin rfl) rfl ?_
    refine sa_if_ne C dX4_ahead_19 (tgt := 28) (by decide) (fun c3 => ?_) (fun c3 => ?_)
    · replace h := sl_n c3 h
      refine sa_aload_n C dX4_ahead_28 rfl 0 rfl ?_
      refine sa_iload_n C dX4_ahead_29 rfl 1 rfl ?_
      refine sa_invVi C yy_X4_isTooLate ⟨q_495, q_22⟩ q_493 dX4_ahead_30 (As := [.int x1]) (rest := []) rfl ⟨Nat.le_trans (Nat.le_of_ble_eq_true rfl) hR.1, Nat.le_trans (Nat.le_of_ble_eq_true rfl) hR.2⟩ (Nat.le_of_ble_eq_true rfl) hh_X4 lx_27 (cc4_isTooLate rfl) rfl ?_
      refine sa_if_eq C dX4_ahead_33 (tgt := 42) (by decide) (fun c4 => ?_) (fun c4 => ?_)
      · replace h := sl_t c4 h
        refine sa_aload_n C dX4_ahead_42 rfl 0 rfl ?_
        refine sa_iload_n C dX4_ahead_43 rfl 1 rfl ?_
        obtain ⟨r5, er5, h⟩ := sl_b h
        refine sa_invVv C yy_X4_tryYears ⟨q_512, q_25⟩ q_510 dX4_ahead_44 (As := [.int x1]) (rest := []) rfl ⟨Nat.le_trans (Nat.le_of_ble_eq_true rfl) hR.1, Nat.le_trans (Nat.le_of_ble_eq_true rfl) hR.2⟩ (Nat.le_of_ble_eq_true rfl) hh_X4 lx_27 (cc4_tryYears er5) rfl ?_
        refine sa_iload_n C dX4_ahead_47 rfl 2 rfl ?_
        refine sa_if_ne C dX4_ahead_48 (tgt := 61) (by decide) (fun c6 => ?_) (fun c6 => ?_)
        · replace h := sl_n c6 h
          refine sa_aload_n C dX4_ahead_61 rfl 0 rfl ?_
          refine sa_getR C hh_X4 (k := 1) dX4_ahead_62 q_236 (by decide) lx_27 rfl ?_
          refine sa_iload_n C dX4_ahead_65 rfl 2 rfl ?_
          refine sa_iconst C dX4_ahead_66 ic_1 ?_
          refine sa_isub C dX4_ahead_67 ?_
          obtain ⟨r7, er7, h⟩ := sl_b h
          refine sa_invVNi C yy_X0_taxOf ⟨q_428, q_17⟩ q_426 dX4_ahead_68 (As := [.int (x2 - (1 : Int32))]) (rest := []) rfl ⟨Nat.le_trans (Nat.le_of_ble_eq_true rfl) hR.1, Nat.le_trans (Nat.le_of_ble_eq_true rfl) hR.2⟩ (Nat.le_of_ble_eq_true rfl) hh_X0 lx_9 (cc0_taxOf sl_j1 er7) rfl ?_
          exact sa_iret C dX4_ahead_71 (sl_p1 h) (sl_p2 h)
        · replace h := sl_t c6 h
          refine sa_aload_n C dX4_ahead_51 rfl 0 rfl ?_
          refine sa_getR C hh_X4 (k := 1) dX4_ahead_52 q_236 (by decide) lx_27 rfl ?_
          obtain ⟨r8, er8, h⟩ := sl_b h
          refine sa_invVNi C yy_X0_allTax ⟨q_444, q_19⟩ q_442 dX4_ahead_55 (As := []) (rest := []) rfl ⟨Nat.le_trans (Nat.le_of_ble_eq_true rfl) hR.1, Nat.le_trans (Nat.le_of_ble_eq_true rfl) hR.2⟩ (Nat.le_of_ble_eq_true rfl) hh_X0 lx_9 (cc0_allTax sl_j1 er8) rfl ?_
          refine sa_goto C dX4_ahead_58 (tgt := 71) (by decide) ?_
          exact sa_iret C dX4_ahead_71 (sl_p1 h) (sl_p2 h)
      · replace h := sl_n c4 h
        refine sa_aload_n C dX4_ahead_36 rfl 0 rfl ?_
        refine sa_iconst C dX4_ahead_37 ic_4 ?_
        obtain ⟨r9, er9, h⟩ := sl_b h
        refine sa_invVi C yy_X4_tell ⟨q_272, q_0⟩ q_270 dX4_ahead_38 (As := [.int (4 : Int32)]) (rest := []) rfl ⟨Nat.le_trans (Nat.le_of_ble_eq_true rfl) hR.1, Nat.le_trans (Nat.le_of_ble_eq_true rfl) hR.2⟩ (Nat.le_of_ble_eq_true rfl) hh_X4 lx_27 (cc4_tell er9) rfl ?_
        exact sa_iret C dX4_ahead_41 (sl_p1 h) (sl_p2 h)
    · replace h := sl_t c3 h
      refine sa_aload_n C dX4_ahead_22 rfl 0 rfl ?_
      refine sa_iconst C dX4_ahead_23 ic_0 ?_
      obtain ⟨r10, er10, h⟩ := sl_b h
      refine sa_invVi C yy_X4_tell ⟨q_272, q_0⟩ q_270 dX4_ahead_24 (As := [.int (0 : Int32)]) (rest := []) rfl ⟨Nat.le_trans (Nat.le_of_ble_eq_true rfl) hR.1, Nat.le_trans (Nat.le_of_ble_eq_true rfl) hR.2⟩ (Nat.le_of_ble_eq_true rfl) hh_X4 lx_27 (cc4_tell er10) rfl ?_
      exact sa_iret C dX4_ahead_27 (sl_p1 h) (sl_p2 h)
/-! X4 lost -/
def f4_lost_49 (x1 : Int32) (x2 : Int32) : Nat → Int32 → sl_M → Option (Int32 × sl_M)
  | 0, _, _ => none
  | n + 1, x3, M => (if (60 : Int32) < x3 then (f4_tell (3 : Int32) M).bind fun r2 => some (r2.1, r2.2) else (f0_hasInSight 1 x1 x2 M).bind fun r3 => (if r3 = 0 then some (x3, M) else (f0_grow 1 (1 : Int32) M).bind fun r5 => f4_lost_49 x1 x2 n (x3 + (1 : Int32)) r5))
def f4_lost (x1 : Int32) (x2 : Int32) (M : sl_M) : Option (Int32 × sl_M) := (if (f4_isHouse x1 M) = 0 then (f4_tell (0 : Int32) M).bind fun r2 => some (r2.1, r2.2) else (if (f4_isCell x2) = 0 then (f4_tell (0 : Int32) M).bind fun r7 => some (r7.1, r7.2) else (if (f4_isTooLate (60 : Int32) M) = 0 then (f0_takeAll 1 0 M).bind fun r5 => f4_lost_49 x1 x2 400 (0 : Int32) r5 else (f4_tell (4 : Int32) M).bind fun r6 => some (r6.1, r6.2))))
theorem w4_lost_49 {D : va_G} {cA : ClassId} {g : Nat → Nat} {A : Nat → Prop} {z : sl_K} {l : Launch} {p : Program} {e : Env} {R : Room} {s : State} {m : MethodId} {args : Array Value} {below : List Frame} {meth : Method} {c : Code} (C : sl_C RX4 cX4_lost 4 (some .int) sl_cl LX D cA g A z p s m meth c) (hR : 5 ≤ R.frames ∧ 108 ≤ R.locals) {r : Int32 × sl_M} {x1 : Int32} {x2 : Int32} : ∀ (n : Nat) {x3 : Int32} {M : sl_M}, f4_lost_49 x1 x2 n x3 M = some r → sl_A sl_cl LX D cA g A p l e R s m args below meth c (MQ below (sl_Q sl_cl LX D cA g A (some (.int r.1)) r.2) args s 0 0 A) 4 49 [(0, .ref (g 27)), (1, .int x1), (2, .int x2), (3, .int x3)] [] M := by
  intro n
  induction n with
  | zero =>
    intro x3 M h
    exact absurd h.symm (Option.some_ne_none _)
  | succ n ih =>
    intro x3 M h
    rw [f4_lost_49] at h
    refine sa_iload_n C dX4_lost_49 rfl 3 rfl ?_
    refine sa_bipush C dX4_lost_50 bp_60 ?_
    refine sa_icmp_gt C dX4_lost_52 (tgt := 83) (by decide) (fun c1 => ?_) (fun c1 => ?_)
    · replace h := sl_t c1 h
      refine sa_aload_n C dX4_lost_83 rfl 0 rfl ?_
      refine sa_iconst C dX4_lost_84 ic_3 ?_
      obtain ⟨r2, er2, h⟩ := sl_b h
      refine sa_invVi C yy_X4_tell ⟨q_272, q_0⟩ q_270 dX4_lost_85 (As := [.int (3 : Int32)]) (rest := []) rfl ⟨Nat.le_trans (Nat.le_of_ble_eq_true rfl) hR.1, Nat.le_trans (Nat.le_of_ble_eq_true rfl) hR.2⟩ (Nat.le_of_ble_eq_true rfl) hh_X4 lx_27 (cc4_tell er2) rfl ?_
      exact sa_iret C dX4_lost_88 (sl_p1 h) (sl_p2 h)
    · replace h := sl_n c1 h
      refine sa_aload_n C dX4_lost_55 rfl 0 rfl ?_
      refine sa_getR C hh_X4 (k := 1) dX4_lost_56 q_236 (by decide) lx_27 rfl ?_
      refine sa_iload_n C dX4_lost_59 rfl 1 rfl ?_
      refine sa_iload_n C dX4_lost_60 rfl 2 rfl ?_
      obtain ⟨r3, er3, h⟩ := sl_b h
      refine sa_invVNi C yy_X0_hasInSight ⟨q_392, q_14⟩ q_390 dX4_lost_61 (As := [.int x1, .int x2]) (rest := []) rfl ⟨Nat.le_trans (Nat.le_of_ble_eq_true rfl) hR.1, Nat.le_trans (Nat.le_of_ble_eq_true rfl) hR.2⟩ (Nat.le_of_ble_eq_true rfl) hh_X0 lx_9 (cc0_hasInSight sl_j1 er3) rfl ?_
      refine sa_if_ne C dX4_lost_64 (tgt := 69) (by decide) (fun c4 => ?_) (fun c4 => ?_)
      · replace h := sl_n c4 h
        refine sa_aload_n C dX4_lost_69 rfl 0 rfl ?_
        refine sa_getR C hh_X4 (k := 1) dX4_lost_70 q_236 (by decide) lx_27 rfl ?_
        refine sa_iconst C dX4_lost_73 ic_1 ?_
        obtain ⟨r5, er5, h⟩ := sl_b h
        refine sa_invVNv C yy_X0_grow ⟨q_503, q_24⟩ q_501 dX4_lost_74 (As := [.int (1 : Int32)]) (rest := []) rfl ⟨Nat.le_trans (Nat.le_of_ble_eq_true rfl) hR.1, Nat.le_trans (Nat.le_of_ble_eq_true rfl) hR.2⟩ (Nat.le_of_ble_eq_true rfl) hh_X0 lx_9 (cc0_grow sl_j1 er5) rfl ?_
        refine sa_iinc C dX4_lost_77 3 rfl (v := (x3 + (1 : Int32))) (by rw [ic_1]) (by decide) (lv2 := [(3, .int (x3 + (1 : Int32))), (0, .ref (g 27)), (1, .int x1), (2, .int x2)]) rfl ?_
        refine sa_goto C dX4_lost_80 (tgt := 49) (by decide) ?_
        exact sa_sub [1, 2, 3, 0] rfl (ih h)
      · replace h := sl_t c4 h
        refine sa_iload_n C dX4_lost_67 rfl 3 rfl ?_
        exact sa_iret C dX4_lost_68 (sl_p1 h) (sl_p2 h)
theorem cc4_lost {D : va_G} {cA : ClassId} {g : Nat → Nat} {A : Nat → Prop} {z : sl_K} {l : Launch} {x1 : Int32} {x2 : Int32} {M : sl_M} {r : Int32 × sl_M} (h : f4_lost x1 x2 M = some r) : sl_N sl_cl LX D cA g A z l yX4_lost cX4_lost 4 (some .int) 5 108 [.ref (g 27), .int x1, .int x2] M (some (.int r.1)) r.2 := by
  refine sl_N.of (by decide) (Nat.le_of_ble_eq_true rfl) rfl ?_
  intro p e s m args below meth c C
  replace C : sl_C RX4 cX4_lost 4 (some .int) sl_cl LX D cA g A z p s m meth c := C
  have hR : 5 ≤ (({ frames := 5, cells := 0, slots := 0, locals := 108 } : Room)).frames ∧ 108 ≤ (({ frames := 5, cells := 0, slots := 0, locals := 108 } : Room)).locals := ⟨Nat.le_refl _, Nat.le_refl _⟩
  rw [f4_lost] at h
  refine sa_aload_n C dX4_lost_0 rfl 0 rfl ?_
  refine sa_iload_n C dX4_lost_1 rfl 1 rfl ?_
  refine sa_invVi C yy_X4_isHouse ⟨q_335, q_8⟩ q_333 dX4_lost_2 (As := [.int x1]) (rest := []) rfl ⟨Nat.le_trans (Nat.le_of_ble_eq_true rfl) hR.1, Nat.le_trans (Nat.le_of_ble_eq_true rfl) hR.2⟩ (Nat.le_of_ble_eq_true rfl) hh_X4 lx_27 (cc4_isHouse rfl) rfl ?_
  refine sa_if_eq C dX4_lost_5 (tgt := 15) (by decide) (fun c1 => ?_) (fun c1 => ?_)
  · replace h := sl_t c1 h
    refine sa_aload_n C dX4_lost_15 rfl 0 rfl ?_
    refine sa_iconst C dX4_lost_16 ic_0 ?_
    obtain ⟨r2, er2, h⟩ := sl_b h
    refine sa_invVi C yy_X4_tell ⟨q_272, q_0⟩ q_270 dX4_lost_17 (As := [.int (0 : Int32)]) (rest := []) rfl ⟨Nat.le_trans (Nat.le_of_ble_eq_true rfl) hR.1, Nat.le_trans (Nat.le_of_ble_eq_true rfl) hR.2⟩ (Nat.le_of_ble_eq_true rfl) hh_X4 lx_27 (cc4_tell er2) rfl ?_
    exact sa_iret C dX4_lost_20 (sl_p1 h) (sl_p2 h)
  · replace h := sl_n c1 h
    refine sa_iload_n C dX4_lost_8 rfl 2 rfl ?_
    refine sa_invSi C yy_X4_isCell q_265 q_264 dX4_lost_9 (As := [.int x2]) (rest := []) rfl ⟨Nat.le_trans (Nat.le_of_ble_eq_true rfl) hR.1, Nat.le_trans (Nat.le_of_ble_eq_true rfl) hR.2⟩ (Nat.le_of_ble_eq_true rfl) (cc4_isCell rfl) rfl ?_
    refine sa_if_ne C dX4_lost_12 (tgt := 21) (by decide) (fun c3 => ?_) (fun c3 => ?_)
    · replace h := sl_n c3 h
      refine sa_aload_n C dX4_lost_21 rfl 0 rfl ?_
      refine sa_bipush C dX4_lost_22 bp_60 ?_
      refine sa_invVi C yy_X4_isTooLate ⟨q_495, q_22⟩ q_493 dX4_lost_24 (As := [.int (60 : Int32)]) (rest := []) rfl ⟨Nat.le_trans (Nat.le_of_ble_eq_true rfl) hR.1, Nat.le_trans (Nat.le_of_ble_eq_true rfl) hR.2⟩ (Nat.le_of_ble_eq_true rfl) hh_X4 lx_27 (cc4_isTooLate rfl) rfl ?_
      refine sa_if_eq C dX4_lost_27 (tgt := 36) (by decide) (fun c4 => ?_) (fun c4 => ?_)
      · replace h := sl_t c4 h
        refine sa_aload_n C dX4_lost_36 rfl 0 rfl ?_
        refine sa_getR C hh_X4 (k := 1) dX4_lost_37 q_236 (by decide) lx_27 rfl ?_
        refine sa_aload_n C dX4_lost_40 rfl 0 rfl ?_
        refine sa_getR C hh_X4 (k := 0) dX4_lost_41 q_235 (by decide) lx_27 rfl ?_
        obtain ⟨r5, er5, h⟩ := sl_b h
        refine sa_invVNv C yy_X0_takeAll ⟨q_457, q_21⟩ q_455 dX4_lost_44 (As := [.ref (g 0)]) (rest := []) rfl ⟨Nat.le_trans (Nat.le_of_ble_eq_true rfl) hR.1, Nat.le_trans (Nat.le_of_ble_eq_true rfl) hR.2⟩ (Nat.le_of_ble_eq_true rfl) hh_X0 lx_9 (cc0_takeAll sl_j1 sl_j0 er5) rfl ?_
        refine sa_iconst C dX4_lost_47 ic_0 ?_
        refine sa_istore_n C dX4_lost_48 rfl (by decide) (lv2 := [(3, .int (0 : Int32)), (0, .ref (g 27)), (1, .int x1), (2, .int x2)]) rfl ?_
        exact sa_sub [1, 2, 3, 0] rfl (w4_lost_49 C hR 400 h)
      · replace h := sl_n c4 h
        refine sa_aload_n C dX4_lost_30 rfl 0 rfl ?_
        refine sa_iconst C dX4_lost_31 ic_4 ?_
        obtain ⟨r6, er6, h⟩ := sl_b h
        refine sa_invVi C yy_X4_tell ⟨q_272, q_0⟩ q_270 dX4_lost_32 (As := [.int (4 : Int32)]) (rest := []) rfl ⟨Nat.le_trans (Nat.le_of_ble_eq_true rfl) hR.1, Nat.le_trans (Nat.le_of_ble_eq_true rfl) hR.2⟩ (Nat.le_of_ble_eq_true rfl) hh_X4 lx_27 (cc4_tell er6) rfl ?_
        exact sa_iret C dX4_lost_35 (sl_p1 h) (sl_p2 h)
    · replace h := sl_t c3 h
      refine sa_aload_n C dX4_lost_15 rfl 0 rfl ?_
      refine sa_iconst C dX4_lost_16 ic_0 ?_
      obtain ⟨r7, er7, h⟩ := sl_b h
      refine sa_invVi C yy_X4_tell ⟨q_272, q_0⟩ q_270 dX4_lost_17 (As := [.int (0 : Int32)]) (rest := []) rfl ⟨Nat.le_trans (Nat.le_of_ble_eq_true rfl) hR.1, Nat.le_trans (Nat.le_of_ble_eq_true rfl) hR.2⟩ (Nat.le_of_ble_eq_true rfl) hh_X4 lx_27 (cc4_tell er7) rfl ?_
      exact sa_iret C dX4_lost_20 (sl_p1 h) (sl_p2 h)
/-! X4 when -/
def f4_when_80 (k47 : Int32 → Int32 → Int32 → sl_M → Option (Int32 × sl_M)) (x1 : Int32) (x2 : Int32) (x3 : Int32) (x4 : Int32) (M : sl_M) : Option (Int32 × sl_M) := (f0_grow 1 (1 : Int32) M).bind fun r1 => k47 x2 x3 (x4 + (1 : Int32)) r1
def f4_when_74 (k47 : Int32 → Int32 → Int32 → sl_M → Option (Int32 × sl_M)) (x1 : Int32) (x4 : Int32) (x5 : Int32) (M : sl_M) : Option (Int32 × sl_M) := f4_when_80 k47 x1 x4 x5 x4 M
def f4_when_47 (x1 : Int32) : Nat → Int32 → Int32 → Int32 → sl_M → Option (Int32 × sl_M)
  | 0, _, _, _, _ => none
  | n + 1, x2, x3, x4, M => (if (60 : Int32) < x4 then some (x2, M) else (f0_taxOf 1 x1 M).bind fun r2 => (if x2 < 0 then f4_when_74 (f4_when_47 x1 n) x1 x4 r2 M else (if x3 ≤ r2 then f4_when_80 (f4_when_47 x1 n) x1 x2 x3 x4 M else f4_when_74 (f4_when_47 x1 n) x1 x4 r2 M)))
def f4_when (x1 : Int32) (M : sl_M) : Option (Int32 × sl_M) := (if (f4_isHouse x1 M) = 0 then (f4_tell (0 : Int32) M).bind fun r5 => some (r5.1, r5.2) else (if (f4_isTooLate (60 : Int32) M) = 0 then (f0_takeAll 1 0 M).bind fun r3 => f4_when_47 x1 400 (-1 : Int32) (0 : Int32) (0 : Int32) r3 else (f4_tell (4 : Int32) M).bind fun r4 => some (r4.1, r4.2)))
theorem w4_when_80 {D : va_G} {cA : ClassId} {g : Nat → Nat} {A : Nat → Prop} {z : sl_K} {l : Launch} {p : Program} {e : Env} {R : Room} {s : State} {m : MethodId} {args : Array Value} {below : List Frame} {meth : Method} {c : Code} (C : sl_C RX4 cX4_when 6 (some .int) sl_cl LX D cA g A z p s m meth c) (hR : 5 ≤ R.frames ∧ 119 ≤ R.locals) {M : sl_M} {r : Int32 × sl_M} {x1 : Int32} {x2 : Int32} {x3 : Int32} {x4 : Int32} {k47 : Int32 → Int32 → Int32 → sl_M → Option (Int32 × sl_M)} (hk47 : ∀ {x2 : Int32} {x3 : Int32} {x4 : Int32} {M : sl_M}, k47 x2 x3 x4 M = some r → sl_A sl_cl LX D cA g A p l e R s m args below meth c (MQ below (sl_Q sl_cl LX D cA g A (some (.int r.1)) r.2) args s 0 0 A) 6 47 [(0, .ref (g 27)), (1, .int x1), (2, .int x2), (3, .int x3), (4, .int x4)] [] M) (h : f4_when_80 k47 x1 x2 x3 x4 M = some r) : sl_A sl_cl LX D cA g A p l e R s m args below meth c (MQ below (sl_Q sl_cl LX D cA g A (some (.int r.1)) r.2) args s 0 0 A) 6 80 [(0, .ref (g 27)), (1, .int x1), (2, .int x2), (3, .int x3), (4, .int x4)] [] M := by
  rw [f4_when_80] at h
  refine sa_aload_n C dX4_when_80 rfl 0 rfl ?_
  refine sa_getR C hh_X4 (k := 1) dX4_when_81 q_236 (by decide) lx_27 rfl ?_
  refine sa_iconst C dX4_when_84 ic_1 ?_
  obtain ⟨r1, er1, h⟩ := sl_b h
  refine sa_invVNv C yy_X0_grow ⟨q_503, q_24⟩ q_501 dX4_when_85 (As := [.int (1 : Int32)]) (rest := []) rfl ⟨Nat.le_trans (Nat.le_of_ble_eq_true rfl) hR.1, Nat.le_trans (Nat.le_of_ble_eq_true rfl) hR.2⟩ (Nat.le_of_ble_eq_true rfl) hh_X0 lx_9 (cc0_grow sl_j1 er1) rfl ?_
  refine sa_iinc C dX4_when_88 4 rfl (v := (x4 + (1 : Int32))) (by rw [ic_1]) (by decide) (lv2 := [(4, .int (x4 + (1 : Int32))), (0, .ref (g 27)), (1, .int x1), (2, .int x2), (3, .int x3)]) rfl ?_
  refine sa_goto C dX4_when_91 (tgt := 47) (by decide) ?_
  exact sa_sub [1, 2, 3, 4, 0] rfl (hk47 h)
theorem w4_when_74 {D : va_G} {cA : ClassId} {g : Nat → Nat} {A : Nat → Prop} {z : sl_K} {l : Launch} {p : Program} {e : Env} {R : Room} {s : State} {m : MethodId} {args : Array Value} {below : List Frame} {meth : Method} {c : Code} (C : sl_C RX4 cX4_when 6 (some .int) sl_cl LX D cA g A z p s m meth c) (hR : 5 ≤ R.frames ∧ 119 ≤ R.locals) {M : sl_M} {r : Int32 × sl_M} {x1 : Int32} {x4 : Int32} {x5 : Int32} {k47 : Int32 → Int32 → Int32 → sl_M → Option (Int32 × sl_M)} (hk47 : ∀ {x2 : Int32} {x3 : Int32} {x4 : Int32} {M : sl_M}, k47 x2 x3 x4 M = some r → sl_A sl_cl LX D cA g A p l e R s m args below meth c (MQ below (sl_Q sl_cl LX D cA g A (some (.int r.1)) r.2) args s 0 0 A) 6 47 [(0, .ref (g 27)), (1, .int x1), (2, .int x2), (3, .int x3), (4, .int x4)] [] M) (h : f4_when_74 k47 x1 x4 x5 M = some r) : sl_A sl_cl LX D cA g A p l e R s m args below meth c (MQ below (sl_Q sl_cl LX D cA g A (some (.int r.1)) r.2) args s 0 0 A) 6 74 [(0, .ref (g 27)), (1, .int x1), (4, .int x4), (5, .int x5)] [] M := by
  rw [f4_when_74] at h
  refine sa_iload C dX4_when_74 3 rfl ?_
  refine sa_istore_n C dX4_when_76 rfl (by decide) (lv2 := [(3, .int x5), (0, .ref (g 27)), (1, .int x1), (4, .int x4), (5, .int x5)]) rfl ?_
  refine sa_iload C dX4_when_77 3 rfl ?_
  refine sa_istore_n C dX4_when_79 rfl (by decide) (lv2 := [(2, .int x4), (3, .int x5), (0, .ref (g 27)), (1, .int x1), (4, .int x4), (5, .int x5)]) rfl ?_
  exact sa_sub [2, 3, 0, 1, 4] rfl (w4_when_80 C hR (fun h => hk47 h) h)
theorem w4_when_47 {D : va_G} {cA : ClassId} {g : Nat → Nat} {A : Nat → Prop} {z : sl_K} {l : Launch} {p : Program} {e : Env} {R : Room} {s : State} {m : MethodId} {args : Array Value} {below : List Frame} {meth : Method} {c : Code} (C : sl_C RX4 cX4_when 6 (some .int) sl_cl LX D cA g A z p s m meth c) (hR : 5 ≤ R.frames ∧ 119 ≤ R.locals) {r : Int32 × sl_M} {x1 : Int32} : ∀ (n : Nat) {x2 : Int32} {x3 : Int32} {x4 : Int32} {M : sl_M}, f4_when_47 x1 n x2 x3 x4 M = some r → sl_A sl_cl LX D cA g A p l e R s m args below meth c (MQ below (sl_Q sl_cl LX D cA g A (some (.int r.1)) r.2) args s 0 0 A) 6 47 [(0, .ref (g 27)), (1, .int x1), (2, .int x2), (3, .int x3), (4, .int x4)] [] M := by
  intro n
  induction n with
  | zero =>
    intro x2 x3 x4 M h
    exact absurd h.symm (Option.some_ne_none _)
  | succ n ih =>
    intro x2 x3 x4 M h
    rw [f4_when_47] at h
    refine sa_iload C dX4_when_47 4 rfl ?_
    refine sa_bipush C dX4_when_49 bp_60 ?_
    refine sa_icmp_gt C dX4_when_51 (tgt := 94) (by decide) (fun c1 => ?_) (fun c1 => ?_)
    · replace h := sl_t c1 h
      refine sa_iload_n C dX4_when_94 rfl 2 rfl ?_
      exact sa_iret C dX4_when_95 (sl_p1 h) (sl_p2 h)
    · replace h := sl_n c1 h
      refine sa_aload_n C dX4_when_54 rfl 0 rfl ?_
      refine sa_getR C hh_X4 (k := 1) dX4_when_55 q_236 (by decide) lx_27 rfl ?_
      refine sa_iload_n C dX4_when_58 rfl 1 rfl ?_
      obtain ⟨r2, er2, h⟩ := sl_b h
      refine sa_invVNi C yy_X0_taxOf ⟨q_428, q_17⟩ q_426 dX4_when_59 (As := [.int x1]) (rest := []) rfl ⟨Nat.le_trans (Nat.le_of_ble_eq_true rfl) hR.1, Nat.le_trans (Nat.le_of_ble_eq_true rfl) hR.2⟩ (Nat.le_of_ble_eq_true rfl) hh_X0 lx_9 (cc0_taxOf sl_j1 er2) rfl ?_
      refine sa_istore C dX4_when_62 (by decide) (lv2 := [(5, .int r2), (0, .ref (g 27)), (1, .int x1), (2, .int x2), (3, .int x3), (4, .int x4)]) rfl ?_
      refine sa_iload_n C dX4_when_64 rfl 3 rfl ?_
      refine sa_if_lt C dX4_when_65 (tgt := 74) (by decide) (fun c3 => ?_) (fun c3 => ?_)
      · replace h := sl_t c3 h
        exact sa_sub [1, 2, 5, 0] rfl (w4_when_74 C hR (fun h => ih h) h)
      · replace h := sl_n c3 h
        refine sa_iload C dX4_when_68 0 rfl ?_
        refine sa_iload_n C dX4_when_70 rfl 4 rfl ?_
        refine sa_icmp_ge C dX4_when_71 (tgt := 80) (by decide) (fun c4 => ?_) (fun c4 => ?_)
        · replace h := sl_t c4 h
          exact sa_sub [1, 2, 3, 4, 5] rfl (w4_when_80 C hR (fun h => ih h) h)
        · replace h := sl_n c4 h
          exact sa_sub [1, 2, 5, 0] rfl (w4_when_74 C hR (fun h => ih h) h)
theorem cc4_when {D : va_G} {cA : ClassId} {g : Nat → Nat} {A : Nat → Prop} {z : sl_K} {l : Launch} {x1 : Int32} {M : sl_M} {r : Int32 × sl_M} (h : f4_when x1 M = some r) : sl_N sl_cl LX D cA g A z l yX4_when cX4_when 6 (some .int) 5 119 [.ref (g 27), .int x1] M (some (.int r.1)) r.2 := by
  refine sl_N.of (by decide) (Nat.le_of_ble_eq_true rfl) rfl ?_
  intro p e s m args below meth c C
  replace C : sl_C RX4 cX4_when 6 (some .int) sl_cl LX D cA g A z p s m meth c := C
  have hR : 5 ≤ (({ frames := 5, cells := 0, slots := 0, locals := 119 } : Room)).frames ∧ 119 ≤ (({ frames := 5, cells := 0, slots := 0, locals := 119 } : Room)).locals := ⟨Nat.le_refl _, Nat.le_refl _⟩
  rw [f4_when] at h
  refine sa_aload_n C dX4_when_0 rfl 0 rfl ?_
  refine sa_iload_n C dX4_when_1 rfl 1 rfl ?_
  refine sa_invVi C yy_X4_isHouse ⟨q_335, q_8⟩ q_333 dX4_when_2 (As := [.int x1]) (rest := []) rfl ⟨Nat.le_trans (Nat.le_of_ble_eq_true rfl) hR.1, Nat.le_trans (Nat.le_of_ble_eq_true rfl) hR.2⟩ (Nat.le_of_ble_eq_true rfl) hh_X4 lx_27 (cc4_isHouse rfl) rfl ?_
  refine sa_if_ne C dX4_when_5 (tgt := 14) (by decide) (fun c1 => ?_) (fun c1 => ?_)
  · replace h := sl_n c1 h
    refine sa_aload_n C dX4_when_14 rfl 0 rfl ?_
    refine sa_bipush C dX4_when_15 bp_60 ?_
    refine sa_invVi C yy_X4_isTooLate ⟨q_495, q_22⟩ q_493 dX4_when_17 (As := [.int (60 : Int32)]) (rest := []) rfl ⟨Nat.le_trans (Nat.le_of_ble_eq_true rfl) hR.1, Nat.le_trans (Nat.le_of_ble_eq_true rfl) hR.2⟩ (Nat.le_of_ble_eq_true rfl) hh_X4 lx_27 (cc4_isTooLate rfl) rfl ?_
    refine sa_if_eq C dX4_when_20 (tgt := 29) (by decide) (fun c2 => ?_) (fun c2 => ?_)
    · replace h := sl_t c2 h
      refine sa_aload_n C dX4_when_29 rfl 0 rfl ?_
      refine sa_getR C hh_X4 (k := 1) dX4_when_30 q_236 (by decide) lx_27 rfl ?_
      refine sa_aload_n C dX4_when_33 rfl 0 rfl ?_
      refine sa_getR C hh_X4 (k := 0) dX4_when_34 q_235 (by decide) lx_27 rfl ?_
      obtain ⟨r3, er3, h⟩ := sl_b h
      refine sa_invVNv C yy_X0_takeAll ⟨q_457, q_21⟩ q_455 dX4_when_37 (As := [.ref (g 0)]) (rest := []) rfl ⟨Nat.le_trans (Nat.le_of_ble_eq_true rfl) hR.1, Nat.le_trans (Nat.le_of_ble_eq_true rfl) hR.2⟩ (Nat.le_of_ble_eq_true rfl) hh_X0 lx_9 (cc0_takeAll sl_j1 sl_j0 er3) rfl ?_
      refine sa_iconst C dX4_when_40 ic_m1 ?_
      refine sa_istore_n C dX4_when_41 rfl (by decide) (lv2 := [(2, .int (-1 : Int32)), (0, .ref (g 27)), (1, .int x1)]) rfl ?_
      refine sa_iconst C dX4_when_42 ic_0 ?_
      refine sa_istore_n C dX4_when_43 rfl (by decide) (lv2 := [(3, .int (0 : Int32)), (2, .int (-1 : Int32)), (0, .ref (g 27)), (1, .int x1)]) rfl ?_
      refine sa_iconst C dX4_when_44 ic_0 ?_
      refine sa_istore C dX4_when_45 (by decide) (lv2 := [(4, .int (0 : Int32)), (3, .int (0 : Int32)), (2, .int (-1 : Int32)), (0, .ref (g 27)), (1, .int x1)]) rfl ?_
      exact sa_sub [3, 4, 2, 1, 0] rfl (w4_when_47 C hR 400 h)
    · replace h := sl_n c2 h
      refine sa_aload_n C dX4_when_23 rfl 0 rfl ?_
      refine sa_iconst C dX4_when_24 ic_4 ?_
      obtain ⟨r4, er4, h⟩ := sl_b h
      refine sa_invVi C yy_X4_tell ⟨q_272, q_0⟩ q_270 dX4_when_25 (As := [.int (4 : Int32)]) (rest := []) rfl ⟨Nat.le_trans (Nat.le_of_ble_eq_true rfl) hR.1, Nat.le_trans (Nat.le_of_ble_eq_true rfl) hR.2⟩ (Nat.le_of_ble_eq_true rfl) hh_X4 lx_27 (cc4_tell er4) rfl ?_
      exact sa_iret C dX4_when_28 (sl_p1 h) (sl_p2 h)
  · replace h := sl_t c1 h
    refine sa_aload_n C dX4_when_8 rfl 0 rfl ?_
    refine sa_iconst C dX4_when_9 ic_0 ?_
    obtain ⟨r5, er5, h⟩ := sl_b h
    refine sa_invVi C yy_X4_tell ⟨q_272, q_0⟩ q_270 dX4_when_10 (As := [.int (0 : Int32)]) (rest := []) rfl ⟨Nat.le_trans (Nat.le_of_ble_eq_true rfl) hR.1, Nat.le_trans (Nat.le_of_ble_eq_true rfl) hR.2⟩ (Nat.le_of_ble_eq_true rfl) hh_X4 lx_27 (cc4_tell er5) rfl ?_
    exact sa_iret C dX4_when_13 (sl_p1 h) (sl_p2 h)
/-! X4 quake -/
def f4_quake_62 : Nat → Int32 → Int32 → sl_M → Option (Int32 × sl_M)
  | 0, _, _, _ => none
  | n + 1, x2, x3, M => (if (24 : Int32) ≤ x3 then some (x2, M) else (sl_ld (M 2) 24 x3).bind fun v2 => f4_quake_62 n (x2 + v2) (x3 + (1 : Int32)) M)
def f4_quake_18 (x1 : Int32) : Nat → Int32 → sl_M → Option (Int32 × sl_M)
  | 0, _, _ => none
  | n + 1, x2, M => (if x1 ≤ x2 then f4_quake_62 400 (0 : Int32) (0 : Int32) M else (f0_draw 0 M).bind fun r2 => (f0_draw 0 r2.2).bind fun r3 => (f0_raiseTo 0 (r2.1 - r2.1 / (24 : Int32) * (24 : Int32)) (r3.1 - r3.1 / (100 : Int32) * (100 : Int32)) r3.2).bind fun r4 => f4_quake_18 x1 n (x2 + (1 : Int32)) r4)
def f4_quake (x1 : Int32) (M : sl_M) : Option (Int32 × sl_M) := (if (f4_isWithin x1 (1 : Int32) (10 : Int32)) = 0 then (f4_tell (0 : Int32) M).bind fun r2 => some (r2.1, r2.2) else f4_quake_18 x1 400 (0 : Int32) M)
theorem w4_quake_62 {D : va_G} {cA : ClassId} {g : Nat → Nat} {A : Nat → Prop} {z : sl_K} {l : Launch} {p : Program} {e : Env} {R : Room} {s : State} {m : MethodId} {args : Array Value} {below : List Frame} {meth : Method} {c : Code} (C : sl_C RX4 cX4_quake 4 (some .int) sl_cl LX D cA g A z p s m meth c) (hR : 4 ≤ R.frames ∧ 86 ≤ R.locals) {r : Int32 × sl_M} : ∀ (n : Nat) {x2 : Int32} {x3 : Int32} {M : sl_M}, f4_quake_62 n x2 x3 M = some r → sl_A sl_cl LX D cA g A p l e R s m args below meth c (MQ below (sl_Q sl_cl LX D cA g A (some (.int r.1)) r.2) args s 0 0 A) 4 62 [(0, .ref (g 27)), (2, .int x2), (3, .int x3)] [] M := by
  intro n
  induction n with
  | zero =>
    intro x2 x3 M h
    exact absurd h.symm (Option.some_ne_none _)
  | succ n ih =>
    intro x2 x3 M h
    rw [f4_quake_62] at h
    refine sa_iload_n C dX4_quake_62 rfl 2 rfl ?_
    refine sa_bipush C dX4_quake_63 bp_24 ?_
    refine sa_icmp_ge C dX4_quake_65 (tgt := 86) (by decide) (fun c1 => ?_) (fun c1 => ?_)
    · replace h := sl_t c1 h
      refine sa_iload_n C dX4_quake_86 rfl 1 rfl ?_
      exact sa_iret C dX4_quake_87 (sl_p1 h) (sl_p2 h)
    · replace h := sl_n c1 h
      refine sa_iload_n C dX4_quake_68 rfl 1 rfl ?_
      refine sa_aload_n C dX4_quake_69 rfl 0 rfl ?_
      refine sa_getR C hh_X4 (k := 0) dX4_quake_70 q_235 (by decide) lx_27 rfl ?_
      refine sa_getRN C hh_X0 (k := 1) dX4_quake_73 q_124 (by decide) lx_0 rfl ?_
      refine sa_iload_n C dX4_quake_76 rfl 2 rfl ?_
      obtain ⟨v2, ev2, h⟩ := sl_b h
      refine sa_iald C dX4_quake_77 lx_2 ev2 ?_
      refine sa_iadd C dX4_quake_78 ?_
      refine sa_istore_n C dX4_quake_79 rfl (by decide) (lv2 := [(2, .int (x2 + v2)), (0, .ref (g 27)), (3, .int x3)]) rfl ?_
      refine sa_iinc C dX4_quake_80 2 rfl (v := (x3 + (1 : Int32))) (by rw [ic_1]) (by decide) (lv2 := [(3, .int (x3 + (1 : Int32))), (2, .int (x2 + v2)), (0, .ref (g 27))]) rfl ?_
      refine sa_goto C dX4_quake_83 (tgt := 62) (by decide) ?_
      exact sa_sub [2, 1, 0] rfl (ih h)
theorem w4_quake_18 {D : va_G} {cA : ClassId} {g : Nat → Nat} {A : Nat → Prop} {z : sl_K} {l : Launch} {p : Program} {e : Env} {R : Room} {s : State} {m : MethodId} {args : Array Value} {below : List Frame} {meth : Method} {c : Code} (C : sl_C RX4 cX4_quake 4 (some .int) sl_cl LX D cA g A z p s m meth c) (hR : 4 ≤ R.frames ∧ 86 ≤ R.locals) {r : Int32 × sl_M} {x1 : Int32} : ∀ (n : Nat) {x2 : Int32} {M : sl_M}, f4_quake_18 x1 n x2 M = some r → sl_A sl_cl LX D cA g A p l e R s m args below meth c (MQ below (sl_Q sl_cl LX D cA g A (some (.int r.1)) r.2) args s 0 0 A) 4 18 [(0, .ref (g 27)), (1, .int x1), (2, .int x2)] [] M := by
  intro n
  induction n with
  | zero =>
    intro x2 M h
    exact absurd h.symm (Option.some_ne_none _)
  | succ n ih =>
    intro x2 M h
    rw [f4_quake_18] at h
    refine sa_iload_n C dX4_quake_18 rfl 2 rfl ?_
    refine sa_iload_n C dX4_quake_19 rfl 1 rfl ?_
    refine sa_icmp_ge C dX4_quake_20 (tgt := 58) (by decide) (fun c1 => ?_) (fun c1 => ?_)
    · replace h := sl_t c1 h
      refine sa_iconst C dX4_quake_58 ic_0 ?_
      refine sa_istore_n C dX4_quake_59 rfl (by decide) (lv2 := [(2, .int (0 : Int32)), (0, .ref (g 27)), (1, .int x1)]) rfl ?_
      refine sa_iconst C dX4_quake_60 ic_0 ?_
      refine sa_istore_n C dX4_quake_61 rfl (by decide) (lv2 := [(3, .int (0 : Int32)), (2, .int (0 : Int32)), (0, .ref (g 27)), (1, .int x1)]) rfl ?_
      exact sa_sub [2, 1, 0] rfl (w4_quake_62 C hR 400 h)
    · replace h := sl_n c1 h
      refine sa_aload_n C dX4_quake_23 rfl 0 rfl ?_
      refine sa_getR C hh_X4 (k := 0) dX4_quake_24 q_235 (by decide) lx_27 rfl ?_
      obtain ⟨r2, er2, h⟩ := sl_b h
      refine sa_invVNi C yy_X0_draw ⟨q_581, q_29⟩ q_579 dX4_quake_27 (As := []) (rest := []) rfl ⟨Nat.le_trans (Nat.le_of_ble_eq_true rfl) hR.1, Nat.le_trans (Nat.le_of_ble_eq_true rfl) hR.2⟩ (Nat.le_of_ble_eq_true rfl) hh_X0 lx_0 (cc0_draw sl_j0 er2) rfl ?_
      refine sa_bipush C dX4_quake_30 bp_24 ?_
      refine sa_iremc C dX4_quake_32 (by decide) ?_
      refine sa_istore_n C dX4_quake_33 rfl (by decide) (lv2 := [(3, .int (r2.1 - r2.1 / (24 : Int32) * (24 : Int32))), (0, .ref (g 27)), (1, .int x1), (2, .int x2)]) rfl ?_
      refine sa_aload_n C dX4_quake_34 rfl 1 rfl ?_
      refine sa_getR C hh_X4 (k := 0) dX4_quake_35 q_235 (by decide) lx_27 rfl ?_
      refine sa_iload_n C dX4_quake_38 rfl 0 rfl ?_
      refine sa_aload_n C dX4_quake_39 rfl 1 rfl ?_
      refine sa_getR C hh_X4 (k := 0) dX4_quake_40 q_235 (by decide) lx_27 rfl ?_
      obtain ⟨r3, er3, h⟩ := sl_b h
      refine sa_invVNi C yy_X0_draw ⟨q_581, q_29⟩ q_579 dX4_quake_43 (As := []) (rest := [.int (r2.1 - r2.1 / (24 : Int32) * (24 : Int32)), .ref (g 0)]) rfl ⟨Nat.le_trans (Nat.le_of_ble_eq_true rfl) hR.1, Nat.le_trans (Nat.le_of_ble_eq_true rfl) hR.2⟩ (Nat.le_of_ble_eq_true rfl) hh_X0 lx_0 (cc0_draw sl_j0 er3) rfl ?_
      refine sa_bipush C dX4_quake_46 bp_100 ?_
      refine sa_iremc C dX4_quake_48 (by decide) ?_
      obtain ⟨r4, er4, h⟩ := sl_b h
      refine sa_invVNv C yy_X0_raiseTo ⟨q_277, q_1⟩ q_275 dX4_quake_49 (As := [.int (r2.1 - r2.1 / (24 : Int32) * (24 : Int32)), .int (r3.1 - r3.1 / (100 : Int32) * (100 : Int32))]) (rest := []) rfl ⟨Nat.le_trans (Nat.le_of_ble_eq_true rfl) hR.1, Nat.le_trans (Nat.le_of_ble_eq_true rfl) hR.2⟩ (Nat.le_of_ble_eq_true rfl) hh_X0 lx_0 (cc0_raiseTo sl_j0 er4) rfl ?_
      refine sa_iinc C dX4_quake_52 3 rfl (v := (x2 + (1 : Int32))) (by rw [ic_1]) (by decide) (lv2 := [(2, .int (x2 + (1 : Int32))), (3, .int (r2.1 - r2.1 / (24 : Int32) * (24 : Int32))), (0, .ref (g 27)), (1, .int x1)]) rfl ?_
      refine sa_goto C dX4_quake_55 (tgt := 18) (by decide) ?_
      exact sa_sub [2, 3, 0] rfl (ih h)
theorem cc4_quake {D : va_G} {cA : ClassId} {g : Nat → Nat} {A : Nat → Prop} {z : sl_K} {l : Launch} {x1 : Int32} {M : sl_M} {r : Int32 × sl_M} (h : f4_quake x1 M = some r) : sl_N sl_cl LX D cA g A z l yX4_quake cX4_quake 4 (some .int) 4 86 [.ref (g 27), .int x1] M (some (.int r.1)) r.2 := by
  refine sl_N.of (by decide) (Nat.le_of_ble_eq_true rfl) rfl ?_
  intro p e s m args below meth c C
  replace C : sl_C RX4 cX4_quake 4 (some .int) sl_cl LX D cA g A z p s m meth c := C
  have hR : 4 ≤ (({ frames := 4, cells := 0, slots := 0, locals := 86 } : Room)).frames ∧ 86 ≤ (({ frames := 4, cells := 0, slots := 0, locals := 86 } : Room)).locals := ⟨Nat.le_refl _, Nat.le_refl _⟩
  rw [f4_quake] at h
  refine sa_iload_n C dX4_quake_0 rfl 1 rfl ?_
  refine sa_iconst C dX4_quake_1 ic_1 ?_
  refine sa_bipush C dX4_quake_2 bp_10 ?_
  refine sa_invSi C yy_X4_isWithin q_268 q_267 dX4_quake_4 (As := [.int x1, .int (1 : Int32), .int (10 : Int32)]) (rest := []) rfl ⟨Nat.le_trans (Nat.le_of_ble_eq_true rfl) hR.1, Nat.le_trans (Nat.le_of_ble_eq_true rfl) hR.2⟩ (Nat.le_of_ble_eq_true rfl) (cc4_isWithin rfl) rfl ?_
  refine sa_if_ne C dX4_quake_7 (tgt := 16) (by decide) (fun c1 => ?_) (fun c1 => ?_)
  · replace h := sl_n c1 h
    refine sa_iconst C dX4_quake_16 ic_0 ?_
    refine sa_istore_n C dX4_quake_17 rfl (by decide) (lv2 := [(2, .int (0 : Int32)), (0, .ref (g 27)), (1, .int x1)]) rfl ?_
    exact sa_sub [1, 2, 0] rfl (w4_quake_18 C hR 400 h)
  · replace h := sl_t c1 h
    refine sa_aload_n C dX4_quake_10 rfl 0 rfl ?_
    refine sa_iconst C dX4_quake_11 ic_0 ?_
    obtain ⟨r2, er2, h⟩ := sl_b h
    refine sa_invVi C yy_X4_tell ⟨q_272, q_0⟩ q_270 dX4_quake_12 (As := [.int (0 : Int32)]) (rest := []) rfl ⟨Nat.le_trans (Nat.le_of_ble_eq_true rfl) hR.1, Nat.le_trans (Nat.le_of_ble_eq_true rfl) hR.2⟩ (Nat.le_of_ble_eq_true rfl) hh_X4 lx_27 (cc4_tell er2) rfl ?_
    exact sa_iret C dX4_quake_15 (sl_p1 h) (sl_p2 h)
/-! X4 seed -/
def f4_seed (x1 : Int32) (M : sl_M) : Option (Int32 × sl_M) := some ((M 0 12), (sl_up M 0 12 x1))
theorem cc4_seed {D : va_G} {cA : ClassId} {g : Nat → Nat} {A : Nat → Prop} {z : sl_K} {l : Launch} {x1 : Int32} {M : sl_M} {r : Int32 × sl_M} (h : f4_seed x1 M = some r) : sl_N sl_cl LX D cA g A z l yX4_seed cX4_seed 3 (some .int) 0 0 [.ref (g 27), .int x1] M (some (.int r.1)) r.2 := by
  refine sl_N.of (by decide) (Nat.le_of_ble_eq_true rfl) rfl ?_
  intro p e s m args below meth c C
  replace C : sl_C RX4 cX4_seed 3 (some .int) sl_cl LX D cA g A z p s m meth c := C
  have hR : 0 ≤ (({ frames := 0, cells := 0, slots := 0, locals := 0 } : Room)).frames ∧ 0 ≤ (({ frames := 0, cells := 0, slots := 0, locals := 0 } : Room)).locals := ⟨Nat.le_refl _, Nat.le_refl _⟩
  rw [f4_seed] at h
  refine sa_aload_n C dX4_seed_0 rfl 0 rfl ?_
  refine sa_getR C hh_X4 (k := 0) dX4_seed_1 q_235 (by decide) lx_27 rfl ?_
  refine sa_getIN C hh_X0 (k := 12) dX4_seed_4 q_148 (by decide) lx_0 rfl ?_
  refine sa_istore_n C dX4_seed_7 rfl (by decide) (lv2 := [(2, .int (M 0 12)), (0, .ref (g 27)), (1, .int x1)]) rfl ?_
  refine sa_aload_n C dX4_seed_8 rfl 1 rfl ?_
  refine sa_getR C hh_X4 (k := 0) dX4_seed_9 q_235 (by decide) lx_27 rfl ?_
  refine sa_iload_n C dX4_seed_12 rfl 2 rfl ?_
  refine sa_putN C hh_X0 (k := 12) dX4_seed_13 q_148 (by decide) rfl (fty := .int) (by decide) rfl rfl lx_0 rfl ?_
  refine sa_iload_n C dX4_seed_16 rfl 0 rfl ?_
  exact sa_iret C dX4_seed_17 (sl_p1 h) (sl_p2 h)
/-! X4 feed -/
def f4_feed_39 (x1 : Int32) : Nat → Int32 → sl_M → Option (Int32 × sl_M)
  | 0, _, _ => none
  | n + 1, x3, M => (if x3 < 0 then some ((M 28 1), M) else (f2_append ((x1.toUInt32 >>> (((8 : Int32) * x3).toUInt32 &&& Int32.toUInt32 31)).toInt32) M).bind fun r2 => f4_feed_39 x1 n (x3 + (-1 : Int32)) r2)
def f4_feed (x1 : Int32) (x2 : Int32) (M : sl_M) : Option (Int32 × sl_M) := (if (f4_isWithin x2 (1 : Int32) (4 : Int32)) = 0 then (f4_tell (0 : Int32) M).bind fun r4 => some (r4.1, r4.2) else (if (f2_hasRoomFor x2 M) = 0 then (f4_tell (1 : Int32) M).bind fun r3 => some (r3.1, r3.2) else f4_feed_39 x1 400 (x2 - (1 : Int32)) M))
theorem w4_feed_39 {D : va_G} {cA : ClassId} {g : Nat → Nat} {A : Nat → Prop} {z : sl_K} {l : Launch} {p : Program} {e : Env} {R : Room} {s : State} {m : MethodId} {args : Array Value} {below : List Frame} {meth : Method} {c : Code} (C : sl_C RX4 cX4_feed 4 (some .int) sl_cl LX D cA g A z p s m meth c) (hR : 1 ≤ R.frames ∧ 22 ≤ R.locals) {r : Int32 × sl_M} {x1 : Int32} : ∀ (n : Nat) {x3 : Int32} {M : sl_M}, f4_feed_39 x1 n x3 M = some r → sl_A sl_cl LX D cA g A p l e R s m args below meth c (MQ below (sl_Q sl_cl LX D cA g A (some (.int r.1)) r.2) args s 0 0 A) 4 39 [(0, .ref (g 27)), (1, .int x1), (3, .int x3)] [] M := by
  intro n
  induction n with
  | zero =>
    intro x3 M h
    exact absurd h.symm (Option.some_ne_none _)
  | succ n ih =>
    intro x3 M h
    rw [f4_feed_39] at h
    refine sa_iload_n C dX4_feed_39 rfl 2 rfl ?_
    refine sa_if_lt C dX4_feed_40 (tgt := 65) (by decide) (fun c1 => ?_) (fun c1 => ?_)
    · replace h := sl_t c1 h
      refine sa_aload_n C dX4_feed_65 rfl 0 rfl ?_
      refine sa_getR C hh_X4 (k := 4) dX4_feed_66 q_239 (by decide) lx_27 rfl ?_
      refine sa_getRN C hh_X3 (k := 0) dX4_feed_69 q_213 (by decide) lx_30 rfl ?_
      refine sa_getIN C hh_X2 (k := 1) dX4_feed_72 q_191 (by decide) lx_28 rfl ?_
      exact sa_iret C dX4_feed_75 (sl_p1 h) (sl_p2 h)
    · replace h := sl_n c1 h
      refine sa_aload_n C dX4_feed_43 rfl 0 rfl ?_
      refine sa_getR C hh_X4 (k := 4) dX4_feed_44 q_239 (by decide) lx_27 rfl ?_
      refine sa_getRN C hh_X3 (k := 0) dX4_feed_47 q_213 (by decide) lx_30 rfl ?_
      refine sa_iload_n C dX4_feed_50 rfl 1 rfl ?_
      refine sa_bipush C dX4_feed_51 bp_8 ?_
      refine sa_iload_n C dX4_feed_53 rfl 2 rfl ?_
      refine sa_imul C dX4_feed_54 ?_
      refine sa_iushr C dX4_feed_55 ?_
      obtain ⟨r2, er2, h⟩ := sl_b h
      refine sa_invVNv C yy_X2_append ⟨q_598, q_31⟩ q_596 dX4_feed_56 (As := [.int (x1.toUInt32 >>> (((8 : Int32) * x3).toUInt32 &&& Int32.toUInt32 31)).toInt32]) (rest := []) rfl ⟨Nat.le_trans (Nat.le_of_ble_eq_true rfl) hR.1, Nat.le_trans (Nat.le_of_ble_eq_true rfl) hR.2⟩ (Nat.le_of_ble_eq_true rfl) hh_X2 lx_28 (cc2_append er2) rfl ?_
      refine sa_iinc C dX4_feed_59 2 rfl (v := (x3 + (-1 : Int32))) (by rw [ic_m1]) (by decide) (lv2 := [(3, .int (x3 + (-1 : Int32))), (0, .ref (g 27)), (1, .int x1)]) rfl ?_
      refine sa_goto C dX4_feed_62 (tgt := 39) (by decide) ?_
      exact sa_sub [1, 2, 0] rfl (ih h)
theorem cc4_feed {D : va_G} {cA : ClassId} {g : Nat → Nat} {A : Nat → Prop} {z : sl_K} {l : Launch} {x1 : Int32} {x2 : Int32} {M : sl_M} {r : Int32 × sl_M} (h : f4_feed x1 x2 M = some r) : sl_N sl_cl LX D cA g A z l yX4_feed cX4_feed 4 (some .int) 1 22 [.ref (g 27), .int x1, .int x2] M (some (.int r.1)) r.2 := by
  refine sl_N.of (by decide) (Nat.le_of_ble_eq_true rfl) rfl ?_
  intro p e s m args below meth c C
  replace C : sl_C RX4 cX4_feed 4 (some .int) sl_cl LX D cA g A z p s m meth c := C
  have hR : 1 ≤ (({ frames := 1, cells := 0, slots := 0, locals := 22 } : Room)).frames ∧ 22 ≤ (({ frames := 1, cells := 0, slots := 0, locals := 22 } : Room)).locals := ⟨Nat.le_refl _, Nat.le_refl _⟩
  rw [f4_feed] at h
  refine sa_iload_n C dX4_feed_0 rfl 2 rfl ?_
  refine sa_iconst C dX4_feed_1 ic_1 ?_
  refine sa_iconst C dX4_feed_2 ic_4 ?_
  refine sa_invSi C yy_X4_isWithin q_268 q_267 dX4_feed_3 (As := [.int x2, .int (1 : Int32), .int (4 : Int32)]) (rest := []) rfl ⟨Nat.le_trans (Nat.le_of_ble_eq_true rfl) hR.1, Nat.le_trans (Nat.le_of_ble_eq_true rfl) hR.2⟩ (Nat.le_of_ble_eq_true rfl) (cc4_isWithin rfl) rfl ?_
  refine sa_if_ne C dX4_feed_6 (tgt := 15) (by decide) (fun c1 => ?_) (fun c1 => ?_)
  · replace h := sl_n c1 h
    refine sa_aload_n C dX4_feed_15 rfl 0 rfl ?_
    refine sa_getR C hh_X4 (k := 4) dX4_feed_16 q_239 (by decide) lx_27 rfl ?_
    refine sa_getRN C hh_X3 (k := 0) dX4_feed_19 q_213 (by decide) lx_30 rfl ?_
    refine sa_iload_n C dX4_feed_22 rfl 2 rfl ?_
    refine sa_invVNi C yy_X2_hasRoomFor ⟨q_594, q_30⟩ q_592 dX4_feed_23 (As := [.int x2]) (rest := []) rfl ⟨Nat.le_trans (Nat.le_of_ble_eq_true rfl) hR.1, Nat.le_trans (Nat.le_of_ble_eq_true rfl) hR.2⟩ (Nat.le_of_ble_eq_true rfl) hh_X2 lx_28 (cc2_hasRoomFor rfl) rfl ?_
    refine sa_if_ne C dX4_feed_26 (tgt := 35) (by decide) (fun c2 => ?_) (fun c2 => ?_)
    · replace h := sl_n c2 h
      refine sa_iload_n C dX4_feed_35 rfl 2 rfl ?_
      refine sa_iconst C dX4_feed_36 ic_1 ?_
      refine sa_isub C dX4_feed_37 ?_
      refine sa_istore_n C dX4_feed_38 rfl (by decide) (lv2 := [(3, .int (x2 - (1 : Int32))), (0, .ref (g 27)), (1, .int x1), (2, .int x2)]) rfl ?_
      exact sa_sub [1, 2, 0] rfl (w4_feed_39 C hR 400 h)
    · replace h := sl_t c2 h
      refine sa_aload_n C dX4_feed_29 rfl 0 rfl ?_
      refine sa_iconst C dX4_feed_30 ic_1 ?_
      obtain ⟨r3, er3, h⟩ := sl_b h
      refine sa_invVi C yy_X4_tell ⟨q_272, q_0⟩ q_270 dX4_feed_31 (As := [.int (1 : Int32)]) (rest := []) rfl ⟨Nat.le_trans (Nat.le_of_ble_eq_true rfl) hR.1, Nat.le_trans (Nat.le_of_ble_eq_true rfl) hR.2⟩ (Nat.le_of_ble_eq_true rfl) hh_X4 lx_27 (cc4_tell er3) rfl ?_
      exact sa_iret C dX4_feed_34 (sl_p1 h) (sl_p2 h)
  · replace h := sl_t c1 h
    refine sa_aload_n C dX4_feed_9 rfl 0 rfl ?_
    refine sa_iconst C dX4_feed_10 ic_0 ?_
    obtain ⟨r4, er4, h⟩ := sl_b h
    refine sa_invVi C yy_X4_tell ⟨q_272, q_0⟩ q_270 dX4_feed_11 (As := [.int (0 : Int32)]) (rest := []) rfl ⟨Nat.le_trans (Nat.le_of_ble_eq_true rfl) hR.1, Nat.le_trans (Nat.le_of_ble_eq_true rfl) hR.2⟩ (Nat.le_of_ble_eq_true rfl) hh_X4 lx_27 (cc4_tell er4) rfl ?_
    exact sa_iret C dX4_feed_14 (sl_p1 h) (sl_p2 h)
/-! X4 wipe -/
def f4_wipe (M : sl_M) : Option (Int32 × sl_M) := some ((M 28 1), (sl_up M 28 1 (0 : Int32)))
theorem cc4_wipe {D : va_G} {cA : ClassId} {g : Nat → Nat} {A : Nat → Prop} {z : sl_K} {l : Launch} {M : sl_M} {r : Int32 × sl_M} (h : f4_wipe M = some r) : sl_N sl_cl LX D cA g A z l yX4_wipe cX4_wipe 2 (some .int) 0 0 [.ref (g 27)] M (some (.int r.1)) r.2 := by
  refine sl_N.of (by decide) (Nat.le_of_ble_eq_true rfl) rfl ?_
  intro p e s m args below meth c C
  replace C : sl_C RX4 cX4_wipe 2 (some .int) sl_cl LX D cA g A z p s m meth c := C
  have hR : 0 ≤ (({ frames := 0, cells := 0, slots := 0, locals := 0 } : Room)).frames ∧ 0 ≤ (({ frames := 0, cells := 0, slots := 0, locals := 0 } : Room)).locals := ⟨Nat.le_refl _, Nat.le_refl _⟩
  rw [f4_wipe] at h
  refine sa_aload_n C dX4_wipe_0 rfl 0 rfl ?_
  refine sa_getR C hh_X4 (k := 4) dX4_wipe_1 q_239 (by decide) lx_27 rfl ?_
  refine sa_getRN C hh_X3 (k := 0) dX4_wipe_4 q_213 (by decide) lx_30 rfl ?_
  refine sa_getIN C hh_X2 (k := 1) dX4_wipe_7 q_191 (by decide) lx_28 rfl ?_
  refine sa_istore_n C dX4_wipe_10 rfl (by decide) (lv2 := [(1, .int (M 28 1)), (0, .ref (g 27))]) rfl ?_
  refine sa_aload_n C dX4_wipe_11 rfl 1 rfl ?_
  refine sa_getR C hh_X4 (k := 4) dX4_wipe_12 q_239 (by decide) lx_27 rfl ?_
  refine sa_getRN C hh_X3 (k := 0) dX4_wipe_15 q_213 (by decide) lx_30 rfl ?_
  refine sa_iconst C dX4_wipe_18 ic_0 ?_
  refine sa_putN C hh_X2 (k := 1) dX4_wipe_19 q_191 (by decide) rfl (fty := .int) (by decide) rfl rfl lx_28 rfl ?_
  refine sa_iload_n C dX4_wipe_22 rfl 0 rfl ?_
  exact sa_iret C dX4_wipe_23 (sl_p1 h) (sl_p2 h)
/-! X4 text -/
def f4_text_38 (x1 : Int32) (M : sl_M) : Option (Int32 × sl_M) := some (x1, (sl_up M 28 1 (0 : Int32)))
def f4_text (M : sl_M) : Option (Int32 × sl_M) := (f0_takeAll 1 0 M).bind fun r1 => (f3_readInto 1 r1).bind fun r2 => (if r2.1 < 0 then f4_text_38 r2.1 r2.2 else (f0_takeAll 0 1 r2.2).bind fun r4 => f4_text_38 r2.1 r4)
theorem w4_text_38 {D : va_G} {cA : ClassId} {g : Nat → Nat} {A : Nat → Prop} {z : sl_K} {l : Launch} {p : Program} {e : Env} {R : Room} {s : State} {m : MethodId} {args : Array Value} {below : List Frame} {meth : Method} {c : Code} (C : sl_C RX4 cX4_text 2 (some .int) sl_cl LX D cA g A z p s m meth c) (hR : 9 ≤ R.frames ∧ 220 ≤ R.locals) {M : sl_M} {r : Int32 × sl_M} {x1 : Int32} (h : f4_text_38 x1 M = some r) : sl_A sl_cl LX D cA g A p l e R s m args below meth c (MQ below (sl_Q sl_cl LX D cA g A (some (.int r.1)) r.2) args s 0 0 A) 2 38 [(0, .ref (g 27)), (1, .int x1)] [] M := by
  rw [f4_text_38] at h
  refine sa_aload_n C dX4_text_38 rfl 0 rfl ?_
  refine sa_getR C hh_X4 (k := 4) dX4_text_39 q_239 (by decide) lx_27 rfl ?_
  refine sa_getRN C hh_X3 (k := 0) dX4_text_42 q_213 (by decide) lx_30 rfl ?_
  refine sa_iconst C dX4_text_45 ic_0 ?_
  refine sa_putN C hh_X2 (k := 1) dX4_text_46 q_191 (by decide) rfl (fty := .int) (by decide) rfl rfl lx_28 rfl ?_
  refine sa_iload_n C dX4_text_49 rfl 1 rfl ?_
  exact sa_iret C dX4_text_50 (sl_p1 h) (sl_p2 h)
theorem cc4_text {D : va_G} {cA : ClassId} {g : Nat → Nat} {A : Nat → Prop} {z : sl_K} {l : Launch} {M : sl_M} {r : Int32 × sl_M} (h : f4_text M = some r) : sl_N sl_cl LX D cA g A z l yX4_text cX4_text 2 (some .int) 9 220 [.ref (g 27)] M (some (.int r.1)) r.2 := by
  refine sl_N.of (by decide) (Nat.le_of_ble_eq_true rfl) rfl ?_
  intro p e s m args below meth c C
  replace C : sl_C RX4 cX4_text 2 (some .int) sl_cl LX D cA g A z p s m meth c := C
  have hR : 9 ≤ (({ frames := 9, cells := 0, slots := 0, locals := 220 } : Room)).frames ∧ 220 ≤ (({ frames := 9, cells := 0, slots := 0, locals := 220 } : Room)).locals := ⟨Nat.le_refl _, Nat.le_refl _⟩
  rw [f4_text] at h
  refine sa_aload_n C dX4_text_0 rfl 0 rfl ?_
  refine sa_getR C hh_X4 (k := 1) dX4_text_1 q_236 (by decide) lx_27 rfl ?_
  refine sa_aload_n C dX4_text_4 rfl 0 rfl ?_
  refine sa_getR C hh_X4 (k := 0) dX4_text_5 q_235 (by decide) lx_27 rfl ?_
  obtain ⟨r1, er1, h⟩ := sl_b h
  refine sa_invVNv C yy_X0_takeAll ⟨q_457, q_21⟩ q_455 dX4_text_8 (As := [.ref (g 0)]) (rest := []) rfl ⟨Nat.le_trans (Nat.le_of_ble_eq_true rfl) hR.1, Nat.le_trans (Nat.le_of_ble_eq_true rfl) hR.2⟩ (Nat.le_of_ble_eq_true rfl) hh_X0 lx_9 (cc0_takeAll sl_j1 sl_j0 er1) rfl ?_
  refine sa_aload_n C dX4_text_11 rfl 0 rfl ?_
  refine sa_getR C hh_X4 (k := 4) dX4_text_12 q_239 (by decide) lx_27 rfl ?_
  refine sa_aload_n C dX4_text_15 rfl 0 rfl ?_
  refine sa_getR C hh_X4 (k := 1) dX4_text_16 q_236 (by decide) lx_27 rfl ?_
  obtain ⟨r2, er2, h⟩ := sl_b h
  refine sa_invVNi C yy_X3_readInto ⟨q_610, q_32⟩ q_608 dX4_text_19 (As := [.ref (g 9)]) (rest := []) rfl ⟨Nat.le_trans (Nat.le_of_ble_eq_true rfl) hR.1, Nat.le_trans (Nat.le_of_ble_eq_true rfl) hR.2⟩ (Nat.le_of_ble_eq_true rfl) hh_X3 lx_30 (cc3_readInto sl_j1 er2) rfl ?_
  refine sa_istore_n C dX4_text_22 rfl (by decide) (lv2 := [(1, .int r2.1), (0, .ref (g 27))]) rfl ?_
  refine sa_iload_n C dX4_text_23 rfl 0 rfl ?_
  refine sa_if_lt C dX4_text_24 (tgt := 38) (by decide) (fun c3 => ?_) (fun c3 => ?_)
  · replace h := sl_t c3 h
    exact sa_sub [1, 0] rfl (w4_text_38 C hR h)
  · replace h := sl_n c3 h
    refine sa_aload_n C dX4_text_27 rfl 1 rfl ?_
    refine sa_getR C hh_X4 (k := 0) dX4_text_28 q_235 (by decide) lx_27 rfl ?_
    refine sa_aload_n C dX4_text_31 rfl 1 rfl ?_
    refine sa_getR C hh_X4 (k := 1) dX4_text_32 q_236 (by decide) lx_27 rfl ?_
    obtain ⟨r4, er4, h⟩ := sl_b h
    refine sa_invVNv C yy_X0_takeAll ⟨q_457, q_21⟩ q_455 dX4_text_35 (As := [.ref (g 9)]) (rest := []) rfl ⟨Nat.le_trans (Nat.le_of_ble_eq_true rfl) hR.1, Nat.le_trans (Nat.le_of_ble_eq_true rfl) hR.2⟩ (Nat.le_of_ble_eq_true rfl) hh_X0 lx_0 (cc0_takeAll sl_j0 sl_j1 er4) rfl ?_
    exact sa_sub [1, 0] rfl (w4_text_38 C hR h)
/-! X4 isSpot -/
def f4_isSpot (x0 : Int32) : Int32 := (f4_isWithin x0 (0 : Int32) (9 : Int32))
theorem f4_isSpot_b {x0 : Int32} : f4_isSpot x0 = 0 ∨ f4_isSpot x0 = 1 := by
  rw [f4_isSpot]
  first | exact f4_isWithin_b | ((repeat' split) <;> first | exact Or.inl rfl | exact Or.inr rfl)
theorem cc4_isSpot {D : va_G} {cA : ClassId} {g : Nat → Nat} {A : Nat → Prop} {z : sl_K} {l : Launch} {x0 : Int32} {M : sl_M} {r : Int32} (h : f4_isSpot x0 = r) : sl_N sl_cl LX D cA g A z l yX4_isSpot cX4_isSpot 1 (some .boolean) 1 22 [.int x0] M (some (.int r)) M := by
  refine sl_N.of (by decide) (Nat.le_of_ble_eq_true rfl) rfl ?_
  intro p e s m args below meth c C
  replace C : sl_C RX4 cX4_isSpot 1 (some .boolean) sl_cl LX D cA g A z p s m meth c := C
  have hR : 1 ≤ (({ frames := 1, cells := 0, slots := 0, locals := 22 } : Room)).frames ∧ 22 ≤ (({ frames := 1, cells := 0, slots := 0, locals := 22 } : Room)).locals := ⟨Nat.le_refl _, Nat.le_refl _⟩
  rw [f4_isSpot] at h
  refine sa_iload_n C dX4_isSpot_0 rfl 0 rfl ?_
  refine sa_iconst C dX4_isSpot_1 ic_0 ?_
  refine sa_bipush C dX4_isSpot_2 bp_9 ?_
  refine sa_invSi C yy_X4_isWithin q_268 q_267 dX4_isSpot_4 (As := [.int x0, .int (0 : Int32), .int (9 : Int32)]) (rest := []) rfl ⟨Nat.le_trans (Nat.le_of_ble_eq_true rfl) hR.1, Nat.le_trans (Nat.le_of_ble_eq_true rfl) hR.2⟩ (Nat.le_of_ble_eq_true rfl) (cc4_isWithin rfl) rfl ?_
  exact sa_zret C dX4_isSpot_7 (by first | assumption | exact f4_isWithin_b | ((repeat' split) <;> first | exact Or.inl rfl | exact Or.inr rfl)) h rfl
/-! X4 hold -/
def f4_hold_25 (x1 : Int32) (x2 : Int32) (M : sl_M) : Option (Int32 × sl_M) := (sl_st M 8 10 x1 x2).bind fun M1 => some ((1 : Int32), M1)
def f4_hold (x1 : Int32) (x2 : Int32) (M : sl_M) : Option (Int32 × sl_M) := (if (f4_isSpot x1) = 0 then (f4_tell (0 : Int32) M).bind fun r2 => some (r2.1, r2.2) else (if x2 = (-1 : Int32) then f4_hold_25 x1 x2 M else (if (f4_isCell x2) = 0 then (f4_tell (0 : Int32) M).bind fun r5 => some (r5.1, r5.2) else f4_hold_25 x1 x2 M)))
theorem w4_hold_25 {D : va_G} {cA : ClassId} {g : Nat → Nat} {A : Nat → Prop} {z : sl_K} {l : Launch} {p : Program} {e : Env} {R : Room} {s : State} {m : MethodId} {args : Array Value} {below : List Frame} {meth : Method} {c : Code} (C : sl_C RX4 cX4_hold 3 (some .int) sl_cl LX D cA g A z p s m meth c) (hR : 2 ≤ R.frames ∧ 42 ≤ R.locals) {M : sl_M} {r : Int32 × sl_M} {x1 : Int32} {x2 : Int32} (h : f4_hold_25 x1 x2 M = some r) : sl_A sl_cl LX D cA g A p l e R s m args below meth c (MQ below (sl_Q sl_cl LX D cA g A (some (.int r.1)) r.2) args s 0 0 A) 3 25 [(0, .ref (g 27)), (1, .int x1), (2, .int x2)] [] M := by
  rw [f4_hold_25] at h
  refine sa_aload_n C dX4_hold_25 rfl 0 rfl ?_
  refine sa_getR C hh_X4 (k := 0) dX4_hold_26 q_235 (by decide) lx_27 rfl ?_
  refine sa_getRN C hh_X0 (k := 7) dX4_hold_29 q_136 (by decide) lx_0 rfl ?_
  refine sa_iload_n C dX4_hold_32 rfl 1 rfl ?_
  refine sa_iload_n C dX4_hold_33 rfl 2 rfl ?_
  obtain ⟨M1, eM1, h⟩ := sl_b h
  refine sa_iast C dX4_hold_34 lx_8 eM1 ?_
  refine sa_iconst C dX4_hold_35 ic_1 ?_
  exact sa_iret C dX4_hold_36 (sl_p1 h) (sl_p2 h)
theorem cc4_hold {D : va_G} {cA : ClassId} {g : Nat → Nat} {A : Nat → Prop} {z : sl_K} {l : Launch} {x1 : Int32} {x2 : Int32} {M : sl_M} {r : Int32 × sl_M} (h : f4_hold x1 x2 M = some r) : sl_N sl_cl LX D cA g A z l yX4_hold cX4_hold 3 (some .int) 2 42 [.ref (g 27), .int x1, .int x2] M (some (.int r.1)) r.2 := by
  refine sl_N.of (by decide) (Nat.le_of_ble_eq_true rfl) rfl ?_
  intro p e s m args below meth c C
  replace C : sl_C RX4 cX4_hold 3 (some .int) sl_cl LX D cA g A z p s m meth c := C
  have hR : 2 ≤ (({ frames := 2, cells := 0, slots := 0, locals := 42 } : Room)).frames ∧ 42 ≤ (({ frames := 2, cells := 0, slots := 0, locals := 42 } : Room)).locals := ⟨Nat.le_refl _, Nat.le_refl _⟩
  rw [f4_hold] at h
  refine sa_iload_n C dX4_hold_0 rfl 1 rfl ?_
  refine sa_invSi C yy_X4_isSpot q_745 q_744 dX4_hold_1 (As := [.int x1]) (rest := []) rfl ⟨Nat.le_trans (Nat.le_of_ble_eq_true rfl) hR.1, Nat.le_trans (Nat.le_of_ble_eq_true rfl) hR.2⟩ (Nat.le_of_ble_eq_true rfl) (cc4_isSpot rfl) rfl ?_
  refine sa_if_eq C dX4_hold_4 (tgt := 19) (by decide) (fun c1 => ?_) (fun c1 => ?_)
  · replace h := sl_t c1 h
    refine sa_aload_n C dX4_hold_19 rfl 0 rfl ?_
    refine sa_iconst C dX4_hold_20 ic_0 ?_
    obtain ⟨r2, er2, h⟩ := sl_b h
    refine sa_invVi C yy_X4_tell ⟨q_272, q_0⟩ q_270 dX4_hold_21 (As := [.int (0 : Int32)]) (rest := []) rfl ⟨Nat.le_trans (Nat.le_of_ble_eq_true rfl) hR.1, Nat.le_trans (Nat.le_of_ble_eq_true rfl) hR.2⟩ (Nat.le_of_ble_eq_true rfl) hh_X4 lx_27 (cc4_tell er2) rfl ?_
    exact sa_iret C dX4_hold_24 (sl_p1 h) (sl_p2 h)
  · replace h := sl_n c1 h
    refine sa_iload_n C dX4_hold_7 rfl 2 rfl ?_
    refine sa_iconst C dX4_hold_8 ic_m1 ?_
    refine sa_icmp_eq C dX4_hold_9 (tgt := 25) (by decide) (fun c3 => ?_) (fun c3 => ?_)
    · replace h := sl_t c3 h
      exact sa_sub [0, 1, 2] rfl (w4_hold_25 C hR h)
    · replace h := sl_n c3 h
      refine sa_iload_n C dX4_hold_12 rfl 2 rfl ?_
      refine sa_invSi C yy_X4_isCell q_265 q_264 dX4_hold_13 (As := [.int x2]) (rest := []) rfl ⟨Nat.le_trans (Nat.le_of_ble_eq_true rfl) hR.1, Nat.le_trans (Nat.le_of_ble_eq_true rfl) hR.2⟩ (Nat.le_of_ble_eq_true rfl) (cc4_isCell rfl) rfl ?_
      refine sa_if_ne C dX4_hold_16 (tgt := 25) (by decide) (fun c4 => ?_) (fun c4 => ?_)
      · replace h := sl_n c4 h
        exact sa_sub [0, 1, 2] rfl (w4_hold_25 C hR h)
      · replace h := sl_t c4 h
        refine sa_aload_n C dX4_hold_19 rfl 0 rfl ?_
        refine sa_iconst C dX4_hold_20 ic_0 ?_
        obtain ⟨r5, er5, h⟩ := sl_b h
        refine sa_invVi C yy_X4_tell ⟨q_272, q_0⟩ q_270 dX4_hold_21 (As := [.int (0 : Int32)]) (rest := []) rfl ⟨Nat.le_trans (Nat.le_of_ble_eq_true rfl) hR.1, Nat.le_trans (Nat.le_of_ble_eq_true rfl) hR.2⟩ (Nat.le_of_ble_eq_true rfl) hh_X4 lx_27 (cc4_tell er5) rfl ?_
        exact sa_iret C dX4_hold_24 (sl_p1 h) (sl_p2 h)
/-! X4 as -/
def f4_as (x1 : Int32) (x2 : Int32) (M : sl_M) : Option (Int32 × sl_M) := (if (f4_isSpot x1) = 0 then (f4_tell (0 : Int32) M).bind fun r2 => some (r2.1, r2.2) else (if (f4_isKind x2) = 0 then (f4_tell (0 : Int32) M).bind fun r11 => some (r11.1, r11.2) else (sl_ld (M 8) 10 x1).bind fun v4 => (if (f4_isCell v4) = 0 then (f4_tell (5 : Int32) M).bind fun r10 => some (r10.1, r10.2) else (sl_ld (M 1) 24 v4).bind fun v6 => (f0_isOfKind v6 x2 M).bind fun r7 => (if r7 = 0 then (f4_tell (2 : Int32) M).bind fun r9 => some (r9.1, r9.2) else some (v4, M)))))
theorem cc4_as {D : va_G} {cA : ClassId} {g : Nat → Nat} {A : Nat → Prop} {z : sl_K} {l : Launch} {x1 : Int32} {x2 : Int32} {M : sl_M} {r : Int32 × sl_M} (h : f4_as x1 x2 M = some r) : sl_N sl_cl LX D cA g A z l yX4_as cX4_as 4 (some .int) 2 42 [.ref (g 27), .int x1, .int x2] M (some (.int r.1)) r.2 := by
  refine sl_N.of (by decide) (Nat.le_of_ble_eq_true rfl) rfl ?_
  intro p e s m args below meth c C
  replace C : sl_C RX4 cX4_as 4 (some .int) sl_cl LX D cA g A z p s m meth c := C
  have hR : 2 ≤ (({ frames := 2, cells := 0, slots := 0, locals := 42 } : Room)).frames ∧ 42 ≤ (({ frames := 2, cells := 0, slots := 0, locals := 42 } : Room)).locals := ⟨Nat.le_refl _, Nat.le_refl _⟩
  rw [f4_as] at h
  refine sa_iload_n C dX4_as_0 rfl 1 rfl ?_
  refine sa_invSi C yy_X4_isSpot q_745 q_744 dX4_as_1 (As := [.int x1]) (rest := []) rfl ⟨Nat.le_trans (Nat.le_of_ble_eq_true rfl) hR.1, Nat.le_trans (Nat.le_of_ble_eq_true rfl) hR.2⟩ (Nat.le_of_ble_eq_true rfl) (cc4_isSpot rfl) rfl ?_
  refine sa_if_eq C dX4_as_4 (tgt := 14) (by decide) (fun c1 => ?_) (fun c1 => ?_)
  · replace h := sl_t c1 h
    refine sa_aload_n C dX4_as_14 rfl 0 rfl ?_
    refine sa_iconst C dX4_as_15 ic_0 ?_
    obtain ⟨r2, er2, h⟩ := sl_b h
    refine sa_invVi C yy_X4_tell ⟨q_272, q_0⟩ q_270 dX4_as_16 (As := [.int (0 : Int32)]) (rest := []) rfl ⟨Nat.le_trans (Nat.le_of_ble_eq_true rfl) hR.1, Nat.le_trans (Nat.le_of_ble_eq_true rfl) hR.2⟩ (Nat.le_of_ble_eq_true rfl) hh_X4 lx_27 (cc4_tell er2) rfl ?_
    exact sa_iret C dX4_as_19 (sl_p1 h) (sl_p2 h)
  · replace h := sl_n c1 h
    refine sa_iload_n C dX4_as_7 rfl 2 rfl ?_
    refine sa_invSi C yy_X4_isKind q_298 q_297 dX4_as_8 (As := [.int x2]) (rest := []) rfl ⟨Nat.le_trans (Nat.le_of_ble_eq_true rfl) hR.1, Nat.le_trans (Nat.le_of_ble_eq_true rfl) hR.2⟩ (Nat.le_of_ble_eq_true rfl) (cc4_isKind rfl) rfl ?_
    refine sa_if_ne C dX4_as_11 (tgt := 20) (by decide) (fun c3 => ?_) (fun c3 => ?_)
    · replace h := sl_n c3 h
      refine sa_aload_n C dX4_as_20 rfl 0 rfl ?_
      refine sa_getR C hh_X4 (k := 0) dX4_as_21 q_235 (by decide) lx_27 rfl ?_
      refine sa_getRN C hh_X0 (k := 7) dX4_as_24 q_136 (by decide) lx_0 rfl ?_
      refine sa_iload_n C dX4_as_27 rfl 1 rfl ?_
      obtain ⟨v4, ev4, h⟩ := sl_b h
      refine sa_iald C dX4_as_28 lx_8 ev4 ?_
      refine sa_istore_n C dX4_as_29 rfl (by decide) (lv2 := [(3, .int v4), (0, .ref (g 27)), (1, .int x1), (2, .int x2)]) rfl ?_
      refine sa_iload_n C dX4_as_30 rfl 0 rfl ?_
      refine sa_invSi C yy_X4_isCell q_265 q_264 dX4_as_31 (As := [.int v4]) (rest := []) rfl ⟨Nat.le_trans (Nat.le_of_ble_eq_true rfl) hR.1, Nat.le_trans (Nat.le_of_ble_eq_true rfl) hR.2⟩ (Nat.le_of_ble_eq_true rfl) (cc4_isCell rfl) rfl ?_
      refine sa_if_ne C dX4_as_34 (tgt := 43) (by decide) (fun c5 => ?_) (fun c5 => ?_)
      · replace h := sl_n c5 h
        refine sa_aload_n C dX4_as_43 rfl 1 rfl ?_
        refine sa_getR C hh_X4 (k := 0) dX4_as_44 q_235 (by decide) lx_27 rfl ?_
        refine sa_getRN C hh_X0 (k := 0) dX4_as_47 q_122 (by decide) lx_0 rfl ?_
        refine sa_iload_n C dX4_as_50 rfl 0 rfl ?_
        obtain ⟨v6, ev6, h⟩ := sl_b h
        refine sa_iald C dX4_as_51 lx_1 ev6 ?_
        refine sa_iload_n C dX4_as_52 rfl 3 rfl ?_
        obtain ⟨r7, er7, h⟩ := sl_b h
        refine sa_invSNi C yy_X0_isOfKind q_752 q_751 dX4_as_53 (As := [.int v6, .int x2]) (rest := []) rfl ⟨Nat.le_trans (Nat.le_of_ble_eq_true rfl) hR.1, Nat.le_trans (Nat.le_of_ble_eq_true rfl) hR.2⟩ (Nat.le_of_ble_eq_true rfl) (cc0_isOfKind er7) rfl ?_
        refine sa_if_eq C dX4_as_56 (tgt := 63) (by decide) (fun c8 => ?_) (fun c8 => ?_)
        · replace h := sl_t c8 h
          refine sa_aload_n C dX4_as_63 rfl 1 rfl ?_
          refine sa_iconst C dX4_as_64 ic_2 ?_
          obtain ⟨r9, er9, h⟩ := sl_b h
          refine sa_invVi C yy_X4_tell ⟨q_272, q_0⟩ q_270 dX4_as_65 (As := [.int (2 : Int32)]) (rest := []) rfl ⟨Nat.le_trans (Nat.le_of_ble_eq_true rfl) hR.1, Nat.le_trans (Nat.le_of_ble_eq_true rfl) hR.2⟩ (Nat.le_of_ble_eq_true rfl) hh_X4 lx_27 (cc4_tell er9) rfl ?_
          exact sa_iret C dX4_as_68 (sl_p1 h) (sl_p2 h)
        · replace h := sl_n c8 h
          refine sa_iload_n C dX4_as_59 rfl 0 rfl ?_
          refine sa_goto C dX4_as_60 (tgt := 68) (by decide) ?_
          exact sa_iret C dX4_as_68 (sl_p1 h) (sl_p2 h)
      · replace h := sl_t c5 h
        refine sa_aload_n C dX4_as_37 rfl 1 rfl ?_
        refine sa_iconst C dX4_as_38 ic_5 ?_
        obtain ⟨r10, er10, h⟩ := sl_b h
        refine sa_invVi C yy_X4_tell ⟨q_272, q_0⟩ q_270 dX4_as_39 (As := [.int (5 : Int32)]) (rest := []) rfl ⟨Nat.le_trans (Nat.le_of_ble_eq_true rfl) hR.1, Nat.le_trans (Nat.le_of_ble_eq_true rfl) hR.2⟩ (Nat.le_of_ble_eq_true rfl) hh_X4 lx_27 (cc4_tell er10) rfl ?_
        exact sa_iret C dX4_as_42 (sl_p1 h) (sl_p2 h)
    · replace h := sl_t c3 h
      refine sa_aload_n C dX4_as_14 rfl 0 rfl ?_
      refine sa_iconst C dX4_as_15 ic_0 ?_
      obtain ⟨r11, er11, h⟩ := sl_b h
      refine sa_invVi C yy_X4_tell ⟨q_272, q_0⟩ q_270 dX4_as_16 (As := [.int (0 : Int32)]) (rest := []) rfl ⟨Nat.le_trans (Nat.le_of_ble_eq_true rfl) hR.1, Nat.le_trans (Nat.le_of_ble_eq_true rfl) hR.2⟩ (Nat.le_of_ble_eq_true rfl) hh_X4 lx_27 (cc4_tell er11) rfl ?_
      exact sa_iret C dX4_as_19 (sl_p1 h) (sl_p2 h)
/-! X4 sheet -/
def f4_sheet_73 (x1 : Int32) (t0 : Int32) (t1 : Int32) (t2 : Int32) (M : sl_M) : Option (Int32 × sl_M) := (f1_make t2 t1 t0 M).bind fun r1 => (sl_ld (r1 33) 4 x1).bind fun v2 => some (v2, r1)
def f4_sheet_35 (x1 : Int32) (x2 : Int32) (x3 : Int32) (M : sl_M) : Option (Int32 × sl_M) := (if 0 ≤ x3 then (if x3 ≤ (40 : Int32) then (if x2 = 0 then f4_sheet_73 x1 (0 : Int32) x2 x1 M else f4_sheet_73 x1 x3 x2 x1 M) else (f4_tell (0 : Int32) M).bind fun r4 => some (r4.1, r4.2)) else (f4_tell (6 : Int32) M).bind fun r5 => some (r5.1, r5.2))
def f4_sheet (x1 : Int32) (x2 : Int32) (x3 : Int32) (M : sl_M) : Option (Int32 × sl_M) := (if (f1_isSheet x1) = 0 then (f4_tell (0 : Int32) M).bind fun r2 => some (r2.1, r2.2) else (if x2 = 0 then f4_sheet_35 x1 x2 x3 M else (if x2 = (8 : Int32) then f4_sheet_35 x1 x2 x3 M else (if x2 = (16 : Int32) then f4_sheet_35 x1 x2 x3 M else (if x2 = (32 : Int32) then f4_sheet_35 x1 x2 x3 M else (f4_tell (0 : Int32) M).bind fun r7 => some (r7.1, r7.2))))))
theorem w4_sheet_73 {D : va_G} {cA : ClassId} {g : Nat → Nat} {A : Nat → Prop} {z : sl_K} {l : Launch} {p : Program} {e : Env} {R : Room} {s : State} {m : MethodId} {args : Array Value} {below : List Frame} {meth : Method} {c : Code} (C : sl_C RX4 cX4_sheet 4 (some .int) sl_cl LX D cA g A z p s m meth c) (hR : 1 ≤ R.frames ∧ 24 ≤ R.locals) {M : sl_M} {r : Int32 × sl_M} {x1 : Int32} {t0 : Int32} {t1 : Int32} {t2 : Int32} (h : f4_sheet_73 x1 t0 t1 t2 M = some r) : sl_A sl_cl LX D cA g A p l e R s m args below meth c (MQ below (sl_Q sl_cl LX D cA g A (some (.int r.1)) r.2) args s 0 0 A) 4 73 [(0, .ref (g 27)), (1, .int x1)] [.int t0, .int t1, .int t2, .ref (g 31)] M := by
  rw [f4_sheet_73] at h
  obtain ⟨r1, er1, h⟩ := sl_b h
  refine sa_invVNv C yy_X1_make ⟨q_765, q_47⟩ q_763 dX4_sheet_73 (As := [.int t2, .int t1, .int t0]) (rest := []) rfl ⟨Nat.le_trans (Nat.le_of_ble_eq_true rfl) hR.1, Nat.le_trans (Nat.le_of_ble_eq_true rfl) hR.2⟩ (Nat.le_of_ble_eq_true rfl) hh_X1 lx_31 (cc1_make er1) rfl ?_
  refine sa_aload_n C dX4_sheet_76 rfl 0 rfl ?_
  refine sa_getR C hh_X4 (k := 5) dX4_sheet_77 q_240 (by decide) lx_27 rfl ?_
  refine sa_getRN C hh_X1 (k := 1) dX4_sheet_80 q_226 (by decide) lx_31 rfl ?_
  refine sa_iload_n C dX4_sheet_83 rfl 1 rfl ?_
  obtain ⟨v2, ev2, h⟩ := sl_b h
  refine sa_iald C dX4_sheet_84 lx_33 ev2 ?_
  exact sa_iret C dX4_sheet_85 (sl_p1 h) (sl_p2 h)
theorem w4_sheet_35 {D : va_G} {cA : ClassId} {g : Nat → Nat} {A : Nat → Prop} {z : sl_K} {l : Launch} {p : Program} {e : Env} {R : Room} {s : State} {m : MethodId} {args : Array Value} {below : List Frame} {meth : Method} {c : Code} (C : sl_C RX4 cX4_sheet 4 (some .int) sl_cl LX D cA g A z p s m meth c) (hR : 1 ≤ R.frames ∧ 24 ≤ R.locals) {M : sl_M} {r : Int32 × sl_M} {x1 : Int32} {x2 : Int32} {x3 : Int32} (h : f4_sheet_35 x1 x2 x3 M = some r) : sl_A sl_cl LX D cA g A p l e R s m args below meth c (MQ below (sl_Q sl_cl LX D cA g A (some (.int r.1)) r.2) args s 0 0 A) 4 35 [(0, .ref (g 27)), (1, .int x1), (2, .int x2), (3, .int x3)] [] M := by
  rw [f4_sheet_35] at h
  refine sa_iload_n C dX4_sheet_35 rfl 3 rfl ?_
  refine sa_if_ge C dX4_sheet_36 (tgt := 46) (by decide) (fun c1 => ?_) (fun c1 => ?_)
  · replace h := sl_t c1 h
    refine sa_iload_n C dX4_sheet_46 rfl 3 rfl ?_
    refine sa_bipush C dX4_sheet_47 bp_40 ?_
    refine sa_icmp_le C dX4_sheet_49 (tgt := 58) (by decide) (fun c2 => ?_) (fun c2 => ?_)
    · replace h := sl_t c2 h
      refine sa_aload_n C dX4_sheet_58 rfl 0 rfl ?_
      refine sa_getR C hh_X4 (k := 5) dX4_sheet_59 q_240 (by decide) lx_27 rfl ?_
      refine sa_iload_n C dX4_sheet_62 rfl 1 rfl ?_
      refine sa_iload_n C dX4_sheet_63 rfl 2 rfl ?_
      refine sa_iload_n C dX4_sheet_64 rfl 2 rfl ?_
      refine sa_if_ne C dX4_sheet_65 (tgt := 72) (by decide) (fun c3 => ?_) (fun c3 => ?_)
      · replace h := sl_n c3 h
        refine sa_iload_n C dX4_sheet_72 rfl 3 rfl ?_
        exact sa_sub [0, 1] rfl (w4_sheet_73 C hR h)
      · replace h := sl_t c3 h
        refine sa_iconst C dX4_sheet_68 ic_0 ?_
        refine sa_goto C dX4_sheet_69 (tgt := 73) (by decide) ?_
        exact sa_sub [0, 1] rfl (w4_sheet_73 C hR h)
    · replace h := sl_n c2 h
      refine sa_aload_n C dX4_sheet_52 rfl 0 rfl ?_
      refine sa_iconst C dX4_sheet_53 ic_0 ?_
      obtain ⟨r4, er4, h⟩ := sl_b h
      refine sa_invVi C yy_X4_tell ⟨q_272, q_0⟩ q_270 dX4_sheet_54 (As := [.int (0 : Int32)]) (rest := []) rfl ⟨Nat.le_trans (Nat.le_of_ble_eq_true rfl) hR.1, Nat.le_trans (Nat.le_of_ble_eq_true rfl) hR.2⟩ (Nat.le_of_ble_eq_true rfl) hh_X4 lx_27 (cc4_tell er4) rfl ?_
      exact sa_iret C dX4_sheet_57 (sl_p1 h) (sl_p2 h)
  · replace h := sl_n c1 h
    refine sa_aload_n C dX4_sheet_39 rfl 0 rfl ?_
    refine sa_bipush C dX4_sheet_40 bp_6 ?_
    obtain ⟨r5, er5, h⟩ := sl_b h
    refine sa_invVi C yy_X4_tell ⟨q_272, q_0⟩ q_270 dX4_sheet_42 (As := [.int (6 : Int32)]) (rest := []) rfl ⟨Nat.le_trans (Nat.le_of_ble_eq_true rfl) hR.1, Nat.le_trans (Nat.le_of_ble_eq_true rfl) hR.2⟩ (Nat.le_of_ble_eq_true rfl) hh_X4 lx_27 (cc4_tell er5) rfl ?_
    exact sa_iret C dX4_sheet_45 (sl_p1 h) (sl_p2 h)
theorem cc4_sheet {D : va_G} {cA : ClassId} {g : Nat → Nat} {A : Nat → Prop} {z : sl_K} {l : Launch} {x1 : Int32} {x2 : Int32} {x3 : Int32} {M : sl_M} {r : Int32 × sl_M} (h : f4_sheet x1 x2 x3 M = some r) : sl_N sl_cl LX D cA g A z l yX4_sheet cX4_sheet 4 (some .int) 1 24 [.ref (g 27), .int x1, .int x2, .int x3] M (some (.int r.1)) r.2 := by
  refine sl_N.of (by decide) (Nat.le_of_ble_eq_true rfl) rfl ?_
  intro p e s m args below meth c C
  replace C : sl_C RX4 cX4_sheet 4 (some .int) sl_cl LX D cA g A z p s m meth c := C
  have hR : 1 ≤ (({ frames := 1, cells := 0, slots := 0, locals := 24 } : Room)).frames ∧ 24 ≤ (({ frames := 1, cells := 0, slots := 0, locals := 24 } : Room)).locals := ⟨Nat.le_refl _, Nat.le_refl _⟩
  rw [f4_sheet] at h
  refine sa_iload_n C dX4_sheet_0 rfl 1 rfl ?_
  refine sa_invSNi C yy_X1_isSheet q_761 q_760 dX4_sheet_1 (As := [.int x1]) (rest := []) rfl ⟨Nat.le_trans (Nat.le_of_ble_eq_true rfl) hR.1, Nat.le_trans (Nat.le_of_ble_eq_true rfl) hR.2⟩ (Nat.le_of_ble_eq_true rfl) (cc1_isSheet rfl) rfl ?_
  refine sa_if_eq C dX4_sheet_4 (tgt := 29) (by decide) (fun c1 => ?_) (fun c1 => ?_)
  · replace h := sl_t c1 h
    refine sa_aload_n C dX4_sheet_29 rfl 0 rfl ?_
    refine sa_iconst C dX4_sheet_30 ic_0 ?_
    obtain ⟨r2, er2, h⟩ := sl_b h
    refine sa_invVi C yy_X4_tell ⟨q_272, q_0⟩ q_270 dX4_sheet_31 (As := [.int (0 : Int32)]) (rest := []) rfl ⟨Nat.le_trans (Nat.le_of_ble_eq_true rfl) hR.1, Nat.le_trans (Nat.le_of_ble_eq_true rfl) hR.2⟩ (Nat.le_of_ble_eq_true rfl) hh_X4 lx_27 (cc4_tell er2) rfl ?_
    exact sa_iret C dX4_sheet_34 (sl_p1 h) (sl_p2 h)
  · replace h := sl_n c1 h
    refine sa_iload_n C dX4_sheet_7 rfl 2 rfl ?_
    refine sa_if_eq C dX4_sheet_8 (tgt := 35) (by decide) (fun c3 => ?_) (fun c3 => ?_)
    · replace h := sl_t c3 h
      exact sa_sub [0, 1, 2, 3] rfl (w4_sheet_35 C hR h)
    · replace h := sl_n c3 h
      refine sa_iload_n C dX4_sheet_11 rfl 2 rfl ?_
      refine sa_bipush C dX4_sheet_12 bp_8 ?_
      refine sa_icmp_eq C dX4_sheet_14 (tgt := 35) (by decide) (fun c4 => ?_) (fun c4 => ?_)
      · replace h := sl_t c4 h
        exact sa_sub [0, 1, 2, 3] rfl (w4_sheet_35 C hR h)
      · replace h := sl_n c4 h
        refine sa_iload_n C dX4_sheet_17 rfl 2 rfl ?_
        refine sa_bipush C dX4_sheet_18 bp_16 ?_
        refine sa_icmp_eq C dX4_sheet_20 (tgt := 35) (by decide) (fun c5 => ?_) (fun c5 => ?_)
        · replace h := sl_t c5 h
          exact sa_sub [0, 1, 2, 3] rfl (w4_sheet_35 C hR h)
        · replace h := sl_n c5 h
          refine sa_iload_n C dX4_sheet_23 rfl 2 rfl ?_
          refine sa_bipush C dX4_sheet_24 bp_32 ?_
          refine sa_icmp_eq C dX4_sheet_26 (tgt := 35) (by decide) (fun c6 => ?_) (fun c6 => ?_)
          · replace h := sl_t c6 h
            exact sa_sub [0, 1, 2, 3] rfl (w4_sheet_35 C hR h)
          · replace h := sl_n c6 h
            refine sa_aload_n C dX4_sheet_29 rfl 0 rfl ?_
            refine sa_iconst C dX4_sheet_30 ic_0 ?_
            obtain ⟨r7, er7, h⟩ := sl_b h
            refine sa_invVi C yy_X4_tell ⟨q_272, q_0⟩ q_270 dX4_sheet_31 (As := [.int (0 : Int32)]) (rest := []) rfl ⟨Nat.le_trans (Nat.le_of_ble_eq_true rfl) hR.1, Nat.le_trans (Nat.le_of_ble_eq_true rfl) hR.2⟩ (Nat.le_of_ble_eq_true rfl) hh_X4 lx_27 (cc4_tell er7) rfl ?_
            exact sa_iret C dX4_sheet_34 (sl_p1 h) (sl_p2 h)
/-! X4 write -/
def f4_write (x1 : Int32) (x2 : Int32) (x3 : Int32) (M : sl_M) : Option (Int32 × sl_M) := (if (f1_isSheet x1) = 0 then (f4_tell (0 : Int32) M).bind fun r9 => some (r9.1, r9.2) else (f1_isMissing x1 M).bind fun r2 => (if r2 = 0 then (f1_hasRun x1 x2 (1 : Int32) M).bind fun r4 => (if r4 = 0 then (f4_tell (0 : Int32) M).bind fun r7 => some (r7.1, r7.2) else (f1_put x1 x2 x3 M).bind fun r6 => some ((1 : Int32), r6)) else (f4_tell (5 : Int32) M).bind fun r8 => some (r8.1, r8.2)))
theorem cc4_write {D : va_G} {cA : ClassId} {g : Nat → Nat} {A : Nat → Prop} {z : sl_K} {l : Launch} {x1 : Int32} {x2 : Int32} {x3 : Int32} {M : sl_M} {r : Int32 × sl_M} (h : f4_write x1 x2 x3 M = some r) : sl_N sl_cl LX D cA g A z l yX4_write cX4_write 4 (some .int) 2 44 [.ref (g 27), .int x1, .int x2, .int x3] M (some (.int r.1)) r.2 := by
  refine sl_N.of (by decide) (Nat.le_of_ble_eq_true rfl) rfl ?_
  intro p e s m args below meth c C
  replace C : sl_C RX4 cX4_write 4 (some .int) sl_cl LX D cA g A z p s m meth c := C
  have hR : 2 ≤ (({ frames := 2, cells := 0, slots := 0, locals := 44 } : Room)).frames ∧ 44 ≤ (({ frames := 2, cells := 0, slots := 0, locals := 44 } : Room)).locals := ⟨Nat.le_refl _, Nat.le_refl _⟩
  rw [f4_write] at h
  refine sa_iload_n C dX4_write_0 rfl 1 rfl ?_
  refine sa_invSNi C yy_X1_isSheet q_761 q_760 dX4_write_1 (As := [.int x1]) (rest := []) rfl ⟨Nat.le_trans (Nat.le_of_ble_eq_true rfl) hR.1, Nat.le_trans (Nat.le_of_ble_eq_true rfl) hR.2⟩ (Nat.le_of_ble_eq_true rfl) (cc1_isSheet rfl) rfl ?_
  refine sa_if_ne C dX4_write_4 (tgt := 13) (by decide) (fun c1 => ?_) (fun c1 => ?_)
  · replace h := sl_n c1 h
    refine sa_aload_n C dX4_write_13 rfl 0 rfl ?_
    refine sa_getR C hh_X4 (k := 5) dX4_write_14 q_240 (by decide) lx_27 rfl ?_
    refine sa_iload_n C dX4_write_17 rfl 1 rfl ?_
    obtain ⟨r2, er2, h⟩ := sl_b h
    refine sa_invVNi C yy_X1_isMissing ⟨q_773, q_48⟩ q_771 dX4_write_18 (As := [.int x1]) (rest := []) rfl ⟨Nat.le_trans (Nat.le_of_ble_eq_true rfl) hR.1, Nat.le_trans (Nat.le_of_ble_eq_true rfl) hR.2⟩ (Nat.le_of_ble_eq_true rfl) hh_X1 lx_31 (cc1_isMissing er2) rfl ?_
    refine sa_if_eq C dX4_write_21 (tgt := 30) (by decide) (fun c3 => ?_) (fun c3 => ?_)
    · replace h := sl_t c3 h
      refine sa_aload_n C dX4_write_30 rfl 0 rfl ?_
      refine sa_getR C hh_X4 (k := 5) dX4_write_31 q_240 (by decide) lx_27 rfl ?_
      refine sa_iload_n C dX4_write_34 rfl 1 rfl ?_
      refine sa_iload_n C dX4_write_35 rfl 2 rfl ?_
      refine sa_iconst C dX4_write_36 ic_1 ?_
      obtain ⟨r4, er4, h⟩ := sl_b h
      refine sa_invVNi C yy_X1_hasRun ⟨q_777, q_49⟩ q_775 dX4_write_37 (As := [.int x1, .int x2, .int (1 : Int32)]) (rest := []) rfl ⟨Nat.le_trans (Nat.le_of_ble_eq_true rfl) hR.1, Nat.le_trans (Nat.le_of_ble_eq_true rfl) hR.2⟩ (Nat.le_of_ble_eq_true rfl) hh_X1 lx_31 (cc1_hasRun er4) rfl ?_
      refine sa_if_ne C dX4_write_40 (tgt := 49) (by decide) (fun c5 => ?_) (fun c5 => ?_)
      · replace h := sl_n c5 h
        refine sa_aload_n C dX4_write_49 rfl 0 rfl ?_
        refine sa_getR C hh_X4 (k := 5) dX4_write_50 q_240 (by decide) lx_27 rfl ?_
        refine sa_iload_n C dX4_write_53 rfl 1 rfl ?_
        refine sa_iload_n C dX4_write_54 rfl 2 rfl ?_
        refine sa_iload_n C dX4_write_55 rfl 3 rfl ?_
        obtain ⟨r6, er6, h⟩ := sl_b h
        refine sa_invVNv C yy_X1_put ⟨q_781, q_50⟩ q_779 dX4_write_56 (As := [.int x1, .int x2, .int x3]) (rest := []) rfl ⟨Nat.le_trans (Nat.le_of_ble_eq_true rfl) hR.1, Nat.le_trans (Nat.le_of_ble_eq_true rfl) hR.2⟩ (Nat.le_of_ble_eq_true rfl) hh_X1 lx_31 (cc1_put er6) rfl ?_
        refine sa_iconst C dX4_write_59 ic_1 ?_
        exact sa_iret C dX4_write_60 (sl_p1 h) (sl_p2 h)
      · replace h := sl_t c5 h
        refine sa_aload_n C dX4_write_43 rfl 0 rfl ?_
        refine sa_iconst C dX4_write_44 ic_0 ?_
        obtain ⟨r7, er7, h⟩ := sl_b h
        refine sa_invVi C yy_X4_tell ⟨q_272, q_0⟩ q_270 dX4_write_45 (As := [.int (0 : Int32)]) (rest := []) rfl ⟨Nat.le_trans (Nat.le_of_ble_eq_true rfl) hR.1, Nat.le_trans (Nat.le_of_ble_eq_true rfl) hR.2⟩ (Nat.le_of_ble_eq_true rfl) hh_X4 lx_27 (cc4_tell er7) rfl ?_
        exact sa_iret C dX4_write_48 (sl_p1 h) (sl_p2 h)
    · replace h := sl_n c3 h
      refine sa_aload_n C dX4_write_24 rfl 0 rfl ?_
      refine sa_iconst C dX4_write_25 ic_5 ?_
      obtain ⟨r8, er8, h⟩ := sl_b h
      refine sa_invVi C yy_X4_tell ⟨q_272, q_0⟩ q_270 dX4_write_26 (As := [.int (5 : Int32)]) (rest := []) rfl ⟨Nat.le_trans (Nat.le_of_ble_eq_true rfl) hR.1, Nat.le_trans (Nat.le_of_ble_eq_true rfl) hR.2⟩ (Nat.le_of_ble_eq_true rfl) hh_X4 lx_27 (cc4_tell er8) rfl ?_
      exact sa_iret C dX4_write_29 (sl_p1 h) (sl_p2 h)
  · replace h := sl_t c1 h
    refine sa_aload_n C dX4_write_7 rfl 0 rfl ?_
    refine sa_iconst C dX4_write_8 ic_0 ?_
    obtain ⟨r9, er9, h⟩ := sl_b h
    refine sa_invVi C yy_X4_tell ⟨q_272, q_0⟩ q_270 dX4_write_9 (As := [.int (0 : Int32)]) (rest := []) rfl ⟨Nat.le_trans (Nat.le_of_ble_eq_true rfl) hR.1, Nat.le_trans (Nat.le_of_ble_eq_true rfl) hR.2⟩ (Nat.le_of_ble_eq_true rfl) hh_X4 lx_27 (cc4_tell er9) rfl ?_
    exact sa_iret C dX4_write_12 (sl_p1 h) (sl_p2 h)
/-! X4 copy -/
def f4_copy (x1 : Int32) (x2 : Int32) (x3 : Int32) (x4 : Int32) (x5 : Int32) (M : sl_M) : Option (Int32 × sl_M) := (if (f1_isSheet x1) = 0 then (f4_tell (0 : Int32) M).bind fun r2 => some (r2.1, r2.2) else (if (f1_isSheet x3) = 0 then (f4_tell (0 : Int32) M).bind fun r21 => some (r21.1, r21.2) else (f1_isMissing x1 M).bind fun r4 => (if r4 = 0 then (f1_isMissing x3 M).bind fun r7 => (if r7 = 0 then (sl_ld (M 32) 4 x1).bind fun v9 => (sl_ld (M 32) 4 x3).bind fun v10 => (if v9 = v10 then (f1_hasRun x1 x2 x5 M).bind fun r12 => (if r12 = 0 then (f4_tell (0 : Int32) M).bind fun r14 => some (r14.1, r14.2) else (f1_hasRun x3 x4 x5 M).bind fun r15 => (if r15 = 0 then (f4_tell (0 : Int32) M).bind fun r18 => some (r18.1, r18.2) else (f1_move x1 x2 x3 x4 x5 M).bind fun r17 => some (x5, r17))) else (f4_tell (2 : Int32) M).bind fun r19 => some (r19.1, r19.2)) else (f4_tell (5 : Int32) M).bind fun r20 => some (r20.1, r20.2)) else (f4_tell (5 : Int32) M).bind fun r6 => some (r6.1, r6.2))))
theorem cc4_copy {D : va_G} {cA : ClassId} {g : Nat → Nat} {A : Nat → Prop} {z : sl_K} {l : Launch} {x1 : Int32} {x2 : Int32} {x3 : Int32} {x4 : Int32} {x5 : Int32} {M : sl_M} {r : Int32 × sl_M} (h : f4_copy x1 x2 x3 x4 x5 M = some r) : sl_N sl_cl LX D cA g A z l yX4_copy cX4_copy 6 (some .int) 2 65 [.ref (g 27), .int x1, .int x2, .int x3, .int x4, .int x5] M (some (.int r.1)) r.2 := by
  refine sl_N.of (by decide) (Nat.le_of_ble_eq_true rfl) rfl ?_
  intro p e s m args below meth c C
  replace C : sl_C RX4 cX4_copy 6 (some .int) sl_cl LX D cA g A z p s m meth c := C
  have hR : 2 ≤ (({ frames := 2, cells := 0, slots := 0, locals := 65 } : Room)).frames ∧ 65 ≤ (({ frames := 2, cells := 0, slots := 0, locals := 65 } : Room)).locals := ⟨Nat.le_refl _, Nat.le_refl _⟩
  rw [f4_copy] at h
  refine sa_iload_n C dX4_copy_0 rfl 1 rfl ?_
  refine sa_invSNi C yy_X1_isSheet q_761 q_760 dX4_copy_1 (As := [.int x1]) (rest := []) rfl ⟨Nat.le_trans (Nat.le_of_ble_eq_true rfl) hR.1, Nat.le_trans (Nat.le_of_ble_eq_true rfl) hR.2⟩ (Nat.le_of_ble_eq_true rfl) (cc1_isSheet rfl) rfl ?_
  refine sa_if_eq C dX4_copy_4 (tgt := 14) (by decide) (fun c1 => ?_) (fun c1 => ?_)
  · replace h := sl_t c1 h
    refine sa_aload_n C dX4_copy_14 rfl 0 rfl ?_
    refine sa_iconst C dX4_copy_15 ic_0 ?_
    obtain ⟨r2, er2, h⟩ := sl_b h
    refine sa_invVi C yy_X4_tell ⟨q_272, q_0⟩ q_270 dX4_copy_16 (As := [.int (0 : Int32)]) (rest := []) rfl ⟨Nat.le_trans (Nat.le_of_ble_eq_true rfl) hR.1, Nat.le_trans (Nat.le_of_ble_eq_true rfl) hR.2⟩ (Nat.le_of_ble_eq_true rfl) hh_X4 lx_27 (cc4_tell er2) rfl ?_
    exact sa_iret C dX4_copy_19 (sl_p1 h) (sl_p2 h)
  · replace h := sl_n c1 h
    refine sa_iload_n C dX4_copy_7 rfl 3 rfl ?_
    refine sa_invSNi C yy_X1_isSheet q_761 q_760 dX4_copy_8 (As := [.int x3]) (rest := []) rfl ⟨Nat.le_trans (Nat.le_of_ble_eq_true rfl) hR.1, Nat.le_trans (Nat.le_of_ble_eq_true rfl) hR.2⟩ (Nat.le_of_ble_eq_true rfl) (cc1_isSheet rfl) rfl ?_
    refine sa_if_ne C dX4_copy_11 (tgt := 20) (by decide) (fun c3 => ?_) (fun c3 => ?_)
    · replace h := sl_n c3 h
      refine sa_aload_n C dX4_copy_20 rfl 0 rfl ?_
      refine sa_getR C hh_X4 (k := 5) dX4_copy_21 q_240 (by decide) lx_27 rfl ?_
      refine sa_iload_n C dX4_copy_24 rfl 1 rfl ?_
      obtain ⟨r4, er4, h⟩ := sl_b h
      refine sa_invVNi C yy_X1_isMissing ⟨q_773, q_48⟩ q_771 dX4_copy_25 (As := [.int x1]) (rest := []) rfl ⟨Nat.le_trans (Nat.le_of_ble_eq_true rfl) hR.1, Nat.le_trans (Nat.le_of_ble_eq_true rfl) hR.2⟩ (Nat.le_of_ble_eq_true rfl) hh_X1 lx_31 (cc1_isMissing er4) rfl ?_
      refine sa_if_ne C dX4_copy_28 (tgt := 42) (by decide) (fun c5 => ?_) (fun c5 => ?_)
      · replace h := sl_n c5 h
        refine sa_aload_n C dX4_copy_42 rfl 0 rfl ?_
        refine sa_iconst C dX4_copy_43 ic_5 ?_
        obtain ⟨r6, er6, h⟩ := sl_b h
        refine sa_invVi C yy_X4_tell ⟨q_272, q_0⟩ q_270 dX4_copy_44 (As := [.int (5 : Int32)]) (rest := []) rfl ⟨Nat.le_trans (Nat.le_of_ble_eq_true rfl) hR.1, Nat.le_trans (Nat.le_of_ble_eq_true rfl) hR.2⟩ (Nat.le_of_ble_eq_true rfl) hh_X4 lx_27 (cc4_tell er6) rfl ?_
        exact sa_iret C dX4_copy_47 (sl_p1 h) (sl_p2 h)
      · replace h := sl_t c5 h
        refine sa_aload_n C dX4_copy_31 rfl 0 rfl ?_
        refine sa_getR C hh_X4 (k := 5) dX4_copy_32 q_240 (by decide) lx_27 rfl ?_
        refine sa_iload_n C dX4_copy_35 rfl 3 rfl ?_
        obtain ⟨r7, er7, h⟩ := sl_b h
        refine sa_invVNi C yy_X1_isMissing ⟨q_773, q_48⟩ q_771 dX4_copy_36 (As := [.int x3]) (rest := []) rfl ⟨Nat.le_trans (Nat.le_of_ble_eq_true rfl) hR.1, Nat.le_trans (Nat.le_of_ble_eq_true rfl) hR.2⟩ (Nat.le_of_ble_eq_true rfl) hh_X1 lx_31 (cc1_isMissing er7) rfl ?_
        refine sa_if_eq C dX4_copy_39 (tgt := 48) (by decide) (fun c8 => ?_) (fun c8 => ?_)
        · replace h := sl_t c8 h
          refine sa_aload_n C dX4_copy_48 rfl 0 rfl ?_
          refine sa_getR C hh_X4 (k := 5) dX4_copy_49 q_240 (by decide) lx_27 rfl ?_
          refine sa_getRN C hh_X1 (k := 0) dX4_copy_52 q_224 (by decide) lx_31 rfl ?_
          refine sa_iload_n C dX4_copy_55 rfl 1 rfl ?_
          obtain ⟨v9, ev9, h⟩ := sl_b h
          refine sa_iald C dX4_copy_56 lx_32 ev9 ?_
          refine sa_aload_n C dX4_copy_57 rfl 0 rfl ?_
          refine sa_getR C hh_X4 (k := 5) dX4_copy_58 q_240 (by decide) lx_27 rfl ?_
          refine sa_getRN C hh_X1 (k := 0) dX4_copy_61 q_224 (by decide) lx_31 rfl ?_
          refine sa_iload_n C dX4_copy_64 rfl 3 rfl ?_
          obtain ⟨v10, ev10, h⟩ := sl_b h
          refine sa_iald C dX4_copy_65 lx_32 ev10 ?_
          refine sa_icmp_eq C dX4_copy_66 (tgt := 75) (by decide) (fun c11 => ?_) (fun c11 => ?_)
          · replace h := sl_t c11 h
            refine sa_aload_n C dX4_copy_75 rfl 0 rfl ?_
            refine sa_getR C hh_X4 (k := 5) dX4_copy_76 q_240 (by decide) lx_27 rfl ?_
            refine sa_iload_n C dX4_copy_79 rfl 1 rfl ?_
            refine sa_iload_n C dX4_copy_80 rfl 2 rfl ?_
            refine sa_iload C dX4_copy_81 5 rfl ?_
            obtain ⟨r12, er12, h⟩ := sl_b h
            refine sa_invVNi C yy_X1_hasRun ⟨q_777, q_49⟩ q_775 dX4_copy_83 (As := [.int x1, .int x2, .int x5]) (rest := []) rfl ⟨Nat.le_trans (Nat.le_of_ble_eq_true rfl) hR.1, Nat.le_trans (Nat.le_of_ble_eq_true rfl) hR.2⟩ (Nat.le_of_ble_eq_true rfl) hh_X1 lx_31 (cc1_hasRun er12) rfl ?_
            refine sa_if_eq C dX4_copy_86 (tgt := 104) (by decide) (fun c13 => ?_) (fun c13 => ?_)
            · replace h := sl_t c13 h
              refine sa_aload_n C dX4_copy_104 rfl 0 rfl ?_
              refine sa_iconst C dX4_copy_105 ic_0 ?_
              obtain ⟨r14, er14, h⟩ := sl_b h
              refine sa_invVi C yy_X4_tell ⟨q_272, q_0⟩ q_270 dX4_copy_106 (As := [.int (0 : Int32)]) (rest := []) rfl ⟨Nat.le_trans (Nat.le_of_ble_eq_true rfl) hR.1, Nat.le_trans (Nat.le_of_ble_eq_true rfl) hR.2⟩ (Nat.le_of_ble_eq_true rfl) hh_X4 lx_27 (cc4_tell er14) rfl ?_
              exact sa_iret C dX4_copy_109 (sl_p1 h) (sl_p2 h)
            · replace h := sl_n c13 h
              refine sa_aload_n C dX4_copy_89 rfl 0 rfl ?_
              refine sa_getR C hh_X4 (k := 5) dX4_copy_90 q_240 (by decide) lx_27 rfl ?_
              refine sa_iload_n C dX4_copy_93 rfl 3 rfl ?_
              refine sa_iload C dX4_copy_94 4 rfl ?_
              refine sa_iload C dX4_copy_96 5 rfl ?_
              obtain ⟨r15, er15, h⟩ := sl_b h
              refine sa_invVNi C yy_X1_hasRun ⟨q_777, q_49⟩ q_775 dX4_copy_98 (As := [.int x3, .int x4, .int x5]) (rest := []) rfl ⟨Nat.le_trans (Nat.le_of_ble_eq_true rfl) hR.1, Nat.le_trans (Nat.le_of_ble_eq_true rfl) hR.2⟩ (Nat.le_of_ble_eq_true rfl) hh_X1 lx_31 (cc1_hasRun er15) rfl ?_
              refine sa_if_ne C dX4_copy_101 (tgt := 110) (by decide) (fun c16 => ?_) (fun c16 => ?_)
              · replace h := sl_n c16 h
                refine sa_aload_n C dX4_copy_110 rfl 0 rfl ?_
                refine sa_getR C hh_X4 (k := 5) dX4_copy_111 q_240 (by decide) lx_27 rfl ?_
                refine sa_iload_n C dX4_copy_114 rfl 1 rfl ?_
                refine sa_iload_n C dX4_copy_115 rfl 2 rfl ?_
                refine sa_iload_n C dX4_copy_116 rfl 3 rfl ?_
                refine sa_iload C dX4_copy_117 4 rfl ?_
                refine sa_iload C dX4_copy_119 5 rfl ?_
                obtain ⟨r17, er17, h⟩ := sl_b h
                refine sa_invVNv C yy_X1_move ⟨q_792, q_51⟩ q_790 dX4_copy_121 (As := [.int x1, .int x2, .int x3, .int x4, .int x5]) (rest := []) rfl ⟨Nat.le_trans (Nat.le_of_ble_eq_true rfl) hR.1, Nat.le_trans (Nat.le_of_ble_eq_true rfl) hR.2⟩ (Nat.le_of_ble_eq_true rfl) hh_X1 lx_31 (cc1_move er17) rfl ?_
                refine sa_iload C dX4_copy_124 5 rfl ?_
                exact sa_iret C dX4_copy_126 (sl_p1 h) (sl_p2 h)
              · replace h := sl_t c16 h
                refine sa_aload_n C dX4_copy_104 rfl 0 rfl ?_
                refine sa_iconst C dX4_copy_105 ic_0 ?_
                obtain ⟨r18, er18, h⟩ := sl_b h
                refine sa_invVi C yy_X4_tell ⟨q_272, q_0⟩ q_270 dX4_copy_106 (As := [.int (0 : Int32)]) (rest := []) rfl ⟨Nat.le_trans (Nat.le_of_ble_eq_true rfl) hR.1, Nat.le_trans (Nat.le_of_ble_eq_true rfl) hR.2⟩ (Nat.le_of_ble_eq_true rfl) hh_X4 lx_27 (cc4_tell er18) rfl ?_
                exact sa_iret C dX4_copy_109 (sl_p1 h) (sl_p2 h)
          · replace h := sl_n c11 h
            refine sa_aload_n C dX4_copy_69 rfl 0 rfl ?_
            refine sa_iconst C dX4_copy_70 ic_2 ?_
            obtain ⟨r19, er19, h⟩ := sl_b h
            refine sa_invVi C yy_X4_tell ⟨q_272, q_0⟩ q_270 dX4_copy_71 (As := [.int (2 : Int32)]) (rest := []) rfl ⟨Nat.le_trans (Nat.le_of_ble_eq_true rfl) hR.1, Nat.le_trans (Nat.le_of_ble_eq_true rfl) hR.2⟩ (Nat.le_of_ble_eq_true rfl) hh_X4 lx_27 (cc4_tell er19) rfl ?_
            exact sa_iret C dX4_copy_74 (sl_p1 h) (sl_p2 h)
        · replace h := sl_n c8 h
          refine sa_aload_n C dX4_copy_42 rfl 0 rfl ?_
          refine sa_iconst C dX4_copy_43 ic_5 ?_
          obtain ⟨r20, er20, h⟩ := sl_b h
          refine sa_invVi C yy_X4_tell ⟨q_272, q_0⟩ q_270 dX4_copy_44 (As := [.int (5 : Int32)]) (rest := []) rfl ⟨Nat.le_trans (Nat.le_of_ble_eq_true rfl) hR.1, Nat.le_trans (Nat.le_of_ble_eq_true rfl) hR.2⟩ (Nat.le_of_ble_eq_true rfl) hh_X4 lx_27 (cc4_tell er20) rfl ?_
          exact sa_iret C dX4_copy_47 (sl_p1 h) (sl_p2 h)
    · replace h := sl_t c3 h
      refine sa_aload_n C dX4_copy_14 rfl 0 rfl ?_
      refine sa_iconst C dX4_copy_15 ic_0 ?_
      obtain ⟨r21, er21, h⟩ := sl_b h
      refine sa_invVi C yy_X4_tell ⟨q_272, q_0⟩ q_270 dX4_copy_16 (As := [.int (0 : Int32)]) (rest := []) rfl ⟨Nat.le_trans (Nat.le_of_ble_eq_true rfl) hR.1, Nat.le_trans (Nat.le_of_ble_eq_true rfl) hR.2⟩ (Nat.le_of_ble_eq_true rfl) hh_X4 lx_27 (cc4_tell er21) rfl ?_
      exact sa_iret C dX4_copy_19 (sl_p1 h) (sl_p2 h)
/-! X4 load -/
def f4_load_45 (x1 : Int32) (x2 : Int32) : Nat → Int32 → sl_M → Option (Int32 × sl_M)
  | 0, _, _ => none
  | n + 1, x3, M => (sl_ld (M 33) 4 x1).bind fun v1 => (if v1 ≤ x3 then some (x3, M) else (if (f4_isCell (x2 + x3)) = 0 then some (x3, M) else (f1_numberAt x1 x3 M).bind fun r4 => (if (f4_isWithin r4 (0 : Int32) (99 : Int32)) = 0 then some (x3, M) else (f1_numberAt x1 x3 M).bind fun r6 => (f0_raiseTo 0 (x2 + x3) r6 M).bind fun r7 => f4_load_45 x1 x2 n (x3 + (1 : Int32)) r7)))
def f4_load (x1 : Int32) (x2 : Int32) (M : sl_M) : Option (Int32 × sl_M) := (if (f1_isSheet x1) = 0 then (f4_tell (0 : Int32) M).bind fun r7 => some (r7.1, r7.2) else (f1_isMissing x1 M).bind fun r2 => (if r2 = 0 then (if (f4_isCell x2) = 0 then (f4_tell (0 : Int32) M).bind fun r5 => some (r5.1, r5.2) else f4_load_45 x1 x2 400 (0 : Int32) M) else (f4_tell (5 : Int32) M).bind fun r6 => some (r6.1, r6.2)))
theorem w4_load_45 {D : va_G} {cA : ClassId} {g : Nat → Nat} {A : Nat → Prop} {z : sl_K} {l : Launch} {p : Program} {e : Env} {R : Room} {s : State} {m : MethodId} {args : Array Value} {below : List Frame} {meth : Method} {c : Code} (C : sl_C RX4 cX4_load 4 (some .int) sl_cl LX D cA g A z p s m meth c) (hR : 4 ≤ R.frames ∧ 86 ≤ R.locals) {r : Int32 × sl_M} {x1 : Int32} {x2 : Int32} : ∀ (n : Nat) {x3 : Int32} {M : sl_M}, f4_load_45 x1 x2 n x3 M = some r → sl_A sl_cl LX D cA g A p l e R s m args below meth c (MQ below (sl_Q sl_cl LX D cA g A (some (.int r.1)) r.2) args s 0 0 A) 4 45 [(0, .ref (g 27)), (1, .int x1), (2, .int x2), (3, .int x3)] [] M := by
  intro n
  induction n with
  | zero =>
    intro x3 M h
    exact absurd h.symm (Option.some_ne_none _)
  | succ n ih =>
    intro x3 M h
    rw [f4_load_45] at h
    refine sa_iload_n C dX4_load_45 rfl 3 rfl ?_
    refine sa_aload_n C dX4_load_46 rfl 0 rfl ?_
    refine sa_getR C hh_X4 (k := 5) dX4_load_47 q_240 (by decide) lx_27 rfl ?_
    refine sa_getRN C hh_X1 (k := 1) dX4_load_50 q_226 (by decide) lx_31 rfl ?_
    refine sa_iload_n C dX4_load_53 rfl 1 rfl ?_
    obtain ⟨v1, ev1, h⟩ := sl_b h
    refine sa_iald C dX4_load_54 lx_33 ev1 ?_
    refine sa_icmp_ge C dX4_load_55 (tgt := 110) (by decide) (fun c2 => ?_) (fun c2 => ?_)
    · replace h := sl_t c2 h
      refine sa_iload_n C dX4_load_110 rfl 3 rfl ?_
      exact sa_iret C dX4_load_111 (sl_p1 h) (sl_p2 h)
    · replace h := sl_n c2 h
      refine sa_iload_n C dX4_load_58 rfl 2 rfl ?_
      refine sa_iload_n C dX4_load_59 rfl 3 rfl ?_
      refine sa_iadd C dX4_load_60 ?_
      refine sa_invSi C yy_X4_isCell q_265 q_264 dX4_load_61 (As := [.int (x2 + x3)]) (rest := []) rfl ⟨Nat.le_trans (Nat.le_of_ble_eq_true rfl) hR.1, Nat.le_trans (Nat.le_of_ble_eq_true rfl) hR.2⟩ (Nat.le_of_ble_eq_true rfl) (cc4_isCell rfl) rfl ?_
      refine sa_if_eq C dX4_load_64 (tgt := 110) (by decide) (fun c3 => ?_) (fun c3 => ?_)
      · replace h := sl_t c3 h
        refine sa_iload_n C dX4_load_110 rfl 3 rfl ?_
        exact sa_iret C dX4_load_111 (sl_p1 h) (sl_p2 h)
      · replace h := sl_n c3 h
        refine sa_aload_n C dX4_load_67 rfl 0 rfl ?_
        refine sa_getR C hh_X4 (k := 5) dX4_load_68 q_240 (by decide) lx_27 rfl ?_
        refine sa_iload_n C dX4_load_71 rfl 1 rfl ?_
        refine sa_iload_n C dX4_load_72 rfl 3 rfl ?_
        obtain ⟨r4, er4, h⟩ := sl_b h
        refine sa_invVNi C yy_X1_numberAt ⟨q_801, q_52⟩ q_799 dX4_load_73 (As := [.int x1, .int x3]) (rest := []) rfl ⟨Nat.le_trans (Nat.le_of_ble_eq_true rfl) hR.1, Nat.le_trans (Nat.le_of_ble_eq_true rfl) hR.2⟩ (Nat.le_of_ble_eq_true rfl) hh_X1 lx_31 (cc1_numberAt er4) rfl ?_
        refine sa_iconst C dX4_load_76 ic_0 ?_
        refine sa_bipush C dX4_load_77 bp_99 ?_
        refine sa_invSi C yy_X4_isWithin q_268 q_267 dX4_load_79 (As := [.int r4, .int (0 : Int32), .int (99 : Int32)]) (rest := []) rfl ⟨Nat.le_trans (Nat.le_of_ble_eq_true rfl) hR.1, Nat.le_trans (Nat.le_of_ble_eq_true rfl) hR.2⟩ (Nat.le_of_ble_eq_true rfl) (cc4_isWithin rfl) rfl ?_
        refine sa_if_eq C dX4_load_82 (tgt := 110) (by decide) (fun c5 => ?_) (fun c5 => ?_)
        · replace h := sl_t c5 h
          refine sa_iload_n C dX4_load_110 rfl 3 rfl ?_
          exact sa_iret C dX4_load_111 (sl_p1 h) (sl_p2 h)
        · replace h := sl_n c5 h
          refine sa_aload_n C dX4_load_85 rfl 0 rfl ?_
          refine sa_getR C hh_X4 (k := 0) dX4_load_86 q_235 (by decide) lx_27 rfl ?_
          refine sa_iload_n C dX4_load_89 rfl 2 rfl ?_
          refine sa_iload_n C dX4_load_90 rfl 3 rfl ?_
          refine sa_iadd C dX4_load_91 ?_
          refine sa_aload_n C dX4_load_92 rfl 0 rfl ?_
          refine sa_getR C hh_X4 (k := 5) dX4_load_93 q_240 (by decide) lx_27 rfl ?_
          refine sa_iload_n C dX4_load_96 rfl 1 rfl ?_
          refine sa_iload_n C dX4_load_97 rfl 3 rfl ?_
          obtain ⟨r6, er6, h⟩ := sl_b h
          refine sa_invVNi C yy_X1_numberAt ⟨q_801, q_52⟩ q_799 dX4_load_98 (As := [.int x1, .int x3]) (rest := [.int (x2 + x3), .ref (g 0)]) rfl ⟨Nat.le_trans (Nat.le_of_ble_eq_true rfl) hR.1, Nat.le_trans (Nat.le_of_ble_eq_true rfl) hR.2⟩ (Nat.le_of_ble_eq_true rfl) hh_X1 lx_31 (cc1_numberAt er6) rfl ?_
          obtain ⟨r7, er7, h⟩ := sl_b h
          refine sa_invVNv C yy_X0_raiseTo ⟨q_277, q_1⟩ q_275 dX4_load_101 (As := [.int (x2 + x3), .int r6]) (rest := []) rfl ⟨Nat.le_trans (Nat.le_of_ble_eq_true rfl) hR.1, Nat.le_trans (Nat.le_of_ble_eq_true rfl) hR.2⟩ (Nat.le_of_ble_eq_true rfl) hh_X0 lx_0 (cc0_raiseTo sl_j0 er7) rfl ?_
          refine sa_iinc C dX4_load_104 3 rfl (v := (x3 + (1 : Int32))) (by rw [ic_1]) (by decide) (lv2 := [(3, .int (x3 + (1 : Int32))), (0, .ref (g 27)), (1, .int x1), (2, .int x2)]) rfl ?_
          refine sa_goto C dX4_load_107 (tgt := 45) (by decide) ?_
          exact sa_sub [1, 2, 3, 0] rfl (ih h)
theorem cc4_load {D : va_G} {cA : ClassId} {g : Nat → Nat} {A : Nat → Prop} {z : sl_K} {l : Launch} {x1 : Int32} {x2 : Int32} {M : sl_M} {r : Int32 × sl_M} (h : f4_load x1 x2 M = some r) : sl_N sl_cl LX D cA g A z l yX4_load cX4_load 4 (some .int) 4 86 [.ref (g 27), .int x1, .int x2] M (some (.int r.1)) r.2 := by
  refine sl_N.of (by decide) (Nat.le_of_ble_eq_true rfl) rfl ?_
  intro p e s m args below meth c C
  replace C : sl_C RX4 cX4_load 4 (some .int) sl_cl LX D cA g A z p s m meth c := C
  have hR : 4 ≤ (({ frames := 4, cells := 0, slots := 0, locals := 86 } : Room)).frames ∧ 86 ≤ (({ frames := 4, cells := 0, slots := 0, locals := 86 } : Room)).locals := ⟨Nat.le_refl _, Nat.le_refl _⟩
  rw [f4_load] at h
  refine sa_iload_n C dX4_load_0 rfl 1 rfl ?_
  refine sa_invSNi C yy_X1_isSheet q_761 q_760 dX4_load_1 (As := [.int x1]) (rest := []) rfl ⟨Nat.le_trans (Nat.le_of_ble_eq_true rfl) hR.1, Nat.le_trans (Nat.le_of_ble_eq_true rfl) hR.2⟩ (Nat.le_of_ble_eq_true rfl) (cc1_isSheet rfl) rfl ?_
  refine sa_if_ne C dX4_load_4 (tgt := 13) (by decide) (fun c1 => ?_) (fun c1 => ?_)
  · replace h := sl_n c1 h
    refine sa_aload_n C dX4_load_13 rfl 0 rfl ?_
    refine sa_getR C hh_X4 (k := 5) dX4_load_14 q_240 (by decide) lx_27 rfl ?_
    refine sa_iload_n C dX4_load_17 rfl 1 rfl ?_
    obtain ⟨r2, er2, h⟩ := sl_b h
    refine sa_invVNi C yy_X1_isMissing ⟨q_773, q_48⟩ q_771 dX4_load_18 (As := [.int x1]) (rest := []) rfl ⟨Nat.le_trans (Nat.le_of_ble_eq_true rfl) hR.1, Nat.le_trans (Nat.le_of_ble_eq_true rfl) hR.2⟩ (Nat.le_of_ble_eq_true rfl) hh_X1 lx_31 (cc1_isMissing er2) rfl ?_
    refine sa_if_eq C dX4_load_21 (tgt := 30) (by decide) (fun c3 => ?_) (fun c3 => ?_)
    · replace h := sl_t c3 h
      refine sa_iload_n C dX4_load_30 rfl 2 rfl ?_
      refine sa_invSi C yy_X4_isCell q_265 q_264 dX4_load_31 (As := [.int x2]) (rest := []) rfl ⟨Nat.le_trans (Nat.le_of_ble_eq_true rfl) hR.1, Nat.le_trans (Nat.le_of_ble_eq_true rfl) hR.2⟩ (Nat.le_of_ble_eq_true rfl) (cc4_isCell rfl) rfl ?_
      refine sa_if_ne C dX4_load_34 (tgt := 43) (by decide) (fun c4 => ?_) (fun c4 => ?_)
      · replace h := sl_n c4 h
        refine sa_iconst C dX4_load_43 ic_0 ?_
        refine sa_istore_n C dX4_load_44 rfl (by decide) (lv2 := [(3, .int (0 : Int32)), (0, .ref (g 27)), (1, .int x1), (2, .int x2)]) rfl ?_
        exact sa_sub [1, 2, 3, 0] rfl (w4_load_45 C hR 400 h)
      · replace h := sl_t c4 h
        refine sa_aload_n C dX4_load_37 rfl 0 rfl ?_
        refine sa_iconst C dX4_load_38 ic_0 ?_
        obtain ⟨r5, er5, h⟩ := sl_b h
        refine sa_invVi C yy_X4_tell ⟨q_272, q_0⟩ q_270 dX4_load_39 (As := [.int (0 : Int32)]) (rest := []) rfl ⟨Nat.le_trans (Nat.le_of_ble_eq_true rfl) hR.1, Nat.le_trans (Nat.le_of_ble_eq_true rfl) hR.2⟩ (Nat.le_of_ble_eq_true rfl) hh_X4 lx_27 (cc4_tell er5) rfl ?_
        exact sa_iret C dX4_load_42 (sl_p1 h) (sl_p2 h)
    · replace h := sl_n c3 h
      refine sa_aload_n C dX4_load_24 rfl 0 rfl ?_
      refine sa_iconst C dX4_load_25 ic_5 ?_
      obtain ⟨r6, er6, h⟩ := sl_b h
      refine sa_invVi C yy_X4_tell ⟨q_272, q_0⟩ q_270 dX4_load_26 (As := [.int (5 : Int32)]) (rest := []) rfl ⟨Nat.le_trans (Nat.le_of_ble_eq_true rfl) hR.1, Nat.le_trans (Nat.le_of_ble_eq_true rfl) hR.2⟩ (Nat.le_of_ble_eq_true rfl) hh_X4 lx_27 (cc4_tell er6) rfl ?_
      exact sa_iret C dX4_load_29 (sl_p1 h) (sl_p2 h)
  · replace h := sl_t c1 h
    refine sa_aload_n C dX4_load_7 rfl 0 rfl ?_
    refine sa_iconst C dX4_load_8 ic_0 ?_
    obtain ⟨r7, er7, h⟩ := sl_b h
    refine sa_invVi C yy_X4_tell ⟨q_272, q_0⟩ q_270 dX4_load_9 (As := [.int (0 : Int32)]) (rest := []) rfl ⟨Nat.le_trans (Nat.le_of_ble_eq_true rfl) hR.1, Nat.le_trans (Nat.le_of_ble_eq_true rfl) hR.2⟩ (Nat.le_of_ble_eq_true rfl) hh_X4 lx_27 (cc4_tell er7) rfl ?_
    exact sa_iret C dX4_load_12 (sl_p1 h) (sl_p2 h)
/-! X4 judge -/
def f4_judge_143 (x3 : Int32) (t0 : Int32) (M : sl_M) : Option (Int32 × sl_M) := (if t0 = 0 then some (((1 : Int32) + x3), M) else some ((0 : Int32), M))
def f4_judge_142 (x3 : Int32) (M : sl_M) : Option (Int32 × sl_M) := f4_judge_143 x3 (0 : Int32) M
def f4_judge_114 (x1 : Int32) (x3 : Int32) (M : sl_M) : Option (Int32 × sl_M) := (sl_ld (M 33) 4 x1).bind fun v1 => (if x3 = v1 then (if x3 = (M 9 8) then f4_judge_143 x3 (1 : Int32) M else f4_judge_142 x3 M) else f4_judge_142 x3 M)
def f4_judge_64 (x1 : Int32) : Nat → Int32 → sl_M → Option (Int32 × sl_M)
  | 0, _, _ => none
  | n + 1, x3, M => (sl_ld (M 33) 4 x1).bind fun v1 => (if v1 ≤ x3 then f4_judge_114 x1 x3 M else (if (M 9 8) ≤ x3 then f4_judge_114 x1 x3 M else (f1_numberAt x1 x3 M).bind fun r4 => (f0_taxOf 1 x3 M).bind fun r5 => (if r4 = r5 then f4_judge_64 x1 n (x3 + (1 : Int32)) M else f4_judge_114 x1 x3 M)))
def f4_judge (x1 : Int32) (x2 : Int32) (M : sl_M) : Option (Int32 × sl_M) := (if (f1_isSheet x1) = 0 then (f4_tell (0 : Int32) M).bind fun r10 => some (r10.1, r10.2) else (f1_isMissing x1 M).bind fun r2 => (if r2 = 0 then (if (f4_isSpan x2) = 0 then (f4_tell (0 : Int32) M).bind fun r8 => some (r8.1, r8.2) else (if (f4_isTooLate x2 M) = 0 then (f4_tryYears x2 M).bind fun r6 => f4_judge_64 x1 400 (0 : Int32) r6 else (f4_tell (4 : Int32) M).bind fun r7 => some (r7.1, r7.2))) else (f4_tell (5 : Int32) M).bind fun r9 => some (r9.1, r9.2)))
theorem w4_judge_143 {D : va_G} {cA : ClassId} {g : Nat → Nat} {A : Nat → Prop} {z : sl_K} {l : Launch} {p : Program} {e : Env} {R : Room} {s : State} {m : MethodId} {args : Array Value} {below : List Frame} {meth : Method} {c : Code} (C : sl_C RX4 cX4_judge 5 (some .int) sl_cl LX D cA g A z p s m meth c) (hR : 6 ≤ R.frames ∧ 129 ≤ R.locals) {M : sl_M} {r : Int32 × sl_M} {x3 : Int32} {t0 : Int32} (h : f4_judge_143 x3 t0 M = some r) : sl_A sl_cl LX D cA g A p l e R s m args below meth c (MQ below (sl_Q sl_cl LX D cA g A (some (.int r.1)) r.2) args s 0 0 A) 5 143 [(3, .int x3)] [.int t0] M := by
  rw [f4_judge_143] at h
  refine sa_istore C dX4_judge_143 (by decide) (lv2 := [(4, .int t0), (3, .int x3)]) rfl ?_
  refine sa_iload C dX4_judge_145 0 rfl ?_
  refine sa_if_eq C dX4_judge_147 (tgt := 154) (by decide) (fun c1 => ?_) (fun c1 => ?_)
  · replace h := sl_t c1 h
    refine sa_iconst C dX4_judge_154 ic_1 ?_
    refine sa_iload_n C dX4_judge_155 rfl 1 rfl ?_
    refine sa_iadd C dX4_judge_156 ?_
    exact sa_iret C dX4_judge_157 (sl_p1 h) (sl_p2 h)
  · replace h := sl_n c1 h
    refine sa_iconst C dX4_judge_150 ic_0 ?_
    refine sa_goto C dX4_judge_151 (tgt := 157) (by decide) ?_
    exact sa_iret C dX4_judge_157 (sl_p1 h) (sl_p2 h)
theorem w4_judge_142 {D : va_G} {cA : ClassId} {g : Nat → Nat} {A : Nat → Prop} {z : sl_K} {l : Launch} {p : Program} {e : Env} {R : Room} {s : State} {m : MethodId} {args : Array Value} {below : List Frame} {meth : Method} {c : Code} (C : sl_C RX4 cX4_judge 5 (some .int) sl_cl LX D cA g A z p s m meth c) (hR : 6 ≤ R.frames ∧ 129 ≤ R.locals) {M : sl_M} {r : Int32 × sl_M} {x3 : Int32} (h : f4_judge_142 x3 M = some r) : sl_A sl_cl LX D cA g A p l e R s m args below meth c (MQ below (sl_Q sl_cl LX D cA g A (some (.int r.1)) r.2) args s 0 0 A) 5 142 [(3, .int x3)] [] M := by
  rw [f4_judge_142] at h
  refine sa_iconst C dX4_judge_142 ic_0 ?_
  exact sa_sub [0] rfl (w4_judge_143 C hR h)
theorem w4_judge_114 {D : va_G} {cA : ClassId} {g : Nat → Nat} {A : Nat → Prop} {z : sl_K} {l : Launch} {p : Program} {e : Env} {R : Room} {s : State} {m : MethodId} {args : Array Value} {below : List Frame} {meth : Method} {c : Code} (C : sl_C RX4 cX4_judge 5 (some .int) sl_cl LX D cA g A z p s m meth c) (hR : 6 ≤ R.frames ∧ 129 ≤ R.locals) {M : sl_M} {r : Int32 × sl_M} {x1 : Int32} {x3 : Int32} (h : f4_judge_114 x1 x3 M = some r) : sl_A sl_cl LX D cA g A p l e R s m args below meth c (MQ below (sl_Q sl_cl LX D cA g A (some (.int r.1)) r.2) args s 0 0 A) 5 114 [(0, .ref (g 27)), (1, .int x1), (3, .int x3)] [] M := by
  rw [f4_judge_114] at h
  refine sa_iload_n C dX4_judge_114 rfl 2 rfl ?_
  refine sa_aload_n C dX4_judge_115 rfl 0 rfl ?_
  refine sa_getR C hh_X4 (k := 5) dX4_judge_116 q_240 (by decide) lx_27 rfl ?_
  refine sa_getRN C hh_X1 (k := 1) dX4_judge_119 q_226 (by decide) lx_31 rfl ?_
  refine sa_iload_n C dX4_judge_122 rfl 1 rfl ?_
  obtain ⟨v1, ev1, h⟩ := sl_b h
  refine sa_iald C dX4_judge_123 lx_33 ev1 ?_
  refine sa_icmp_ne C dX4_judge_124 (tgt := 142) (by decide) (fun c2 => ?_) (fun c2 => ?_)
  · replace h := sl_n c2 h
    exact sa_sub [2] rfl (w4_judge_142 C hR h)
  · replace h := sl_t c2 h
    refine sa_iload_n C dX4_judge_127 rfl 2 rfl ?_
    refine sa_aload_n C dX4_judge_128 rfl 0 rfl ?_
    refine sa_getR C hh_X4 (k := 1) dX4_judge_129 q_236 (by decide) lx_27 rfl ?_
    refine sa_getIN C hh_X0 (k := 8) dX4_judge_132 q_138 (by decide) lx_9 rfl ?_
    refine sa_icmp_ne C dX4_judge_135 (tgt := 142) (by decide) (fun c3 => ?_) (fun c3 => ?_)
    · replace h := sl_n c3 h
      exact sa_sub [2] rfl (w4_judge_142 C hR h)
    · replace h := sl_t c3 h
      refine sa_iconst C dX4_judge_138 ic_1 ?_
      refine sa_goto C dX4_judge_139 (tgt := 143) (by decide) ?_
      exact sa_sub [2] rfl (w4_judge_143 C hR h)
theorem w4_judge_64 {D : va_G} {cA : ClassId} {g : Nat → Nat} {A : Nat → Prop} {z : sl_K} {l : Launch} {p : Program} {e : Env} {R : Room} {s : State} {m : MethodId} {args : Array Value} {below : List Frame} {meth : Method} {c : Code} (C : sl_C RX4 cX4_judge 5 (some .int) sl_cl LX D cA g A z p s m meth c) (hR : 6 ≤ R.frames ∧ 129 ≤ R.locals) {r : Int32 × sl_M} {x1 : Int32} : ∀ (n : Nat) {x3 : Int32} {M : sl_M}, f4_judge_64 x1 n x3 M = some r → sl_A sl_cl LX D cA g A p l e R s m args below meth c (MQ below (sl_Q sl_cl LX D cA g A (some (.int r.1)) r.2) args s 0 0 A) 5 64 [(0, .ref (g 27)), (1, .int x1), (3, .int x3)] [] M := by
  intro n
  induction n with
  | zero =>
    intro x3 M h
    exact absurd h.symm (Option.some_ne_none _)
  | succ n ih =>
    intro x3 M h
    rw [f4_judge_64] at h
    refine sa_iload_n C dX4_judge_64 rfl 2 rfl ?_
    refine sa_aload_n C dX4_judge_65 rfl 0 rfl ?_
    refine sa_getR C hh_X4 (k := 5) dX4_judge_66 q_240 (by decide) lx_27 rfl ?_
    refine sa_getRN C hh_X1 (k := 1) dX4_judge_69 q_226 (by decide) lx_31 rfl ?_
    refine sa_iload_n C dX4_judge_72 rfl 1 rfl ?_
    obtain ⟨v1, ev1, h⟩ := sl_b h
    refine sa_iald C dX4_judge_73 lx_33 ev1 ?_
    refine sa_icmp_ge C dX4_judge_74 (tgt := 114) (by decide) (fun c2 => ?_) (fun c2 => ?_)
    · replace h := sl_t c2 h
      exact sa_sub [0, 1, 2] rfl (w4_judge_114 C hR h)
    · replace h := sl_n c2 h
      refine sa_iload_n C dX4_judge_77 rfl 2 rfl ?_
      refine sa_aload_n C dX4_judge_78 rfl 0 rfl ?_
      refine sa_getR C hh_X4 (k := 1) dX4_judge_79 q_236 (by decide) lx_27 rfl ?_
      refine sa_getIN C hh_X0 (k := 8) dX4_judge_82 q_138 (by decide) lx_9 rfl ?_
      refine sa_icmp_ge C dX4_judge_85 (tgt := 114) (by decide) (fun c3 => ?_) (fun c3 => ?_)
      · replace h := sl_t c3 h
        exact sa_sub [0, 1, 2] rfl (w4_judge_114 C hR h)
      · replace h := sl_n c3 h
        refine sa_aload_n C dX4_judge_88 rfl 0 rfl ?_
        refine sa_getR C hh_X4 (k := 5) dX4_judge_89 q_240 (by decide) lx_27 rfl ?_
        refine sa_iload_n C dX4_judge_92 rfl 1 rfl ?_
        refine sa_iload_n C dX4_judge_93 rfl 2 rfl ?_
        obtain ⟨r4, er4, h⟩ := sl_b h
        refine sa_invVNi C yy_X1_numberAt ⟨q_801, q_52⟩ q_799 dX4_judge_94 (As := [.int x1, .int x3]) (rest := []) rfl ⟨Nat.le_trans (Nat.le_of_ble_eq_true rfl) hR.1, Nat.le_trans (Nat.le_of_ble_eq_true rfl) hR.2⟩ (Nat.le_of_ble_eq_true rfl) hh_X1 lx_31 (cc1_numberAt er4) rfl ?_
        refine sa_aload_n C dX4_judge_97 rfl 0 rfl ?_
        refine sa_getR C hh_X4 (k := 1) dX4_judge_98 q_236 (by decide) lx_27 rfl ?_
        refine sa_iload_n C dX4_judge_101 rfl 2 rfl ?_
        obtain ⟨r5, er5, h⟩ := sl_b h
        refine sa_invVNi C yy_X0_taxOf ⟨q_428, q_17⟩ q_426 dX4_judge_102 (As := [.int x3]) (rest := [.int r4]) rfl ⟨Nat.le_trans (Nat.le_of_ble_eq_true rfl) hR.1, Nat.le_trans (Nat.le_of_ble_eq_true rfl) hR.2⟩ (Nat.le_of_ble_eq_true rfl) hh_X0 lx_9 (cc0_taxOf sl_j1 er5) rfl ?_
        refine sa_icmp_ne C dX4_judge_105 (tgt := 114) (by decide) (fun c6 => ?_) (fun c6 => ?_)
        · replace h := sl_n c6 h
          exact sa_sub [0, 1, 2] rfl (w4_judge_114 C hR h)
        · replace h := sl_t c6 h
          refine sa_iinc C dX4_judge_108 2 rfl (v := (x3 + (1 : Int32))) (by rw [ic_1]) (by decide) (lv2 := [(3, .int (x3 + (1 : Int32))), (0, .ref (g 27)), (1, .int x1)]) rfl ?_
          refine sa_goto C dX4_judge_111 (tgt := 64) (by decide) ?_
          exact sa_sub [1, 2, 0] rfl (ih h)
theorem cc4_judge {D : va_G} {cA : ClassId} {g : Nat → Nat} {A : Nat → Prop} {z : sl_K} {l : Launch} {x1 : Int32} {x2 : Int32} {M : sl_M} {r : Int32 × sl_M} (h : f4_judge x1 x2 M = some r) : sl_N sl_cl LX D cA g A z l yX4_judge cX4_judge 5 (some .int) 6 129 [.ref (g 27), .int x1, .int x2] M (some (.int r.1)) r.2 := by
  refine sl_N.of (by decide) (Nat.le_of_ble_eq_true rfl) rfl ?_
  intro p e s m args below meth c C
  replace C : sl_C RX4 cX4_judge 5 (some .int) sl_cl LX D cA g A z p s m meth c := C
  have hR : 6 ≤ (({ frames := 6, cells := 0, slots := 0, locals := 129 } : Room)).frames ∧ 129 ≤ (({ frames := 6, cells := 0, slots := 0, locals := 129 } : Room)).locals := ⟨Nat.le_refl _, Nat.le_refl _⟩
  rw [f4_judge] at h
  refine sa_iload_n C dX4_judge_0 rfl 1 rfl ?_
  refine sa_invSNi C yy_X1_isSheet q_761 q_760 dX4_judge_1 (As := [.int x1]) (rest := []) rfl ⟨Nat.le_trans (Nat.le_of_ble_eq_true rfl) hR.1, Nat.le_trans (Nat.le_of_ble_eq_true rfl) hR.2⟩ (Nat.le_of_ble_eq_true rfl) (cc1_isSheet rfl) rfl ?_
  refine sa_if_ne C dX4_judge_4 (tgt := 13) (by decide) (fun c1 => ?_) (fun c1 => ?_)
  · replace h := sl_n c1 h
    refine sa_aload_n C dX4_judge_13 rfl 0 rfl ?_
    refine sa_getR C hh_X4 (k := 5) dX4_judge_14 q_240 (by decide) lx_27 rfl ?_
    refine sa_iload_n C dX4_judge_17 rfl 1 rfl ?_
    obtain ⟨r2, er2, h⟩ := sl_b h
    refine sa_invVNi C yy_X1_isMissing ⟨q_773, q_48⟩ q_771 dX4_judge_18 (As := [.int x1]) (rest := []) rfl ⟨Nat.le_trans (Nat.le_of_ble_eq_true rfl) hR.1, Nat.le_trans (Nat.le_of_ble_eq_true rfl) hR.2⟩ (Nat.le_of_ble_eq_true rfl) hh_X1 lx_31 (cc1_isMissing er2) rfl ?_
    refine sa_if_eq C dX4_judge_21 (tgt := 30) (by decide) (fun c3 => ?_) (fun c3 => ?_)
    · replace h := sl_t c3 h
      refine sa_iload_n C dX4_judge_30 rfl 2 rfl ?_
      refine sa_invSi C yy_X4_isSpan q_491 q_490 dX4_judge_31 (As := [.int x2]) (rest := []) rfl ⟨Nat.le_trans (Nat.le_of_ble_eq_true rfl) hR.1, Nat.le_trans (Nat.le_of_ble_eq_true rfl) hR.2⟩ (Nat.le_of_ble_eq_true rfl) (cc4_isSpan rfl) rfl ?_
      refine sa_if_ne C dX4_judge_34 (tgt := 43) (by decide) (fun c4 => ?_) (fun c4 => ?_)
      · replace h := sl_n c4 h
        refine sa_aload_n C dX4_judge_43 rfl 0 rfl ?_
        refine sa_iload_n C dX4_judge_44 rfl 2 rfl ?_
        refine sa_invVi C yy_X4_isTooLate ⟨q_495, q_22⟩ q_493 dX4_judge_45 (As := [.int x2]) (rest := []) rfl ⟨Nat.le_trans (Nat.le_of_ble_eq_true rfl) hR.1, Nat.le_trans (Nat.le_of_ble_eq_true rfl) hR.2⟩ (Nat.le_of_ble_eq_true rfl) hh_X4 lx_27 (cc4_isTooLate rfl) rfl ?_
        refine sa_if_eq C dX4_judge_48 (tgt := 57) (by decide) (fun c5 => ?_) (fun c5 => ?_)
        · replace h := sl_t c5 h
          refine sa_aload_n C dX4_judge_57 rfl 0 rfl ?_
          refine sa_iload_n C dX4_judge_58 rfl 2 rfl ?_
          obtain ⟨r6, er6, h⟩ := sl_b h
          refine sa_invVv C yy_X4_tryYears ⟨q_512, q_25⟩ q_510 dX4_judge_59 (As := [.int x2]) (rest := []) rfl ⟨Nat.le_trans (Nat.le_of_ble_eq_true rfl) hR.1, Nat.le_trans (Nat.le_of_ble_eq_true rfl) hR.2⟩ (Nat.le_of_ble_eq_true rfl) hh_X4 lx_27 (cc4_tryYears er6) rfl ?_
          refine sa_iconst C dX4_judge_62 ic_0 ?_
          refine sa_istore_n C dX4_judge_63 rfl (by decide) (lv2 := [(3, .int (0 : Int32)), (0, .ref (g 27)), (1, .int x1), (2, .int x2)]) rfl ?_
          exact sa_sub [1, 2, 0] rfl (w4_judge_64 C hR 400 h)
        · replace h := sl_n c5 h
          refine sa_aload_n C dX4_judge_51 rfl 0 rfl ?_
          refine sa_iconst C dX4_judge_52 ic_4 ?_
          obtain ⟨r7, er7, h⟩ := sl_b h
          refine sa_invVi C yy_X4_tell ⟨q_272, q_0⟩ q_270 dX4_judge_53 (As := [.int (4 : Int32)]) (rest := []) rfl ⟨Nat.le_trans (Nat.le_of_ble_eq_true rfl) hR.1, Nat.le_trans (Nat.le_of_ble_eq_true rfl) hR.2⟩ (Nat.le_of_ble_eq_true rfl) hh_X4 lx_27 (cc4_tell er7) rfl ?_
          exact sa_iret C dX4_judge_56 (sl_p1 h) (sl_p2 h)
      · replace h := sl_t c4 h
        refine sa_aload_n C dX4_judge_37 rfl 0 rfl ?_
        refine sa_iconst C dX4_judge_38 ic_0 ?_
        obtain ⟨r8, er8, h⟩ := sl_b h
        refine sa_invVi C yy_X4_tell ⟨q_272, q_0⟩ q_270 dX4_judge_39 (As := [.int (0 : Int32)]) (rest := []) rfl ⟨Nat.le_trans (Nat.le_of_ble_eq_true rfl) hR.1, Nat.le_trans (Nat.le_of_ble_eq_true rfl) hR.2⟩ (Nat.le_of_ble_eq_true rfl) hh_X4 lx_27 (cc4_tell er8) rfl ?_
        exact sa_iret C dX4_judge_42 (sl_p1 h) (sl_p2 h)
    · replace h := sl_n c3 h
      refine sa_aload_n C dX4_judge_24 rfl 0 rfl ?_
      refine sa_iconst C dX4_judge_25 ic_5 ?_
      obtain ⟨r9, er9, h⟩ := sl_b h
      refine sa_invVi C yy_X4_tell ⟨q_272, q_0⟩ q_270 dX4_judge_26 (As := [.int (5 : Int32)]) (rest := []) rfl ⟨Nat.le_trans (Nat.le_of_ble_eq_true rfl) hR.1, Nat.le_trans (Nat.le_of_ble_eq_true rfl) hR.2⟩ (Nat.le_of_ble_eq_true rfl) hh_X4 lx_27 (cc4_tell er9) rfl ?_
      exact sa_iret C dX4_judge_29 (sl_p1 h) (sl_p2 h)
  · replace h := sl_t c1 h
    refine sa_aload_n C dX4_judge_7 rfl 0 rfl ?_
    refine sa_iconst C dX4_judge_8 ic_0 ?_
    obtain ⟨r10, er10, h⟩ := sl_b h
    refine sa_invVi C yy_X4_tell ⟨q_272, q_0⟩ q_270 dX4_judge_9 (As := [.int (0 : Int32)]) (rest := []) rfl ⟨Nat.le_trans (Nat.le_of_ble_eq_true rfl) hR.1, Nat.le_trans (Nat.le_of_ble_eq_true rfl) hR.2⟩ (Nat.le_of_ble_eq_true rfl) hh_X4 lx_27 (cc4_tell er10) rfl ?_
    exact sa_iret C dX4_judge_12 (sl_p1 h) (sl_p2 h)
/-! X4 image -/
def f4_image (M : sl_M) : Option (Int32 × sl_M) := (f0_takeAll 2 0 M).bind fun r1 => some ((1 : Int32), (sl_up r1 27 3 (1 : Int32)))
theorem cc4_image {D : va_G} {cA : ClassId} {g : Nat → Nat} {A : Nat → Prop} {z : sl_K} {l : Launch} {M : sl_M} {r : Int32 × sl_M} (h : f4_image M = some r) : sl_N sl_cl LX D cA g A z l yX4_image cX4_image 1 (some .int) 2 61 [.ref (g 27)] M (some (.int r.1)) r.2 := by
  refine sl_N.of (by decide) (Nat.le_of_ble_eq_true rfl) rfl ?_
  intro p e s m args below meth c C
  replace C : sl_C RX4 cX4_image 1 (some .int) sl_cl LX D cA g A z p s m meth c := C
  have hR : 2 ≤ (({ frames := 2, cells := 0, slots := 0, locals := 61 } : Room)).frames ∧ 61 ≤ (({ frames := 2, cells := 0, slots := 0, locals := 61 } : Room)).locals := ⟨Nat.le_refl _, Nat.le_refl _⟩
  rw [f4_image] at h
  refine sa_aload_n C dX4_image_0 rfl 0 rfl ?_
  refine sa_getR C hh_X4 (k := 2) dX4_image_1 q_237 (by decide) lx_27 rfl ?_
  refine sa_aload_n C dX4_image_4 rfl 0 rfl ?_
  refine sa_getR C hh_X4 (k := 0) dX4_image_5 q_235 (by decide) lx_27 rfl ?_
  obtain ⟨r1, er1, h⟩ := sl_b h
  refine sa_invVNv C yy_X0_takeAll ⟨q_457, q_21⟩ q_455 dX4_image_8 (As := [.ref (g 0)]) (rest := []) rfl ⟨Nat.le_trans (Nat.le_of_ble_eq_true rfl) hR.1, Nat.le_trans (Nat.le_of_ble_eq_true rfl) hR.2⟩ (Nat.le_of_ble_eq_true rfl) hh_X0 lx_18 (cc0_takeAll sl_j2 sl_j0 er1) rfl ?_
  refine sa_aload_n C dX4_image_11 rfl 0 rfl ?_
  refine sa_iconst C dX4_image_12 ic_1 ?_
  refine sa_put C hh_X4 (k := 3) dX4_image_13 q_238 (by decide) rfl (fty := .boolean) (by decide) rfl rfl lx_27 rfl ?_
  refine sa_iconst C dX4_image_16 ic_1 ?_
  exact sa_iret C dX4_image_17 (sl_p1 h) (sl_p2 h)
/-! X4 undo -/
def f4_undo (M : sl_M) : Option (Int32 × sl_M) := (if (M 27 3) = 0 then (f4_tell (3 : Int32) M).bind fun r3 => some (r3.1, r3.2) else (f0_takeAll 0 2 M).bind fun r2 => some ((r2 0 11), r2))
theorem cc4_undo {D : va_G} {cA : ClassId} {g : Nat → Nat} {A : Nat → Prop} {z : sl_K} {l : Launch} {M : sl_M} {r : Int32 × sl_M} (h : f4_undo M = some r) : sl_N sl_cl LX D cA g A z l yX4_undo cX4_undo 1 (some .int) 2 61 [.ref (g 27)] M (some (.int r.1)) r.2 := by
  refine sl_N.of (by decide) (Nat.le_of_ble_eq_true rfl) rfl ?_
  intro p e s m args below meth c C
  replace C : sl_C RX4 cX4_undo 1 (some .int) sl_cl LX D cA g A z p s m meth c := C
  have hR : 2 ≤ (({ frames := 2, cells := 0, slots := 0, locals := 61 } : Room)).frames ∧ 61 ≤ (({ frames := 2, cells := 0, slots := 0, locals := 61 } : Room)).locals := ⟨Nat.le_refl _, Nat.le_refl _⟩
  rw [f4_undo] at h
  refine sa_aload_n C dX4_undo_0 rfl 0 rfl ?_
  refine sa_getI C hh_X4 (k := 3) dX4_undo_1 q_238 (by decide) lx_27 rfl ?_
  refine sa_if_ne C dX4_undo_4 (tgt := 13) (by decide) (fun c1 => ?_) (fun c1 => ?_)
  · replace h := sl_n c1 h
    refine sa_aload_n C dX4_undo_13 rfl 0 rfl ?_
    refine sa_getR C hh_X4 (k := 0) dX4_undo_14 q_235 (by decide) lx_27 rfl ?_
    refine sa_aload_n C dX4_undo_17 rfl 0 rfl ?_
    refine sa_getR C hh_X4 (k := 2) dX4_undo_18 q_237 (by decide) lx_27 rfl ?_
    obtain ⟨r2, er2, h⟩ := sl_b h
    refine sa_invVNv C yy_X0_takeAll ⟨q_457, q_21⟩ q_455 dX4_undo_21 (As := [.ref (g 18)]) (rest := []) rfl ⟨Nat.le_trans (Nat.le_of_ble_eq_true rfl) hR.1, Nat.le_trans (Nat.le_of_ble_eq_true rfl) hR.2⟩ (Nat.le_of_ble_eq_true rfl) hh_X0 lx_0 (cc0_takeAll sl_j0 sl_j2 er2) rfl ?_
    refine sa_aload_n C dX4_undo_24 rfl 0 rfl ?_
    refine sa_getR C hh_X4 (k := 0) dX4_undo_25 q_235 (by decide) lx_27 rfl ?_
    refine sa_getIN C hh_X0 (k := 11) dX4_undo_28 q_146 (by decide) lx_0 rfl ?_
    exact sa_iret C dX4_undo_31 (sl_p1 h) (sl_p2 h)
  · replace h := sl_t c1 h
    refine sa_aload_n C dX4_undo_7 rfl 0 rfl ?_
    refine sa_iconst C dX4_undo_8 ic_3 ?_
    obtain ⟨r3, er3, h⟩ := sl_b h
    refine sa_invVi C yy_X4_tell ⟨q_272, q_0⟩ q_270 dX4_undo_9 (As := [.int (3 : Int32)]) (rest := []) rfl ⟨Nat.le_trans (Nat.le_of_ble_eq_true rfl) hR.1, Nat.le_trans (Nat.le_of_ble_eq_true rfl) hR.2⟩ (Nat.le_of_ble_eq_true rfl) hh_X4 lx_27 (cc4_tell er3) rfl ?_
    exact sa_iret C dX4_undo_12 (sl_p1 h) (sl_p2 h)
/-! X4 tear -/
def f4_tear_12 (t0 : Int32) (M : sl_M) : Option (Int32 × sl_M) := some (t0, (sl_up M 27 3 (0 : Int32)))
def f4_tear (M : sl_M) : Option (Int32 × sl_M) := (if (M 27 3) = 0 then f4_tear_12 (0 : Int32) M else f4_tear_12 (1 : Int32) M)
theorem w4_tear_12 {D : va_G} {cA : ClassId} {g : Nat → Nat} {A : Nat → Prop} {z : sl_K} {l : Launch} {p : Program} {e : Env} {R : Room} {s : State} {m : MethodId} {args : Array Value} {below : List Frame} {meth : Method} {c : Code} (C : sl_C RX4 cX4_tear 2 (some .int) sl_cl LX D cA g A z p s m meth c) (hR : 0 ≤ R.frames ∧ 0 ≤ R.locals) {M : sl_M} {r : Int32 × sl_M} {t0 : Int32} (h : f4_tear_12 t0 M = some r) : sl_A sl_cl LX D cA g A p l e R s m args below meth c (MQ below (sl_Q sl_cl LX D cA g A (some (.int r.1)) r.2) args s 0 0 A) 2 12 [(0, .ref (g 27))] [.int t0] M := by
  rw [f4_tear_12] at h
  refine sa_istore_n C dX4_tear_12 rfl (by decide) (lv2 := [(1, .int t0), (0, .ref (g 27))]) rfl ?_
  refine sa_aload_n C dX4_tear_13 rfl 1 rfl ?_
  refine sa_iconst C dX4_tear_14 ic_0 ?_
  refine sa_put C hh_X4 (k := 3) dX4_tear_15 q_238 (by decide) rfl (fty := .boolean) (by decide) rfl rfl lx_27 rfl ?_
  refine sa_iload_n C dX4_tear_18 rfl 0 rfl ?_
  exact sa_iret C dX4_tear_19 (sl_p1 h) (sl_p2 h)
theorem cc4_tear {D : va_G} {cA : ClassId} {g : Nat → Nat} {A : Nat → Prop} {z : sl_K} {l : Launch} {M : sl_M} {r : Int32 × sl_M} (h : f4_tear M = some r) : sl_N sl_cl LX D cA g A z l yX4_tear cX4_tear 2 (some .int) 0 0 [.ref (g 27)] M (some (.int r.1)) r.2 := by
  refine sl_N.of (by decide) (Nat.le_of_ble_eq_true rfl) rfl ?_
  intro p e s m args below meth c C
  replace C : sl_C RX4 cX4_tear 2 (some .int) sl_cl LX D cA g A z p s m meth c := C
  have hR : 0 ≤ (({ frames := 0, cells := 0, slots := 0, locals := 0 } : Room)).frames ∧ 0 ≤ (({ frames := 0, cells := 0, slots := 0, locals := 0 } : Room)).locals := ⟨Nat.le_refl _, Nat.le_refl _⟩
  rw [f4_tear] at h
  refine sa_aload_n C dX4_tear_0 rfl 0 rfl ?_
  refine sa_getI C hh_X4 (k := 3) dX4_tear_1 q_238 (by decide) lx_27 rfl ?_
  refine sa_if_eq C dX4_tear_4 (tgt := 11) (by decide) (fun c1 => ?_) (fun c1 => ?_)
  · replace h := sl_t c1 h
    refine sa_iconst C dX4_tear_11 ic_0 ?_
    exact sa_sub [0] rfl (w4_tear_12 C hR h)
  · replace h := sl_n c1 h
    refine sa_iconst C dX4_tear_7 ic_1 ?_
    refine sa_goto C dX4_tear_8 (tgt := 12) (by decide) ?_
    exact sa_sub [0] rfl (w4_tear_12 C hR h)
/-! X4 count -/
def f4_count (x1 : Int32) (M : sl_M) : Option (Int32 × sl_M) := (if x1 = (0 : Int32) then some ((M 0 11), M) else (if x1 = (1 : Int32) then some ((M 0 8), M) else (if x1 = (2 : Int32) then (f0_allTax 0 M).bind fun r4 => some (r4, M) else (if x1 = (3 : Int32) then (f0_allSight 0 M).bind fun r6 => some ((fJ6_bitCount_0f7a4 r6), M) else (if x1 = (4 : Int32) then some ((M 28 1), M) else (if x1 = (5 : Int32) then some ((M 0 12), M) else (if x1 = (6 : Int32) then (f0_spotsInUse 0 M).bind fun r10 => some (r10, M) else (f4_tell (0 : Int32) M).bind fun r11 => some (r11.1, r11.2))))))))
theorem cc4_count {D : va_G} {cA : ClassId} {g : Nat → Nat} {A : Nat → Prop} {z : sl_K} {l : Launch} {x1 : Int32} {M : sl_M} {r : Int32 × sl_M} (h : f4_count x1 M = some r) : sl_N sl_cl LX D cA g A z l yX4_count cX4_count 2 (some .int) 6 141 [.ref (g 27), .int x1] M (some (.int r.1)) r.2 := by
  refine sl_N.of (by decide) (Nat.le_of_ble_eq_true rfl) rfl ?_
  intro p e s m args below meth c C
  replace C : sl_C RX4 cX4_count 2 (some .int) sl_cl LX D cA g A z p s m meth c := C
  have hR : 6 ≤ (({ frames := 6, cells := 0, slots := 0, locals := 141 } : Room)).frames ∧ 141 ≤ (({ frames := 6, cells := 0, slots := 0, locals := 141 } : Room)).locals := ⟨Nat.le_refl _, Nat.le_refl _⟩
  rw [f4_count] at h
  refine sa_iload_n C dX4_count_0 rfl 1 rfl ?_
  by_cases c1 : x1 = (0 : Int32)
  · replace h := sl_t c1 h
    refine sa_swIn C dX4_count_1 c1 (k := (0 : Int32)) ⟨by decide, by decide, rfl⟩ (tgt := 44) (by decide) ?_
    refine sa_aload_n C dX4_count_44 rfl 0 rfl ?_
    refine sa_getR C hh_X4 (k := 0) dX4_count_45 q_235 (by decide) lx_27 rfl ?_
    refine sa_getIN C hh_X0 (k := 11) dX4_count_48 q_146 (by decide) lx_0 rfl ?_
    exact sa_iret C dX4_count_51 (sl_p1 h) (sl_p2 h)
  · replace h := sl_n c1 h
    by_cases c2 : x1 = (1 : Int32)
    · replace h := sl_t c2 h
      refine sa_swIn C dX4_count_1 c2 (k := (1 : Int32)) ⟨by decide, by decide, rfl⟩ (tgt := 52) (by decide) ?_
      refine sa_aload_n C dX4_count_52 rfl 0 rfl ?_
      refine sa_getR C hh_X4 (k := 0) dX4_count_53 q_235 (by decide) lx_27 rfl ?_
      refine sa_getIN C hh_X0 (k := 8) dX4_count_56 q_138 (by decide) lx_0 rfl ?_
      exact sa_iret C dX4_count_59 (sl_p1 h) (sl_p2 h)
    · replace h := sl_n c2 h
      by_cases c3 : x1 = (2 : Int32)
      · replace h := sl_t c3 h
        refine sa_swIn C dX4_count_1 c3 (k := (2 : Int32)) ⟨by decide, by decide, rfl⟩ (tgt := 60) (by decide) ?_
        refine sa_aload_n C dX4_count_60 rfl 0 rfl ?_
        refine sa_getR C hh_X4 (k := 0) dX4_count_61 q_235 (by decide) lx_27 rfl ?_
        obtain ⟨r4, er4, h⟩ := sl_b h
        refine sa_invVNi C yy_X0_allTax ⟨q_444, q_19⟩ q_442 dX4_count_64 (As := []) (rest := []) rfl ⟨Nat.le_trans (Nat.le_of_ble_eq_true rfl) hR.1, Nat.le_trans (Nat.le_of_ble_eq_true rfl) hR.2⟩ (Nat.le_of_ble_eq_true rfl) hh_X0 lx_0 (cc0_allTax sl_j0 er4) rfl ?_
        exact sa_iret C dX4_count_67 (sl_p1 h) (sl_p2 h)
      · replace h := sl_n c3 h
        by_cases c5 : x1 = (3 : Int32)
        · replace h := sl_t c5 h
          refine sa_swIn C dX4_count_1 c5 (k := (3 : Int32)) ⟨by decide, by decide, rfl⟩ (tgt := 68) (by decide) ?_
          refine sa_aload_n C dX4_count_68 rfl 0 rfl ?_
          refine sa_getR C hh_X4 (k := 0) dX4_count_69 q_235 (by decide) lx_27 rfl ?_
          obtain ⟨r6, er6, h⟩ := sl_b h
          refine sa_invVNi C yy_X0_allSight ⟨q_545, q_28⟩ q_543 dX4_count_72 (As := []) (rest := []) rfl ⟨Nat.le_trans (Nat.le_of_ble_eq_true rfl) hR.1, Nat.le_trans (Nat.le_of_ble_eq_true rfl) hR.2⟩ (Nat.le_of_ble_eq_true rfl) hh_X0 lx_0 (cc0_allSight sl_j0 er6) rfl ?_
          refine sa_invSi C yy_J6_bitCount_0f7a4 q_467 q_466 dX4_count_75 (As := [.int r6]) (rest := []) rfl ⟨Nat.le_trans (Nat.le_of_ble_eq_true rfl) hR.1, Nat.le_trans (Nat.le_of_ble_eq_true rfl) hR.2⟩ (Nat.le_of_ble_eq_true rfl) (ccJ6_bitCount_0f7a4 rfl) rfl ?_
          exact sa_iret C dX4_count_78 (sl_p1 h) (sl_p2 h)
        · replace h := sl_n c5 h
          by_cases c7 : x1 = (4 : Int32)
          · replace h := sl_t c7 h
            refine sa_swIn C dX4_count_1 c7 (k := (4 : Int32)) ⟨by decide, by decide, rfl⟩ (tgt := 79) (by decide) ?_
            refine sa_aload_n C dX4_count_79 rfl 0 rfl ?_
            refine sa_getR C hh_X4 (k := 4) dX4_count_80 q_239 (by decide) lx_27 rfl ?_
            refine sa_getRN C hh_X3 (k := 0) dX4_count_83 q_213 (by decide) lx_30 rfl ?_
            refine sa_getIN C hh_X2 (k := 1) dX4_count_86 q_191 (by decide) lx_28 rfl ?_
            exact sa_iret C dX4_count_89 (sl_p1 h) (sl_p2 h)
          · replace h := sl_n c7 h
            by_cases c8 : x1 = (5 : Int32)
            · replace h := sl_t c8 h
              refine sa_swIn C dX4_count_1 c8 (k := (5 : Int32)) ⟨by decide, by decide, rfl⟩ (tgt := 90) (by decide) ?_
              refine sa_aload_n C dX4_count_90 rfl 0 rfl ?_
              refine sa_getR C hh_X4 (k := 0) dX4_count_91 q_235 (by decide) lx_27 rfl ?_
              refine sa_getIN C hh_X0 (k := 12) dX4_count_94 q_148 (by decide) lx_0 rfl ?_
              exact sa_iret C dX4_count_97 (sl_p1 h) (sl_p2 h)
            · replace h := sl_n c8 h
              by_cases c9 : x1 = (6 : Int32)
              · replace h := sl_t c9 h
                refine sa_swIn C dX4_count_1 c9 (k := (6 : Int32)) ⟨by decide, by decide, rfl⟩ (tgt := 98) (by decide) ?_
                refine sa_aload_n C dX4_count_98 rfl 0 rfl ?_
                refine sa_getR C hh_X4 (k := 0) dX4_count_99 q_235 (by decide) lx_27 rfl ?_
                obtain ⟨r10, er10, h⟩ := sl_b h
                refine sa_invVNi C yy_X0_spotsInUse ⟨q_825, q_53⟩ q_823 dX4_count_102 (As := []) (rest := []) rfl ⟨Nat.le_trans (Nat.le_of_ble_eq_true rfl) hR.1, Nat.le_trans (Nat.le_of_ble_eq_true rfl) hR.2⟩ (Nat.le_of_ble_eq_true rfl) hh_X0 lx_0 (cc0_spotsInUse sl_j0 er10) rfl ?_
                exact sa_iret C dX4_count_105 (sl_p1 h) (sl_p2 h)
              · replace h := sl_n c9 h
                refine sa_swOut C dX4_count_1 (by have := lv_neT (a := 0) c1 (by decide); have := lv_neT (a := 1) c2 (by decide); have := lv_neT (a := 2) c3 (by decide); have := lv_neT (a := 3) c5 (by decide); have := lv_neT (a := 4) c7 (by decide); have := lv_neT (a := 5) c8 (by decide); have := lv_neT (a := 6) c9 (by decide); omega) (tgt := 106) (by decide) ?_
                refine sa_aload_n C dX4_count_106 rfl 0 rfl ?_
                refine sa_iconst C dX4_count_107 ic_0 ?_
                obtain ⟨r11, er11, h⟩ := sl_b h
                refine sa_invVi C yy_X4_tell ⟨q_272, q_0⟩ q_270 dX4_count_108 (As := [.int (0 : Int32)]) (rest := []) rfl ⟨Nat.le_trans (Nat.le_of_ble_eq_true rfl) hR.1, Nat.le_trans (Nat.le_of_ble_eq_true rfl) hR.2⟩ (Nat.le_of_ble_eq_true rfl) hh_X4 lx_27 (cc4_tell er11) rfl ?_
                exact sa_iret C dX4_count_111 (sl_p1 h) (sl_p2 h)
/-! X4 status -/
def f4_status_9 : Nat → Int32 → Int32 → sl_M → Option (Int32 × sl_M)
  | 0, _, _, _ => none
  | n + 1, x2, x3, M => (if (6 : Int32) < x3 then some (x2, M) else (sl_ld (M 35) 7 x3).bind fun v2 => f4_status_9 n (x2 + v2) (x3 + (1 : Int32)) M)
def f4_status (x1 : Int32) (M : sl_M) : Option (Int32 × sl_M) := (if x1 = (-1 : Int32) then f4_status_9 400 (0 : Int32) (0 : Int32) M else (if (f4_isWithin x1 (0 : Int32) (6 : Int32)) = 0 then (f4_tell (0 : Int32) M).bind fun r4 => some (r4.1, r4.2) else (sl_ld (M 35) 7 x1).bind fun v3 => some (v3, M)))
theorem w4_status_9 {D : va_G} {cA : ClassId} {g : Nat → Nat} {A : Nat → Prop} {z : sl_K} {l : Launch} {p : Program} {e : Env} {R : Room} {s : State} {m : MethodId} {args : Array Value} {below : List Frame} {meth : Method} {c : Code} (C : sl_C RX4 cX4_status 4 (some .int) sl_cl LX D cA g A z p s m meth c) (hR : 1 ≤ R.frames ∧ 22 ≤ R.locals) {r : Int32 × sl_M} : ∀ (n : Nat) {x2 : Int32} {x3 : Int32} {M : sl_M}, f4_status_9 n x2 x3 M = some r → sl_A sl_cl LX D cA g A p l e R s m args below meth c (MQ below (sl_Q sl_cl LX D cA g A (some (.int r.1)) r.2) args s 0 0 A) 4 9 [(0, .ref (g 27)), (2, .int x2), (3, .int x3)] [] M := by
  intro n
  induction n with
  | zero =>
    intro x2 x3 M h
    exact absurd h.symm (Option.some_ne_none _)
  | succ n ih =>
    intro x2 x3 M h
    rw [f4_status_9] at h
    refine sa_iload_n C dX4_status_9 rfl 2 rfl ?_
    refine sa_bipush C dX4_status_10 bp_6 ?_
    refine sa_icmp_gt C dX4_status_12 (tgt := 30) (by decide) (fun c1 => ?_) (fun c1 => ?_)
    · replace h := sl_t c1 h
      refine sa_iload_n C dX4_status_30 rfl 1 rfl ?_
      exact sa_iret C dX4_status_31 (sl_p1 h) (sl_p2 h)
    · replace h := sl_n c1 h
      refine sa_iload_n C dX4_status_15 rfl 1 rfl ?_
      refine sa_aload_n C dX4_status_16 rfl 0 rfl ?_
      refine sa_getR C hh_X4 (k := 6) dX4_status_17 q_241 (by decide) lx_27 rfl ?_
      refine sa_iload_n C dX4_status_20 rfl 2 rfl ?_
      obtain ⟨v2, ev2, h⟩ := sl_b h
      refine sa_iald C dX4_status_21 lx_35 ev2 ?_
      refine sa_iadd C dX4_status_22 ?_
      refine sa_istore_n C dX4_status_23 rfl (by decide) (lv2 := [(2, .int (x2 + v2)), (0, .ref (g 27)), (3, .int x3)]) rfl ?_
      refine sa_iinc C dX4_status_24 2 rfl (v := (x3 + (1 : Int32))) (by rw [ic_1]) (by decide) (lv2 := [(3, .int (x3 + (1 : Int32))), (2, .int (x2 + v2)), (0, .ref (g 27))]) rfl ?_
      refine sa_goto C dX4_status_27 (tgt := 9) (by decide) ?_
      exact sa_sub [2, 1, 0] rfl (ih h)
theorem cc4_status {D : va_G} {cA : ClassId} {g : Nat → Nat} {A : Nat → Prop} {z : sl_K} {l : Launch} {x1 : Int32} {M : sl_M} {r : Int32 × sl_M} (h : f4_status x1 M = some r) : sl_N sl_cl LX D cA g A z l yX4_status cX4_status 4 (some .int) 1 22 [.ref (g 27), .int x1] M (some (.int r.1)) r.2 := by
  refine sl_N.of (by decide) (Nat.le_of_ble_eq_true rfl) rfl ?_
  intro p e s m args below meth c C
  replace C : sl_C RX4 cX4_status 4 (some .int) sl_cl LX D cA g A z p s m meth c := C
  have hR : 1 ≤ (({ frames := 1, cells := 0, slots := 0, locals := 22 } : Room)).frames ∧ 22 ≤ (({ frames := 1, cells := 0, slots := 0, locals := 22 } : Room)).locals := ⟨Nat.le_refl _, Nat.le_refl _⟩
  rw [f4_status] at h
  refine sa_iload_n C dX4_status_0 rfl 1 rfl ?_
  refine sa_iconst C dX4_status_1 ic_m1 ?_
  refine sa_icmp_ne C dX4_status_2 (tgt := 32) (by decide) (fun c1 => ?_) (fun c1 => ?_)
  · replace h := sl_n c1 h
    refine sa_iload_n C dX4_status_32 rfl 1 rfl ?_
    refine sa_iconst C dX4_status_33 ic_0 ?_
    refine sa_bipush C dX4_status_34 bp_6 ?_
    refine sa_invSi C yy_X4_isWithin q_268 q_267 dX4_status_36 (As := [.int x1, .int (0 : Int32), .int (6 : Int32)]) (rest := []) rfl ⟨Nat.le_trans (Nat.le_of_ble_eq_true rfl) hR.1, Nat.le_trans (Nat.le_of_ble_eq_true rfl) hR.2⟩ (Nat.le_of_ble_eq_true rfl) (cc4_isWithin rfl) rfl ?_
    refine sa_if_ne C dX4_status_39 (tgt := 48) (by decide) (fun c2 => ?_) (fun c2 => ?_)
    · replace h := sl_n c2 h
      refine sa_aload_n C dX4_status_48 rfl 0 rfl ?_
      refine sa_getR C hh_X4 (k := 6) dX4_status_49 q_241 (by decide) lx_27 rfl ?_
      refine sa_iload_n C dX4_status_52 rfl 1 rfl ?_
      obtain ⟨v3, ev3, h⟩ := sl_b h
      refine sa_iald C dX4_status_53 lx_35 ev3 ?_
      exact sa_iret C dX4_status_54 (sl_p1 h) (sl_p2 h)
    · replace h := sl_t c2 h
      refine sa_aload_n C dX4_status_42 rfl 0 rfl ?_
      refine sa_iconst C dX4_status_43 ic_0 ?_
      obtain ⟨r4, er4, h⟩ := sl_b h
      refine sa_invVi C yy_X4_tell ⟨q_272, q_0⟩ q_270 dX4_status_44 (As := [.int (0 : Int32)]) (rest := []) rfl ⟨Nat.le_trans (Nat.le_of_ble_eq_true rfl) hR.1, Nat.le_trans (Nat.le_of_ble_eq_true rfl) hR.2⟩ (Nat.le_of_ble_eq_true rfl) hh_X4 lx_27 (cc4_tell er4) rfl ?_
      exact sa_iret C dX4_status_47 (sl_p1 h) (sl_p2 h)
  · replace h := sl_t c1 h
    refine sa_iconst C dX4_status_5 ic_0 ?_
    refine sa_istore_n C dX4_status_6 rfl (by decide) (lv2 := [(2, .int (0 : Int32)), (0, .ref (g 27)), (1, .int x1)]) rfl ?_
    refine sa_iconst C dX4_status_7 ic_0 ?_
    refine sa_istore_n C dX4_status_8 rfl (by decide) (lv2 := [(3, .int (0 : Int32)), (2, .int (0 : Int32)), (0, .ref (g 27)), (1, .int x1)]) rfl ?_
    exact sa_sub [2, 1, 0] rfl (w4_status_9 C hR 400 h)
