/-! X2 hasRoomFor -/
def f2_hasRoomFor (x1 : Int32) (M : sl_M) : Int32 := (if (120 : Int32) < ((M 28 1) + x1) then (0 : Int32) else (1 : Int32))
theorem f2_hasRoomFor_b {x1 : Int32} {M : sl_M} : f2_hasRoomFor x1 M = 0 ∨ f2_hasRoomFor x1 M = 1 := by
  rw [f2_hasRoomFor]
  first | exact if_b | ((repeat' split) <;> first | exact Or.inl rfl | exact Or.inr rfl)
theorem cc2_hasRoomFor {D : va_G} {cA : ClassId} {g : Nat → Nat} {A : Nat → Prop} {z : sl_K} {l : Launch} {x1 : Int32} {M : sl_M} {r : Int32} (h : f2_hasRoomFor x1 M = r) : sl_N sl_cl LX D cA g A z l yX2_hasRoomFor cX2_hasRoomFor 2 (some .boolean) 0 0 [.ref (g 28), .int x1] M (some (.int r)) M := by
  refine sl_N.of (by decide) (Nat.le_of_ble_eq_true rfl) rfl ?_
  intro p e s m args below meth c C
  replace C : sl_C RX2 cX2_hasRoomFor 2 (some .boolean) sl_cl LX D cA g A z p s m meth c := C
  have hR : 0 ≤ (({ frames := 0, cells := 0, slots := 0, locals := 0 } : Room)).frames ∧ 0 ≤ (({ frames := 0, cells := 0, slots := 0, locals := 0 } : Room)).locals := ⟨Nat.le_refl _, Nat.le_refl _⟩
  rw [f2_hasRoomFor] at h
  refine sa_aload_n C dX2_hasRoomFor_0 rfl 0 rfl ?_
  refine sa_getI C hh_X2 (k := 1) dX2_hasRoomFor_1 q_190 (by decide) lx_28 rfl ?_
  refine sa_iload_n C dX2_hasRoomFor_4 rfl 1 rfl ?_
  refine sa_iadd C dX2_hasRoomFor_5 ?_
  refine sa_bipush C dX2_hasRoomFor_6 bp_120 ?_
  refine sa_icmp_gt C dX2_hasRoomFor_8 (tgt := 15) (by decide) (fun c1 => ?_) (fun c1 => ?_)
  · replace h := sl_t c1 h
    refine sa_iconst C dX2_hasRoomFor_15 ic_0 ?_
    exact sa_zret C dX2_hasRoomFor_16 (Or.inl rfl) h rfl
  · replace h := sl_n c1 h
    refine sa_iconst C dX2_hasRoomFor_11 ic_1 ?_
    refine sa_goto C dX2_hasRoomFor_12 (tgt := 16) (by decide) ?_
    exact sa_zret C dX2_hasRoomFor_16 (Or.inr rfl) h rfl
/-! X2 append -/
def f2_append (x1 : Int32) (M : sl_M) : Option sl_M := (sl_st M 29 120 (M 28 1) (x1 &&& (255 : Int32))).bind fun M1 => some (sl_up M1 28 1 ((M1 28 1) + (1 : Int32)))
theorem cc2_append {D : va_G} {cA : ClassId} {g : Nat → Nat} {A : Nat → Prop} {z : sl_K} {l : Launch} {x1 : Int32} {M : sl_M} {r : sl_M} (h : f2_append x1 M = some r) : sl_N sl_cl LX D cA g A z l yX2_append cX2_append 2 none 0 0 [.ref (g 28), .int x1] M none r := by
  refine sl_N.of (by decide) (Nat.le_of_ble_eq_true rfl) rfl ?_
  intro p e s m args below meth c C
  replace C : sl_C RX2 cX2_append 2 none sl_cl LX D cA g A z p s m meth c := C
  have hR : 0 ≤ (({ frames := 0, cells := 0, slots := 0, locals := 0 } : Room)).frames ∧ 0 ≤ (({ frames := 0, cells := 0, slots := 0, locals := 0 } : Room)).locals := ⟨Nat.le_refl _, Nat.le_refl _⟩
  rw [f2_append] at h
  refine sa_aload_n C dX2_append_0 rfl 0 rfl ?_
  refine sa_getR C hh_X2 (k := 0) dX2_append_1 q_189 (by decide) lx_28 rfl ?_
  refine sa_aload_n C dX2_append_4 rfl 0 rfl ?_
  refine sa_getI C hh_X2 (k := 1) dX2_append_5 q_190 (by decide) lx_28 rfl ?_
  refine sa_iload_n C dX2_append_8 rfl 1 rfl ?_
  refine sa_sipush C dX2_append_9 sp_255 ?_
  refine sa_iand C dX2_append_12 ?_
  obtain ⟨M1, eM1, h⟩ := sl_b h
  refine sa_iast C dX2_append_13 lx_29 eM1 ?_
  refine sa_aload_n C dX2_append_14 rfl 0 rfl ?_
  refine sa_dup C dX2_append_15 rfl ?_
  refine sa_getI C hh_X2 (k := 1) dX2_append_16 q_190 (by decide) lx_28 rfl ?_
  refine sa_iconst C dX2_append_19 ic_1 ?_
  refine sa_iadd C dX2_append_20 ?_
  refine sa_put C hh_X2 (k := 1) dX2_append_21 q_190 (by decide) rfl (fty := .int) (by decide) rfl rfl lx_28 rfl ?_
  exact sa_vret C dX2_append_24 (Option.some.inj h)
/-! X2 sortAt -/
def f2_sortAt_45 (x2 : Int32) (M : sl_M) : Option Int32 := (if x2 = (59 : Int32) then some (3 : Int32) else some (4 : Int32))
def f2_sortAt_31 (x2 : Int32) (M : sl_M) : Option Int32 := (if x2 < (48 : Int32) then f2_sortAt_45 x2 M else (if (57 : Int32) < x2 then f2_sortAt_45 x2 M else some (2 : Int32)))
def f2_sortAt (x1 : Int32) (M : sl_M) : Option Int32 := (if x1 < (M 28 1) then (sl_ld (M 29) 120 x1).bind fun v2 => (if v2 < (97 : Int32) then f2_sortAt_31 v2 M else (if (122 : Int32) < v2 then f2_sortAt_31 v2 M else some (1 : Int32))) else some (0 : Int32))
theorem w2_sortAt_45 {D : va_G} {cA : ClassId} {g : Nat → Nat} {A : Nat → Prop} {z : sl_K} {l : Launch} {p : Program} {e : Env} {R : Room} {s : State} {m : MethodId} {args : Array Value} {below : List Frame} {meth : Method} {c : Code} (C : sl_C RX2 cX2_sortAt 3 (some .int) sl_cl LX D cA g A z p s m meth c) (hR : 0 ≤ R.frames ∧ 0 ≤ R.locals) {M : sl_M} {r : Int32} {x2 : Int32} (h : f2_sortAt_45 x2 M = some r) : sl_A sl_cl LX D cA g A p l e R s m args below meth c (MQ below (sl_Q sl_cl LX D cA g A (some (.int r)) M) args s 0 0 A) 3 45 [(2, .int x2)] [] M := by
  rw [f2_sortAt_45] at h
  refine sa_iload_n C dX2_sortAt_45 rfl 0 rfl ?_
  refine sa_bipush C dX2_sortAt_46 bp_59 ?_
  refine sa_icmp_ne C dX2_sortAt_48 (tgt := 55) (by decide) (fun c1 => ?_) (fun c1 => ?_)
  · replace h := sl_n c1 h
    refine sa_iconst C dX2_sortAt_55 ic_4 ?_
    exact sa_iret C dX2_sortAt_56 (Option.some.inj h) rfl
  · replace h := sl_t c1 h
    refine sa_iconst C dX2_sortAt_51 ic_3 ?_
    refine sa_goto C dX2_sortAt_52 (tgt := 56) (by decide) ?_
    exact sa_iret C dX2_sortAt_56 (Option.some.inj h) rfl
theorem w2_sortAt_31 {D : va_G} {cA : ClassId} {g : Nat → Nat} {A : Nat → Prop} {z : sl_K} {l : Launch} {p : Program} {e : Env} {R : Room} {s : State} {m : MethodId} {args : Array Value} {below : List Frame} {meth : Method} {c : Code} (C : sl_C RX2 cX2_sortAt 3 (some .int) sl_cl LX D cA g A z p s m meth c) (hR : 0 ≤ R.frames ∧ 0 ≤ R.locals) {M : sl_M} {r : Int32} {x2 : Int32} (h : f2_sortAt_31 x2 M = some r) : sl_A sl_cl LX D cA g A p l e R s m args below meth c (MQ below (sl_Q sl_cl LX D cA g A (some (.int r)) M) args s 0 0 A) 3 31 [(2, .int x2)] [] M := by
  rw [f2_sortAt_31] at h
  refine sa_iload_n C dX2_sortAt_31 rfl 0 rfl ?_
  refine sa_bipush C dX2_sortAt_32 bp_48 ?_
  refine sa_icmp_lt C dX2_sortAt_34 (tgt := 45) (by decide) (fun c1 => ?_) (fun c1 => ?_)
  · replace h := sl_t c1 h
    exact sa_sub [0] rfl (w2_sortAt_45 C hR h)
  · replace h := sl_n c1 h
    refine sa_iload_n C dX2_sortAt_37 rfl 0 rfl ?_
    refine sa_bipush C dX2_sortAt_38 bp_57 ?_
    refine sa_icmp_gt C dX2_sortAt_40 (tgt := 45) (by decide) (fun c2 => ?_) (fun c2 => ?_)
    · replace h := sl_t c2 h
      exact sa_sub [0] rfl (w2_sortAt_45 C hR h)
    · replace h := sl_n c2 h
      refine sa_iconst C dX2_sortAt_43 ic_2 ?_
      exact sa_iret C dX2_sortAt_44 (Option.some.inj h) rfl
theorem cc2_sortAt {D : va_G} {cA : ClassId} {g : Nat → Nat} {A : Nat → Prop} {z : sl_K} {l : Launch} {x1 : Int32} {M : sl_M} {r : Int32} (h : f2_sortAt x1 M = some r) : sl_N sl_cl LX D cA g A z l yX2_sortAt cX2_sortAt 3 (some .int) 0 0 [.ref (g 28), .int x1] M (some (.int r)) M := by
  refine sl_N.of (by decide) (Nat.le_of_ble_eq_true rfl) rfl ?_
  intro p e s m args below meth c C
  replace C : sl_C RX2 cX2_sortAt 3 (some .int) sl_cl LX D cA g A z p s m meth c := C
  have hR : 0 ≤ (({ frames := 0, cells := 0, slots := 0, locals := 0 } : Room)).frames ∧ 0 ≤ (({ frames := 0, cells := 0, slots := 0, locals := 0 } : Room)).locals := ⟨Nat.le_refl _, Nat.le_refl _⟩
  rw [f2_sortAt] at h
  refine sa_iload_n C dX2_sortAt_0 rfl 1 rfl ?_
  refine sa_aload_n C dX2_sortAt_1 rfl 0 rfl ?_
  refine sa_getI C hh_X2 (k := 1) dX2_sortAt_2 q_190 (by decide) lx_28 rfl ?_
  refine sa_icmp_lt C dX2_sortAt_5 (tgt := 10) (by decide) (fun c1 => ?_) (fun c1 => ?_)
  · replace h := sl_t c1 h
    refine sa_aload_n C dX2_sortAt_10 rfl 0 rfl ?_
    refine sa_getR C hh_X2 (k := 0) dX2_sortAt_11 q_189 (by decide) lx_28 rfl ?_
    refine sa_iload_n C dX2_sortAt_14 rfl 1 rfl ?_
    obtain ⟨v2, ev2, h⟩ := sl_b h
    refine sa_iald C dX2_sortAt_15 lx_29 ev2 ?_
    refine sa_istore_n C dX2_sortAt_16 rfl (by decide) (lv2 := [(2, .int v2), (0, .ref (g 28)), (1, .int x1)]) rfl ?_
    refine sa_iload_n C dX2_sortAt_17 rfl 0 rfl ?_
    refine sa_bipush C dX2_sortAt_18 bp_97 ?_
    refine sa_icmp_lt C dX2_sortAt_20 (tgt := 31) (by decide) (fun c3 => ?_) (fun c3 => ?_)
    · replace h := sl_t c3 h
      exact sa_sub [0] rfl (w2_sortAt_31 C hR h)
    · replace h := sl_n c3 h
      refine sa_iload_n C dX2_sortAt_23 rfl 0 rfl ?_
      refine sa_bipush C dX2_sortAt_24 bp_122 ?_
      refine sa_icmp_gt C dX2_sortAt_26 (tgt := 31) (by decide) (fun c4 => ?_) (fun c4 => ?_)
      · replace h := sl_t c4 h
        exact sa_sub [0] rfl (w2_sortAt_31 C hR h)
      · replace h := sl_n c4 h
        refine sa_iconst C dX2_sortAt_29 ic_1 ?_
        exact sa_iret C dX2_sortAt_30 (Option.some.inj h) rfl
  · replace h := sl_n c1 h
    refine sa_iconst C dX2_sortAt_8 ic_0 ?_
    exact sa_iret C dX2_sortAt_9 (Option.some.inj h) rfl
/-! X2 takeDigit -/
def f2_takeDigit (x1 : Int32) (M : sl_M) : Option sl_M := (if (M 28 5) ≤ (999 : Int32) then some (sl_up M 28 5 (((M 28 5) * (10 : Int32)) + x1)) else some (sl_up M 28 5 (M 28 5)))
theorem cc2_takeDigit {D : va_G} {cA : ClassId} {g : Nat → Nat} {A : Nat → Prop} {z : sl_K} {l : Launch} {x1 : Int32} {M : sl_M} {r : sl_M} (h : f2_takeDigit x1 M = some r) : sl_N sl_cl LX D cA g A z l yX2_takeDigit cX2_takeDigit 2 none 0 0 [.ref (g 28), .int x1] M none r := by
  refine sl_N.of (by decide) (Nat.le_of_ble_eq_true rfl) rfl ?_
  intro p e s m args below meth c C
  replace C : sl_C RX2 cX2_takeDigit 2 none sl_cl LX D cA g A z p s m meth c := C
  have hR : 0 ≤ (({ frames := 0, cells := 0, slots := 0, locals := 0 } : Room)).frames ∧ 0 ≤ (({ frames := 0, cells := 0, slots := 0, locals := 0 } : Room)).locals := ⟨Nat.le_refl _, Nat.le_refl _⟩
  rw [f2_takeDigit] at h
  refine sa_aload_n C dX2_takeDigit_0 rfl 0 rfl ?_
  refine sa_aload_n C dX2_takeDigit_1 rfl 0 rfl ?_
  refine sa_getI C hh_X2 (k := 5) dX2_takeDigit_2 q_197 (by decide) lx_28 rfl ?_
  refine sa_sipush C dX2_takeDigit_5 sp_999 ?_
  refine sa_icmp_le C dX2_takeDigit_8 (tgt := 18) (by decide) (fun c1 => ?_) (fun c1 => ?_)
  · replace h := sl_t c1 h
    refine sa_aload_n C dX2_takeDigit_18 rfl 0 rfl ?_
    refine sa_getI C hh_X2 (k := 5) dX2_takeDigit_19 q_197 (by decide) lx_28 rfl ?_
    refine sa_bipush C dX2_takeDigit_22 bp_10 ?_
    refine sa_imul C dX2_takeDigit_24 ?_
    refine sa_iload_n C dX2_takeDigit_25 rfl 1 rfl ?_
    refine sa_iadd C dX2_takeDigit_26 ?_
    refine sa_put C hh_X2 (k := 5) dX2_takeDigit_27 q_197 (by decide) rfl (fty := .int) (by decide) rfl rfl lx_28 rfl ?_
    exact sa_vret C dX2_takeDigit_30 (Option.some.inj h)
  · replace h := sl_n c1 h
    refine sa_aload_n C dX2_takeDigit_11 rfl 0 rfl ?_
    refine sa_getI C hh_X2 (k := 5) dX2_takeDigit_12 q_197 (by decide) lx_28 rfl ?_
    refine sa_goto C dX2_takeDigit_15 (tgt := 27) (by decide) ?_
    refine sa_put C hh_X2 (k := 5) dX2_takeDigit_27 q_197 (by decide) rfl (fty := .int) (by decide) rfl rfl lx_28 rfl ?_
    exact sa_vret C dX2_takeDigit_30 (Option.some.inj h)
/-! X2 step -/
def f2_step_140 (k63 : sl_M → Option sl_M) (M : sl_M) : Option sl_M := k63 (sl_up M 28 2 ((M 28 2) + (1 : Int32)))
def f2_step_116 (k63 : sl_M → Option sl_M) (M : sl_M) : Option sl_M := (if (M 28 3) = (2 : Int32) then (sl_ld (M 29) 120 (M 28 2)).bind fun v2 => (f2_takeDigit (v2 - (48 : Int32)) M).bind fun r3 => f2_step_140 k63 r3 else f2_step_140 k63 M)
def f2_step_63 : Nat → sl_M → Option sl_M
  | 0, _ => none
  | n + 1, M => (if (M 28 1) ≤ (M 28 2) then some M else (f2_sortAt (M 28 2) M).bind fun r2 => (if r2 = (M 28 3) then (if (M 28 2) = (M 28 4) then f2_step_116 (f2_step_63 n) M else (if (M 28 3) = (1 : Int32) then f2_step_116 (f2_step_63 n) M else (if (M 28 3) = (2 : Int32) then f2_step_116 (f2_step_63 n) M else some M))) else some M))
def f2_step_38 (M : sl_M) : Option sl_M := (f2_sortAt ((sl_up M 28 4 (M 28 2)) 28 2) (sl_up M 28 4 (M 28 2))).bind fun r1 => f2_step_63 400 (sl_up (sl_up (sl_up M 28 4 (M 28 2)) 28 3 r1) 28 5 (0 : Int32))
def f2_step_0 : Nat → sl_M → Option sl_M
  | 0, _ => none
  | n + 1, M => (if (M 28 1) ≤ (M 28 2) then f2_step_38 M else (sl_ld (M 29) 120 (M 28 2)).bind fun v2 => (if v2 = (32 : Int32) then f2_step_0 n (sl_up M 28 2 ((M 28 2) + (1 : Int32))) else f2_step_38 M))
def f2_step (M : sl_M) : Option sl_M := f2_step_0 400 M
theorem w2_step_140 {D : va_G} {cA : ClassId} {g : Nat → Nat} {A : Nat → Prop} {z : sl_K} {l : Launch} {p : Program} {e : Env} {R : Room} {s : State} {m : MethodId} {args : Array Value} {below : List Frame} {meth : Method} {c : Code} (C : sl_C RX2 cX2_step 1 none sl_cl LX D cA g A z p s m meth c) (hR : 1 ≤ R.frames ∧ 22 ≤ R.locals) {M : sl_M} {r : sl_M} {k63 : sl_M → Option sl_M} (hk63 : ∀ {M : sl_M}, k63 M = some r → sl_A sl_cl LX D cA g A p l e R s m args below meth c (MQ below (sl_Q sl_cl LX D cA g A none r) args s 0 0 A) 1 63 [(0, .ref (g 28))] [] M) (h : f2_step_140 k63 M = some r) : sl_A sl_cl LX D cA g A p l e R s m args below meth c (MQ below (sl_Q sl_cl LX D cA g A none r) args s 0 0 A) 1 140 [(0, .ref (g 28))] [] M := by
  rw [f2_step_140] at h
  refine sa_aload_n C dX2_step_140 rfl 0 rfl ?_
  refine sa_dup C dX2_step_141 rfl ?_
  refine sa_getI C hh_X2 (k := 2) dX2_step_142 q_192 (by decide) lx_28 rfl ?_
  refine sa_iconst C dX2_step_145 ic_1 ?_
  refine sa_iadd C dX2_step_146 ?_
  refine sa_put C hh_X2 (k := 2) dX2_step_147 q_192 (by decide) rfl (fty := .int) (by decide) rfl rfl lx_28 rfl ?_
  refine sa_goto C dX2_step_150 (tgt := 63) (by decide) ?_
  exact sa_sub [0] rfl (hk63 h)
theorem w2_step_116 {D : va_G} {cA : ClassId} {g : Nat → Nat} {A : Nat → Prop} {z : sl_K} {l : Launch} {p : Program} {e : Env} {R : Room} {s : State} {m : MethodId} {args : Array Value} {below : List Frame} {meth : Method} {c : Code} (C : sl_C RX2 cX2_step 1 none sl_cl LX D cA g A z p s m meth c) (hR : 1 ≤ R.frames ∧ 22 ≤ R.locals) {M : sl_M} {r : sl_M} {k63 : sl_M → Option sl_M} (hk63 : ∀ {M : sl_M}, k63 M = some r → sl_A sl_cl LX D cA g A p l e R s m args below meth c (MQ below (sl_Q sl_cl LX D cA g A none r) args s 0 0 A) 1 63 [(0, .ref (g 28))] [] M) (h : f2_step_116 k63 M = some r) : sl_A sl_cl LX D cA g A p l e R s m args below meth c (MQ below (sl_Q sl_cl LX D cA g A none r) args s 0 0 A) 1 116 [(0, .ref (g 28))] [] M := by
  rw [f2_step_116] at h
  refine sa_aload_n C dX2_step_116 rfl 0 rfl ?_
  refine sa_getI C hh_X2 (k := 3) dX2_step_117 q_193 (by decide) lx_28 rfl ?_
  refine sa_iconst C dX2_step_120 ic_2 ?_
  refine sa_icmp_ne C dX2_step_121 (tgt := 140) (by decide) (fun c1 => ?_) (fun c1 => ?_)
  · replace h := sl_n c1 h
    exact sa_sub [0] rfl (w2_step_140 C hR (fun h => hk63 h) h)
  · replace h := sl_t c1 h
    refine sa_aload_n C dX2_step_124 rfl 0 rfl ?_
    refine sa_aload_n C dX2_step_125 rfl 0 rfl ?_
    refine sa_getR C hh_X2 (k := 0) dX2_step_126 q_189 (by decide) lx_28 rfl ?_
    refine sa_aload_n C dX2_step_129 rfl 0 rfl ?_
    refine sa_getI C hh_X2 (k := 2) dX2_step_130 q_192 (by decide) lx_28 rfl ?_
    obtain ⟨v2, ev2, h⟩ := sl_b h
    refine sa_iald C dX2_step_133 lx_29 ev2 ?_
    refine sa_bipush C dX2_step_134 bp_48 ?_
    refine sa_isub C dX2_step_136 ?_
    obtain ⟨r3, er3, h⟩ := sl_b h
    refine sa_invVv C yy_X2_takeDigit ⟨q_626, q_36⟩ q_624 dX2_step_137 (As := [.int (v2 - (48 : Int32))]) (rest := []) rfl ⟨Nat.le_trans (Nat.le_of_ble_eq_true rfl) hR.1, Nat.le_trans (Nat.le_of_ble_eq_true rfl) hR.2⟩ (Nat.le_of_ble_eq_true rfl) hh_X2 lx_28 (cc2_takeDigit er3) rfl ?_
    exact sa_sub [0] rfl (w2_step_140 C hR (fun h => hk63 h) h)
theorem w2_step_63 {D : va_G} {cA : ClassId} {g : Nat → Nat} {A : Nat → Prop} {z : sl_K} {l : Launch} {p : Program} {e : Env} {R : Room} {s : State} {m : MethodId} {args : Array Value} {below : List Frame} {meth : Method} {c : Code} (C : sl_C RX2 cX2_step 1 none sl_cl LX D cA g A z p s m meth c) (hR : 1 ≤ R.frames ∧ 22 ≤ R.locals) {r : sl_M} : ∀ (n : Nat) {M : sl_M}, f2_step_63 n M = some r → sl_A sl_cl LX D cA g A p l e R s m args below meth c (MQ below (sl_Q sl_cl LX D cA g A none r) args s 0 0 A) 1 63 [(0, .ref (g 28))] [] M := by
  intro n
  induction n with
  | zero =>
    intro M h
    exact absurd h.symm (Option.some_ne_none _)
  | succ n ih =>
    intro M h
    rw [f2_step_63] at h
    refine sa_aload_n C dX2_step_63 rfl 0 rfl ?_
    refine sa_getI C hh_X2 (k := 2) dX2_step_64 q_192 (by decide) lx_28 rfl ?_
    refine sa_aload_n C dX2_step_67 rfl 0 rfl ?_
    refine sa_getI C hh_X2 (k := 1) dX2_step_68 q_190 (by decide) lx_28 rfl ?_
    refine sa_icmp_ge C dX2_step_71 (tgt := 153) (by decide) (fun c1 => ?_) (fun c1 => ?_)
    · replace h := sl_t c1 h
      exact sa_vret C dX2_step_153 (Option.some.inj h)
    · replace h := sl_n c1 h
      refine sa_aload_n C dX2_step_74 rfl 0 rfl ?_
      refine sa_aload_n C dX2_step_75 rfl 0 rfl ?_
      refine sa_getI C hh_X2 (k := 2) dX2_step_76 q_192 (by decide) lx_28 rfl ?_
      obtain ⟨r2, er2, h⟩ := sl_b h
      refine sa_invVi C yy_X2_sortAt ⟨q_622, q_35⟩ q_620 dX2_step_79 (As := [.int (M 28 2)]) (rest := []) rfl ⟨Nat.le_trans (Nat.le_of_ble_eq_true rfl) hR.1, Nat.le_trans (Nat.le_of_ble_eq_true rfl) hR.2⟩ (Nat.le_of_ble_eq_true rfl) hh_X2 lx_28 (cc2_sortAt er2) rfl ?_
      refine sa_aload_n C dX2_step_82 rfl 0 rfl ?_
      refine sa_getI C hh_X2 (k := 3) dX2_step_83 q_193 (by decide) lx_28 rfl ?_
      refine sa_icmp_ne C dX2_step_86 (tgt := 153) (by decide) (fun c3 => ?_) (fun c3 => ?_)
      · replace h := sl_n c3 h
        exact sa_vret C dX2_step_153 (Option.some.inj h)
      · replace h := sl_t c3 h
        refine sa_aload_n C dX2_step_89 rfl 0 rfl ?_
        refine sa_getI C hh_X2 (k := 2) dX2_step_90 q_192 (by decide) lx_28 rfl ?_
        refine sa_aload_n C dX2_step_93 rfl 0 rfl ?_
        refine sa_getI C hh_X2 (k := 4) dX2_step_94 q_195 (by decide) lx_28 rfl ?_
        refine sa_icmp_eq C dX2_step_97 (tgt := 116) (by decide) (fun c4 => ?_) (fun c4 => ?_)
        · replace h := sl_t c4 h
          exact sa_sub [0] rfl (w2_step_116 C hR (fun h => ih h) h)
        · replace h := sl_n c4 h
          refine sa_aload_n C dX2_step_100 rfl 0 rfl ?_
          refine sa_getI C hh_X2 (k := 3) dX2_step_101 q_193 (by decide) lx_28 rfl ?_
          refine sa_iconst C dX2_step_104 ic_1 ?_
          refine sa_icmp_eq C dX2_step_105 (tgt := 116) (by decide) (fun c5 => ?_) (fun c5 => ?_)
          · replace h := sl_t c5 h
            exact sa_sub [0] rfl (w2_step_116 C hR (fun h => ih h) h)
          · replace h := sl_n c5 h
            refine sa_aload_n C dX2_step_108 rfl 0 rfl ?_
            refine sa_getI C hh_X2 (k := 3) dX2_step_109 q_193 (by decide) lx_28 rfl ?_
            refine sa_iconst C dX2_step_112 ic_2 ?_
            refine sa_icmp_ne C dX2_step_113 (tgt := 153) (by decide) (fun c6 => ?_) (fun c6 => ?_)
            · replace h := sl_n c6 h
              exact sa_vret C dX2_step_153 (Option.some.inj h)
            · replace h := sl_t c6 h
              exact sa_sub [0] rfl (w2_step_116 C hR (fun h => ih h) h)
theorem w2_step_38 {D : va_G} {cA : ClassId} {g : Nat → Nat} {A : Nat → Prop} {z : sl_K} {l : Launch} {p : Program} {e : Env} {R : Room} {s : State} {m : MethodId} {args : Array Value} {below : List Frame} {meth : Method} {c : Code} (C : sl_C RX2 cX2_step 1 none sl_cl LX D cA g A z p s m meth c) (hR : 1 ≤ R.frames ∧ 22 ≤ R.locals) {M : sl_M} {r : sl_M} (h : f2_step_38 M = some r) : sl_A sl_cl LX D cA g A p l e R s m args below meth c (MQ below (sl_Q sl_cl LX D cA g A none r) args s 0 0 A) 1 38 [(0, .ref (g 28))] [] M := by
  rw [f2_step_38] at h
  refine sa_aload_n C dX2_step_38 rfl 0 rfl ?_
  refine sa_aload_n C dX2_step_39 rfl 0 rfl ?_
  refine sa_getI C hh_X2 (k := 2) dX2_step_40 q_192 (by decide) lx_28 rfl ?_
  refine sa_put C hh_X2 (k := 4) dX2_step_43 q_195 (by decide) rfl (fty := .int) (by decide) rfl rfl lx_28 rfl ?_
  refine sa_aload_n C dX2_step_46 rfl 0 rfl ?_
  refine sa_aload_n C dX2_step_47 rfl 0 rfl ?_
  refine sa_aload_n C dX2_step_48 rfl 0 rfl ?_
  refine sa_getI C hh_X2 (k := 2) dX2_step_49 q_192 (by decide) lx_28 rfl ?_
  obtain ⟨r1, er1, h⟩ := sl_b h
  refine sa_invVi C yy_X2_sortAt ⟨q_622, q_35⟩ q_620 dX2_step_52 (As := [.int ((sl_up M 28 4 (M 28 2)) 28 2)]) (rest := [.ref (g 28)]) rfl ⟨Nat.le_trans (Nat.le_of_ble_eq_true rfl) hR.1, Nat.le_trans (Nat.le_of_ble_eq_true rfl) hR.2⟩ (Nat.le_of_ble_eq_true rfl) hh_X2 lx_28 (cc2_sortAt er1) rfl ?_
  refine sa_put C hh_X2 (k := 3) dX2_step_55 q_193 (by decide) rfl (fty := .int) (by decide) rfl rfl lx_28 rfl ?_
  refine sa_aload_n C dX2_step_58 rfl 0 rfl ?_
  refine sa_iconst C dX2_step_59 ic_0 ?_
  refine sa_put C hh_X2 (k := 5) dX2_step_60 q_197 (by decide) rfl (fty := .int) (by decide) rfl rfl lx_28 rfl ?_
  exact sa_sub [0] rfl (w2_step_63 C hR 400 h)
theorem w2_step_0 {D : va_G} {cA : ClassId} {g : Nat → Nat} {A : Nat → Prop} {z : sl_K} {l : Launch} {p : Program} {e : Env} {R : Room} {s : State} {m : MethodId} {args : Array Value} {below : List Frame} {meth : Method} {c : Code} (C : sl_C RX2 cX2_step 1 none sl_cl LX D cA g A z p s m meth c) (hR : 1 ≤ R.frames ∧ 22 ≤ R.locals) {r : sl_M} : ∀ (n : Nat) {M : sl_M}, f2_step_0 n M = some r → sl_A sl_cl LX D cA g A p l e R s m args below meth c (MQ below (sl_Q sl_cl LX D cA g A none r) args s 0 0 A) 1 0 [(0, .ref (g 28))] [] M := by
  intro n
  induction n with
  | zero =>
    intro M h
    exact absurd h.symm (Option.some_ne_none _)
  | succ n ih =>
    intro M h
    rw [f2_step_0] at h
    refine sa_aload_n C dX2_step_0 rfl 0 rfl ?_
    refine sa_getI C hh_X2 (k := 2) dX2_step_1 q_192 (by decide) lx_28 rfl ?_
    refine sa_aload_n C dX2_step_4 rfl 0 rfl ?_
    refine sa_getI C hh_X2 (k := 1) dX2_step_5 q_190 (by decide) lx_28 rfl ?_
    refine sa_icmp_ge C dX2_step_8 (tgt := 38) (by decide) (fun c1 => ?_) (fun c1 => ?_)
    · replace h := sl_t c1 h
      exact sa_sub [0] rfl (w2_step_38 C hR h)
    · replace h := sl_n c1 h
      refine sa_aload_n C dX2_step_11 rfl 0 rfl ?_
      refine sa_getR C hh_X2 (k := 0) dX2_step_12 q_189 (by decide) lx_28 rfl ?_
      refine sa_aload_n C dX2_step_15 rfl 0 rfl ?_
      refine sa_getI C hh_X2 (k := 2) dX2_step_16 q_192 (by decide) lx_28 rfl ?_
      obtain ⟨v2, ev2, h⟩ := sl_b h
      refine sa_iald C dX2_step_19 lx_29 ev2 ?_
      refine sa_bipush C dX2_step_20 bp_32 ?_
      refine sa_icmp_ne C dX2_step_22 (tgt := 38) (by decide) (fun c3 => ?_) (fun c3 => ?_)
      · replace h := sl_n c3 h
        exact sa_sub [0] rfl (w2_step_38 C hR h)
      · replace h := sl_t c3 h
        refine sa_aload_n C dX2_step_25 rfl 0 rfl ?_
        refine sa_dup C dX2_step_26 rfl ?_
        refine sa_getI C hh_X2 (k := 2) dX2_step_27 q_192 (by decide) lx_28 rfl ?_
        refine sa_iconst C dX2_step_30 ic_1 ?_
        refine sa_iadd C dX2_step_31 ?_
        refine sa_put C hh_X2 (k := 2) dX2_step_32 q_192 (by decide) rfl (fty := .int) (by decide) rfl rfl lx_28 rfl ?_
        refine sa_goto C dX2_step_35 (tgt := 0) (by decide) ?_
        exact sa_sub [0] rfl (ih h)
theorem cc2_step {D : va_G} {cA : ClassId} {g : Nat → Nat} {A : Nat → Prop} {z : sl_K} {l : Launch} {M : sl_M} {r : sl_M} (h : f2_step M = some r) : sl_N sl_cl LX D cA g A z l yX2_step cX2_step 1 none 1 22 [.ref (g 28)] M none r := by
  refine sl_N.of (by decide) (Nat.le_of_ble_eq_true rfl) rfl ?_
  intro p e s m args below meth c C
  replace C : sl_C RX2 cX2_step 1 none sl_cl LX D cA g A z p s m meth c := C
  have hR : 1 ≤ (({ frames := 1, cells := 0, slots := 0, locals := 22 } : Room)).frames ∧ 22 ≤ (({ frames := 1, cells := 0, slots := 0, locals := 22 } : Room)).locals := ⟨Nat.le_refl _, Nat.le_refl _⟩
  rw [f2_step] at h
  exact sa_sub [0] rfl (w2_step_0 C hR 400 h)
/-! X2 rewind -/
def f2_rewind (M : sl_M) : Option sl_M := (f2_step (sl_up M 28 2 (0 : Int32))).bind fun r1 => some r1
theorem cc2_rewind {D : va_G} {cA : ClassId} {g : Nat → Nat} {A : Nat → Prop} {z : sl_K} {l : Launch} {M : sl_M} {r : sl_M} (h : f2_rewind M = some r) : sl_N sl_cl LX D cA g A z l yX2_rewind cX2_rewind 1 none 2 42 [.ref (g 28)] M none r := by
  refine sl_N.of (by decide) (Nat.le_of_ble_eq_true rfl) rfl ?_
  intro p e s m args below meth c C
  replace C : sl_C RX2 cX2_rewind 1 none sl_cl LX D cA g A z p s m meth c := C
  have hR : 2 ≤ (({ frames := 2, cells := 0, slots := 0, locals := 42 } : Room)).frames ∧ 42 ≤ (({ frames := 2, cells := 0, slots := 0, locals := 42 } : Room)).locals := ⟨Nat.le_refl _, Nat.le_refl _⟩
  rw [f2_rewind] at h
  refine sa_aload_n C dX2_rewind_0 rfl 0 rfl ?_
  refine sa_iconst C dX2_rewind_1 ic_0 ?_
  refine sa_put C hh_X2 (k := 2) dX2_rewind_2 q_192 (by decide) rfl (fty := .int) (by decide) rfl rfl lx_28 rfl ?_
  refine sa_aload_n C dX2_rewind_5 rfl 0 rfl ?_
  obtain ⟨r1, er1, h⟩ := sl_b h
  refine sa_invVv C yy_X2_step ⟨q_618, q_34⟩ q_616 dX2_rewind_6 (As := []) (rest := []) rfl ⟨Nat.le_trans (Nat.le_of_ble_eq_true rfl) hR.1, Nat.le_trans (Nat.le_of_ble_eq_true rfl) hR.2⟩ (Nat.le_of_ble_eq_true rfl) hh_X2 lx_28 (cc2_step er1) rfl ?_
  exact sa_vret C dX2_rewind_9 (Option.some.inj h)
/-! X2 isWord -/
def f2_isWord_28 (w : Nat) (M : sl_M) : Nat → Int32 → Option Int32
  | 0, _ => none
  | n + 1, x2 => (if (nI (sl_ln.getD w 0)) ≤ x2 then some (1 : Int32) else (sl_ld (M 29) 120 ((M 28 4) + x2)).bind fun v2 => (sl_ch w x2).bind fun v3 => (if v2 = v3 then f2_isWord_28 w M n (x2 + (1 : Int32)) else some (0 : Int32)))
def f2_isWord (w : Nat) (M : sl_M) : Option Int32 := (if (M 28 3) = (1 : Int32) then (if ((M 28 2) - (M 28 4)) = (nI (sl_ln.getD w 0)) then f2_isWord_28 w M 400 (0 : Int32) else some (0 : Int32)) else some (0 : Int32))
theorem w2_isWord_28 {D : va_G} {cA : ClassId} {g : Nat → Nat} {A : Nat → Prop} {z : sl_K} {l : Launch} {p : Program} {e : Env} {R : Room} {s : State} {m : MethodId} {args : Array Value} {below : List Frame} {meth : Method} {c : Code} (C : sl_C RX2 cX2_isWord 3 (some .boolean) sl_cl LX D cA g A z p s m meth c) (hR : 4 ≤ R.frames ∧ 106 ≤ R.locals) {w : Nat} (hw : w < 17) {M : sl_M} {r : Int32} : ∀ (n : Nat) {x2 : Int32}, f2_isWord_28 w M n x2 = some r → sl_A sl_cl LX D cA g A p l e R s m args below meth c (MQ below (sl_Q sl_cl LX D cA g A (some (.int r)) M) args s 0 0 A) 3 28 [(0, .ref (g 28)), (1, .ref (z.2.1 w)), (2, .int x2)] [] M := by
  intro n
  induction n with
  | zero =>
    intro x2 h
    exact absurd h.symm (Option.some_ne_none _)
  | succ n ih =>
    intro x2 h
    rw [f2_isWord_28] at h
    refine sa_iload_n C dX2_isWord_28 rfl 2 rfl ?_
    refine sa_aload_n C dX2_isWord_29 rfl 1 rfl ?_
    refine sa_slen C dX2_isWord_30 q_637 (by exact hw) (Nat.le_of_ble_eq_true rfl) ⟨Nat.le_trans (Nat.le_of_ble_eq_true rfl) hR.1, Nat.le_trans (Nat.le_of_ble_eq_true rfl) hR.2⟩ ?_
    refine sa_icmp_ge C dX2_isWord_33 (tgt := 63) (by decide) (fun c1 => ?_) (fun c1 => ?_)
    · replace h := sl_t c1 h
      refine sa_iconst C dX2_isWord_63 ic_1 ?_
      exact sa_zret C dX2_isWord_64 (Or.inr rfl) (Option.some.inj h) rfl
    · replace h := sl_n c1 h
      refine sa_aload_n C dX2_isWord_36 rfl 0 rfl ?_
      refine sa_getR C hh_X2 (k := 0) dX2_isWord_37 q_189 (by decide) lx_28 rfl ?_
      refine sa_aload_n C dX2_isWord_40 rfl 0 rfl ?_
      refine sa_getI C hh_X2 (k := 4) dX2_isWord_41 q_195 (by decide) lx_28 rfl ?_
      refine sa_iload_n C dX2_isWord_44 rfl 2 rfl ?_
      refine sa_iadd C dX2_isWord_45 ?_
      obtain ⟨v2, ev2, h⟩ := sl_b h
      refine sa_iald C dX2_isWord_46 lx_29 ev2 ?_
      refine sa_aload_n C dX2_isWord_47 rfl 1 rfl ?_
      refine sa_iload_n C dX2_isWord_48 rfl 2 rfl ?_
      obtain ⟨v3, ev3, h⟩ := sl_b h
      refine sa_schr C dX2_isWord_49 q_647 (by exact hw) (Nat.le_of_ble_eq_true rfl) ⟨Nat.le_trans (Nat.le_of_ble_eq_true rfl) hR.1, Nat.le_trans (Nat.le_of_ble_eq_true rfl) hR.2⟩ ev3 ?_
      refine sa_icmp_eq C dX2_isWord_52 (tgt := 57) (by decide) (fun c4 => ?_) (fun c4 => ?_)
      · replace h := sl_t c4 h
        refine sa_iinc C dX2_isWord_57 2 rfl (v := (x2 + (1 : Int32))) (by rw [ic_1]) (by decide) (lv2 := [(2, .int (x2 + (1 : Int32))), (0, .ref (g 28)), (1, .ref (z.2.1 w))]) rfl ?_
        refine sa_goto C dX2_isWord_60 (tgt := 28) (by decide) ?_
        exact sa_sub [1, 2, 0] rfl (ih h)
      · replace h := sl_n c4 h
        refine sa_iconst C dX2_isWord_55 ic_0 ?_
        exact sa_zret C dX2_isWord_56 (Or.inl rfl) (Option.some.inj h) rfl
theorem cc2_isWord {D : va_G} {cA : ClassId} {g : Nat → Nat} {A : Nat → Prop} {z : sl_K} {l : Launch} {w : Nat} (hw : w < 17) {M : sl_M} {r : Int32} (h : f2_isWord w M = some r) : sl_N sl_cl LX D cA g A z l yX2_isWord cX2_isWord 3 (some .boolean) 4 106 [.ref (g 28), .ref (z.2.1 w)] M (some (.int r)) M := by
  refine sl_N.of (by decide) (Nat.le_of_ble_eq_true rfl) rfl ?_
  intro p e s m args below meth c C
  replace C : sl_C RX2 cX2_isWord 3 (some .boolean) sl_cl LX D cA g A z p s m meth c := C
  have hR : 4 ≤ (({ frames := 4, cells := 0, slots := 0, locals := 106 } : Room)).frames ∧ 106 ≤ (({ frames := 4, cells := 0, slots := 0, locals := 106 } : Room)).locals := ⟨Nat.le_refl _, Nat.le_refl _⟩
  rw [f2_isWord] at h
  refine sa_aload_n C dX2_isWord_0 rfl 0 rfl ?_
  refine sa_getI C hh_X2 (k := 3) dX2_isWord_1 q_193 (by decide) lx_28 rfl ?_
  refine sa_iconst C dX2_isWord_4 ic_1 ?_
  refine sa_icmp_ne C dX2_isWord_5 (tgt := 24) (by decide) (fun c1 => ?_) (fun c1 => ?_)
  · replace h := sl_n c1 h
    refine sa_iconst C dX2_isWord_24 ic_0 ?_
    exact sa_zret C dX2_isWord_25 (Or.inl rfl) (Option.some.inj h) rfl
  · replace h := sl_t c1 h
    refine sa_aload_n C dX2_isWord_8 rfl 0 rfl ?_
    refine sa_getI C hh_X2 (k := 2) dX2_isWord_9 q_192 (by decide) lx_28 rfl ?_
    refine sa_aload_n C dX2_isWord_12 rfl 0 rfl ?_
    refine sa_getI C hh_X2 (k := 4) dX2_isWord_13 q_195 (by decide) lx_28 rfl ?_
    refine sa_isub C dX2_isWord_16 ?_
    refine sa_aload_n C dX2_isWord_17 rfl 1 rfl ?_
    refine sa_slen C dX2_isWord_18 q_637 (by exact hw) (Nat.le_of_ble_eq_true rfl) ⟨Nat.le_trans (Nat.le_of_ble_eq_true rfl) hR.1, Nat.le_trans (Nat.le_of_ble_eq_true rfl) hR.2⟩ ?_
    refine sa_icmp_eq C dX2_isWord_21 (tgt := 26) (by decide) (fun c2 => ?_) (fun c2 => ?_)
    · replace h := sl_t c2 h
      refine sa_iconst C dX2_isWord_26 ic_0 ?_
      refine sa_istore_n C dX2_isWord_27 rfl (by decide) (lv2 := [(2, .int (0 : Int32)), (0, .ref (g 28)), (1, .ref (z.2.1 w))]) rfl ?_
      exact sa_sub [1, 2, 0] rfl (w2_isWord_28 C hR hw 400 h)
    · replace h := sl_n c2 h
      refine sa_iconst C dX2_isWord_24 ic_0 ?_
      exact sa_zret C dX2_isWord_25 (Or.inl rfl) (Option.some.inj h) rfl
/-! X3 readNumber -/
def f3_readNumber (x1 : Int32) (x2 : Int32) (M : sl_M) : Option (Int32 × sl_M) := (if (M 28 3) = (2 : Int32) then (if (M 28 5) < x1 then some ((-2 : Int32), M) else (if (M 28 5) ≤ x2 then (f2_step M).bind fun r4 => some ((M 28 5), r4) else some ((-2 : Int32), M))) else some ((-2 : Int32), M))
theorem cc3_readNumber {D : va_G} {cA : ClassId} {g : Nat → Nat} {A : Nat → Prop} {z : sl_K} {l : Launch} {x1 : Int32} {x2 : Int32} {M : sl_M} {r : Int32 × sl_M} (h : f3_readNumber x1 x2 M = some r) : sl_N sl_cl LX D cA g A z l yX3_readNumber cX3_readNumber 4 (some .int) 2 42 [.ref (g 30), .int x1, .int x2] M (some (.int r.1)) r.2 := by
  refine sl_N.of (by decide) (Nat.le_of_ble_eq_true rfl) rfl ?_
  intro p e s m args below meth c C
  replace C : sl_C RX3 cX3_readNumber 4 (some .int) sl_cl LX D cA g A z p s m meth c := C
  have hR : 2 ≤ (({ frames := 2, cells := 0, slots := 0, locals := 42 } : Room)).frames ∧ 42 ≤ (({ frames := 2, cells := 0, slots := 0, locals := 42 } : Room)).locals := ⟨Nat.le_refl _, Nat.le_refl _⟩
  rw [f3_readNumber] at h
  refine sa_aload_n C dX3_readNumber_0 rfl 0 rfl ?_
  refine sa_getR C hh_X3 (k := 0) dX3_readNumber_1 q_212 (by decide) lx_30 rfl ?_
  refine sa_getIN C hh_X2 (k := 5) dX3_readNumber_4 q_198 (by decide) lx_28 rfl ?_
  refine sa_istore_n C dX3_readNumber_7 rfl (by decide) (lv2 := [(3, .int (M 28 5)), (0, .ref (g 30)), (1, .int x1), (2, .int x2)]) rfl ?_
  refine sa_aload_n C dX3_readNumber_8 rfl 1 rfl ?_
  refine sa_getR C hh_X3 (k := 0) dX3_readNumber_9 q_212 (by decide) lx_30 rfl ?_
  refine sa_getIN C hh_X2 (k := 3) dX3_readNumber_12 q_194 (by decide) lx_28 rfl ?_
  refine sa_iconst C dX3_readNumber_15 ic_2 ?_
  refine sa_icmp_ne C dX3_readNumber_16 (tgt := 29) (by decide) (fun c1 => ?_) (fun c1 => ?_)
  · replace h := sl_n c1 h
    refine sa_bipush C dX3_readNumber_29 bp_m2 ?_
    exact sa_iret C dX3_readNumber_31 (sl_p1 h) (sl_p2 h)
  · replace h := sl_t c1 h
    refine sa_iload_n C dX3_readNumber_19 rfl 0 rfl ?_
    refine sa_iload_n C dX3_readNumber_20 rfl 2 rfl ?_
    refine sa_icmp_lt C dX3_readNumber_21 (tgt := 29) (by decide) (fun c2 => ?_) (fun c2 => ?_)
    · replace h := sl_t c2 h
      refine sa_bipush C dX3_readNumber_29 bp_m2 ?_
      exact sa_iret C dX3_readNumber_31 (sl_p1 h) (sl_p2 h)
    · replace h := sl_n c2 h
      refine sa_iload_n C dX3_readNumber_24 rfl 0 rfl ?_
      refine sa_iload_n C dX3_readNumber_25 rfl 3 rfl ?_
      refine sa_icmp_le C dX3_readNumber_26 (tgt := 32) (by decide) (fun c3 => ?_) (fun c3 => ?_)
      · replace h := sl_t c3 h
        refine sa_aload_n C dX3_readNumber_32 rfl 1 rfl ?_
        refine sa_getR C hh_X3 (k := 0) dX3_readNumber_33 q_212 (by decide) lx_30 rfl ?_
        obtain ⟨r4, er4, h⟩ := sl_b h
        refine sa_invVNv C yy_X2_step ⟨q_618, q_34⟩ q_690 dX3_readNumber_36 (As := []) (rest := []) rfl ⟨Nat.le_trans (Nat.le_of_ble_eq_true rfl) hR.1, Nat.le_trans (Nat.le_of_ble_eq_true rfl) hR.2⟩ (Nat.le_of_ble_eq_true rfl) hh_X2 lx_28 (cc2_step er4) rfl ?_
        refine sa_iload_n C dX3_readNumber_39 rfl 0 rfl ?_
        exact sa_iret C dX3_readNumber_40 (sl_p1 h) (sl_p2 h)
      · replace h := sl_n c3 h
        refine sa_bipush C dX3_readNumber_29 bp_m2 ?_
        exact sa_iret C dX3_readNumber_31 (sl_p1 h) (sl_p2 h)
/-! X3 passes -/
def f3_passes (w : Nat) (M : sl_M) : Option (Int32 × sl_M) := (f2_isWord w M).bind fun r1 => (if r1 = 0 then some ((0 : Int32), M) else (f2_step M).bind fun r3 => some ((1 : Int32), r3))
theorem cc3_passes {D : va_G} {cA : ClassId} {g : Nat → Nat} {A : Nat → Prop} {z : sl_K} {l : Launch} {w : Nat} (hw : w < 17) {M : sl_M} {r : Int32 × sl_M} (h : f3_passes w M = some r) : sl_N sl_cl LX D cA g A z l yX3_passes cX3_passes 2 (some .boolean) 5 128 [.ref (g 30), .ref (z.2.1 w)] M (some (.int r.1)) r.2 := by
  refine sl_N.of (by decide) (Nat.le_of_ble_eq_true rfl) rfl ?_
  intro p e s m args below meth c C
  replace C : sl_C RX3 cX3_passes 2 (some .boolean) sl_cl LX D cA g A z p s m meth c := C
  have hR : 5 ≤ (({ frames := 5, cells := 0, slots := 0, locals := 128 } : Room)).frames ∧ 128 ≤ (({ frames := 5, cells := 0, slots := 0, locals := 128 } : Room)).locals := ⟨Nat.le_refl _, Nat.le_refl _⟩
  rw [f3_passes] at h
  refine sa_aload_n C dX3_passes_0 rfl 0 rfl ?_
  refine sa_getR C hh_X3 (k := 0) dX3_passes_1 q_212 (by decide) lx_30 rfl ?_
  refine sa_aload_n C dX3_passes_4 rfl 1 rfl ?_
  obtain ⟨r1, er1, h⟩ := sl_b h
  refine sa_invVNi C yy_X2_isWord ⟨q_635, q_38⟩ q_633 dX3_passes_5 (As := [.ref (z.2.1 w)]) (rest := []) rfl ⟨Nat.le_trans (Nat.le_of_ble_eq_true rfl) hR.1, Nat.le_trans (Nat.le_of_ble_eq_true rfl) hR.2⟩ (Nat.le_of_ble_eq_true rfl) hh_X2 lx_28 (cc2_isWord hw er1) rfl ?_
  refine sa_if_ne C dX3_passes_8 (tgt := 13) (by decide) (fun c2 => ?_) (fun c2 => ?_)
  · replace h := sl_n c2 h
    refine sa_aload_n C dX3_passes_13 rfl 0 rfl ?_
    refine sa_getR C hh_X3 (k := 0) dX3_passes_14 q_212 (by decide) lx_30 rfl ?_
    obtain ⟨r3, er3, h⟩ := sl_b h
    refine sa_invVNv C yy_X2_step ⟨q_618, q_34⟩ q_690 dX3_passes_17 (As := []) (rest := []) rfl ⟨Nat.le_trans (Nat.le_of_ble_eq_true rfl) hR.1, Nat.le_trans (Nat.le_of_ble_eq_true rfl) hR.2⟩ (Nat.le_of_ble_eq_true rfl) hh_X2 lx_28 (cc2_step er3) rfl ?_
    refine sa_iconst C dX3_passes_20 ic_1 ?_
    exact sa_zret C dX3_passes_21 (Or.inr rfl) (sl_p1 h) (sl_p2 h)
  · replace h := sl_t c2 h
    refine sa_iconst C dX3_passes_11 ic_0 ?_
    exact sa_zret C dX3_passes_12 (Or.inl rfl) (sl_p1 h) (sl_p2 h)
/-! X3 readHouse -/
def f3_readHouse_92 (j2 : Nat) (x2 : Int32) (x3 : Int32) (x4 : Int32) (M : sl_M) : Option (Int32 × sl_M) := (f0_build j2 x2 x3 x4 M).bind fun r1 => some ((1 : Int32), r1)
def f3_readHouse (j2 : Nat) (M : sl_M) : Option (Int32 × sl_M) := (f2_step M).bind fun r1 => (f3_readNumber (0 : Int32) (23 : Int32) r1).bind fun r2 => (if r2.1 = (-2 : Int32) then some ((0 : Int32), r2.2) else (f3_passes 1 r2.2).bind fun r4 => (if r4.1 = 0 then some ((0 : Int32), r4.2) else (f3_readNumber (1 : Int32) (40 : Int32) r4.2).bind fun r6 => (if r6.1 = (-2 : Int32) then some ((0 : Int32), r6.2) else (f3_passes 2 r6.2).bind fun r8 => (if r8.1 = 0 then f3_readHouse_92 j2 r2.1 r6.1 (3 : Int32) r8.2 else (f3_passes 3 r8.2).bind fun r10 => (if r10.1 = 0 then (f3_passes 4 r10.2).bind fun r12 => (if r12.1 = 0 then some ((0 : Int32), r12.2) else f3_readHouse_92 j2 r2.1 r6.1 (1 : Int32) r12.2) else f3_readHouse_92 j2 r2.1 r6.1 (2 : Int32) r10.2)))))
theorem w3_readHouse_92 {D : va_G} {cA : ClassId} {g : Nat → Nat} {A : Nat → Prop} {z : sl_K} {l : Launch} {p : Program} {e : Env} {R : Room} {s : State} {m : MethodId} {args : Array Value} {below : List Frame} {meth : Method} {c : Code} (C : sl_C RX3 cX3_readHouse 5 (some .boolean) sl_cl LX D cA g A z p s m meth c) (hR : 6 ≤ R.frames ∧ 149 ≤ R.locals) {j2 : Nat} (hj2 : j2 < 3) {M : sl_M} {r : Int32 × sl_M} {x2 : Int32} {x3 : Int32} {x4 : Int32} (h : f3_readHouse_92 j2 x2 x3 x4 M = some r) : sl_A sl_cl LX D cA g A p l e R s m args below meth c (MQ below (sl_Q sl_cl LX D cA g A (some (.int r.1)) r.2) args s 0 0 A) 5 92 [(1, .ref (g (9 * j2))), (2, .int x2), (3, .int x3), (4, .int x4)] [] M := by
  rw [f3_readHouse_92] at h
  refine sa_aload_n C dX3_readHouse_92 rfl 0 rfl ?_
  refine sa_iload_n C dX3_readHouse_93 rfl 1 rfl ?_
  refine sa_iload_n C dX3_readHouse_94 rfl 2 rfl ?_
  refine sa_iload C dX3_readHouse_95 3 rfl ?_
  obtain ⟨r1, er1, h⟩ := sl_b h
  refine sa_invVNv C yy_X0_build ⟨q_327, q_7⟩ q_703 dX3_readHouse_97 (As := [.int x2, .int x3, .int x4]) (rest := []) rfl ⟨Nat.le_trans (Nat.le_of_ble_eq_true rfl) hR.1, Nat.le_trans (Nat.le_of_ble_eq_true rfl) hR.2⟩ (Nat.le_of_ble_eq_true rfl) hh_X0 (lx_o hj2) (cc0_build hj2 er1) rfl ?_
  refine sa_iconst C dX3_readHouse_100 ic_1 ?_
  exact sa_zret C dX3_readHouse_101 (Or.inr rfl) (sl_p1 h) (sl_p2 h)
theorem cc3_readHouse {D : va_G} {cA : ClassId} {g : Nat → Nat} {A : Nat → Prop} {z : sl_K} {l : Launch} {j2 : Nat} (hj2 : j2 < 3) {M : sl_M} {r : Int32 × sl_M} (h : f3_readHouse j2 M = some r) : sl_N sl_cl LX D cA g A z l yX3_readHouse cX3_readHouse 5 (some .boolean) 6 149 [.ref (g 30), .ref (g (9 * j2))] M (some (.int r.1)) r.2 := by
  refine sl_N.of (by decide) (Nat.le_of_ble_eq_true rfl) rfl ?_
  intro p e s m args below meth c C
  replace C : sl_C RX3 cX3_readHouse 5 (some .boolean) sl_cl LX D cA g A z p s m meth c := C
  have hR : 6 ≤ (({ frames := 6, cells := 0, slots := 0, locals := 149 } : Room)).frames ∧ 149 ≤ (({ frames := 6, cells := 0, slots := 0, locals := 149 } : Room)).locals := ⟨Nat.le_refl _, Nat.le_refl _⟩
  rw [f3_readHouse] at h
  refine sa_aload_n C dX3_readHouse_0 rfl 0 rfl ?_
  refine sa_getR C hh_X3 (k := 0) dX3_readHouse_1 q_212 (by decide) lx_30 rfl ?_
  obtain ⟨r1, er1, h⟩ := sl_b h
  refine sa_invVNv C yy_X2_step ⟨q_618, q_34⟩ q_690 dX3_readHouse_4 (As := []) (rest := []) rfl ⟨Nat.le_trans (Nat.le_of_ble_eq_true rfl) hR.1, Nat.le_trans (Nat.le_of_ble_eq_true rfl) hR.2⟩ (Nat.le_of_ble_eq_true rfl) hh_X2 lx_28 (cc2_step er1) rfl ?_
  refine sa_aload_n C dX3_readHouse_7 rfl 0 rfl ?_
  refine sa_iconst C dX3_readHouse_8 ic_0 ?_
  refine sa_bipush C dX3_readHouse_9 bp_23 ?_
  obtain ⟨r2, er2, h⟩ := sl_b h
  refine sa_invVi C yy_X3_readNumber ⟨q_693, q_40⟩ q_691 dX3_readHouse_11 (As := [.int (0 : Int32), .int (23 : Int32)]) (rest := []) rfl ⟨Nat.le_trans (Nat.le_of_ble_eq_true rfl) hR.1, Nat.le_trans (Nat.le_of_ble_eq_true rfl) hR.2⟩ (Nat.le_of_ble_eq_true rfl) hh_X3 lx_30 (cc3_readNumber er2) rfl ?_
  refine sa_istore_n C dX3_readHouse_14 rfl (by decide) (lv2 := [(2, .int r2.1), (0, .ref (g 30)), (1, .ref (g (9 * j2)))]) rfl ?_
  refine sa_iload_n C dX3_readHouse_15 rfl 0 rfl ?_
  refine sa_bipush C dX3_readHouse_16 bp_m2 ?_
  refine sa_icmp_eq C dX3_readHouse_18 (tgt := 30) (by decide) (fun c3 => ?_) (fun c3 => ?_)
  · replace h := sl_t c3 h
    refine sa_iconst C dX3_readHouse_30 ic_0 ?_
    exact sa_zret C dX3_readHouse_31 (Or.inl rfl) (sl_p1 h) (sl_p2 h)
  · replace h := sl_n c3 h
    refine sa_aload_n C dX3_readHouse_21 rfl 1 rfl ?_
    refine sa_ldcS C dX3_readHouse_22 1 rfl ?_
    obtain ⟨r4, er4, h⟩ := sl_b h
    refine sa_invVi C yy_X3_passes ⟨q_698, q_41⟩ q_696 dX3_readHouse_24 (As := [.ref (z.2.1 1)]) (rest := []) rfl ⟨Nat.le_trans (Nat.le_of_ble_eq_true rfl) hR.1, Nat.le_trans (Nat.le_of_ble_eq_true rfl) hR.2⟩ (Nat.le_of_ble_eq_true rfl) hh_X3 lx_30 (cc3_passes (by decide) er4) rfl ?_
    refine sa_if_ne C dX3_readHouse_27 (tgt := 32) (by decide) (fun c5 => ?_) (fun c5 => ?_)
    · replace h := sl_n c5 h
      refine sa_aload_n C dX3_readHouse_32 rfl 1 rfl ?_
      refine sa_iconst C dX3_readHouse_33 ic_1 ?_
      refine sa_bipush C dX3_readHouse_34 bp_40 ?_
      obtain ⟨r6, er6, h⟩ := sl_b h
      refine sa_invVi C yy_X3_readNumber ⟨q_693, q_40⟩ q_691 dX3_readHouse_36 (As := [.int (1 : Int32), .int (40 : Int32)]) (rest := []) rfl ⟨Nat.le_trans (Nat.le_of_ble_eq_true rfl) hR.1, Nat.le_trans (Nat.le_of_ble_eq_true rfl) hR.2⟩ (Nat.le_of_ble_eq_true rfl) hh_X3 lx_30 (cc3_readNumber er6) rfl ?_
      refine sa_istore_n C dX3_readHouse_39 rfl (by decide) (lv2 := [(3, .int r6.1), (2, .int r2.1), (0, .ref (g 30)), (1, .ref (g (9 * j2)))]) rfl ?_
      refine sa_iload_n C dX3_readHouse_40 rfl 0 rfl ?_
      refine sa_bipush C dX3_readHouse_41 bp_m2 ?_
      refine sa_icmp_ne C dX3_readHouse_43 (tgt := 48) (by decide) (fun c7 => ?_) (fun c7 => ?_)
      · replace h := sl_n c7 h
        refine sa_iconst C dX3_readHouse_48 ic_3 ?_
        refine sa_istore C dX3_readHouse_49 (by decide) (lv2 := [(4, .int (3 : Int32)), (3, .int r6.1), (2, .int r2.1), (0, .ref (g 30)), (1, .ref (g (9 * j2)))]) rfl ?_
        refine sa_aload_n C dX3_readHouse_51 rfl 3 rfl ?_
        refine sa_ldcS C dX3_readHouse_52 2 rfl ?_
        obtain ⟨r8, er8, h⟩ := sl_b h
        refine sa_invVi C yy_X3_passes ⟨q_698, q_41⟩ q_696 dX3_readHouse_54 (As := [.ref (z.2.1 2)]) (rest := []) rfl ⟨Nat.le_trans (Nat.le_of_ble_eq_true rfl) hR.1, Nat.le_trans (Nat.le_of_ble_eq_true rfl) hR.2⟩ (Nat.le_of_ble_eq_true rfl) hh_X3 lx_30 (cc3_passes (by decide) er8) rfl ?_
        refine sa_if_eq C dX3_readHouse_57 (tgt := 92) (by decide) (fun c9 => ?_) (fun c9 => ?_)
        · replace h := sl_t c9 h
          exact sa_sub [4, 2, 1, 0] rfl (w3_readHouse_92 C hR hj2 h)
        · replace h := sl_n c9 h
          refine sa_aload_n C dX3_readHouse_60 rfl 3 rfl ?_
          refine sa_ldcS C dX3_readHouse_61 3 rfl ?_
          obtain ⟨r10, er10, h⟩ := sl_b h
          refine sa_invVi C yy_X3_passes ⟨q_698, q_41⟩ q_696 dX3_readHouse_63 (As := [.ref (z.2.1 3)]) (rest := []) rfl ⟨Nat.le_trans (Nat.le_of_ble_eq_true rfl) hR.1, Nat.le_trans (Nat.le_of_ble_eq_true rfl) hR.2⟩ (Nat.le_of_ble_eq_true rfl) hh_X3 lx_30 (cc3_passes (by decide) er10) rfl ?_
          refine sa_if_eq C dX3_readHouse_66 (tgt := 75) (by decide) (fun c11 => ?_) (fun c11 => ?_)
          · replace h := sl_t c11 h
            refine sa_aload_n C dX3_readHouse_75 rfl 3 rfl ?_
            refine sa_ldcS C dX3_readHouse_76 4 rfl ?_
            obtain ⟨r12, er12, h⟩ := sl_b h
            refine sa_invVi C yy_X3_passes ⟨q_698, q_41⟩ q_696 dX3_readHouse_78 (As := [.ref (z.2.1 4)]) (rest := []) rfl ⟨Nat.le_trans (Nat.le_of_ble_eq_true rfl) hR.1, Nat.le_trans (Nat.le_of_ble_eq_true rfl) hR.2⟩ (Nat.le_of_ble_eq_true rfl) hh_X3 lx_30 (cc3_passes (by decide) er12) rfl ?_
            refine sa_if_eq C dX3_readHouse_81 (tgt := 90) (by decide) (fun c13 => ?_) (fun c13 => ?_)
            · replace h := sl_t c13 h
              refine sa_iconst C dX3_readHouse_90 ic_0 ?_
              exact sa_zret C dX3_readHouse_91 (Or.inl rfl) (sl_p1 h) (sl_p2 h)
            · replace h := sl_n c13 h
              refine sa_iconst C dX3_readHouse_84 ic_1 ?_
              refine sa_istore C dX3_readHouse_85 (by decide) (lv2 := [(4, .int (1 : Int32)), (3, .int r6.1), (2, .int r2.1), (0, .ref (g 30)), (1, .ref (g (9 * j2)))]) rfl ?_
              refine sa_goto C dX3_readHouse_87 (tgt := 92) (by decide) ?_
              exact sa_sub [4, 2, 1, 0] rfl (w3_readHouse_92 C hR hj2 h)
          · replace h := sl_n c11 h
            refine sa_iconst C dX3_readHouse_69 ic_2 ?_
            refine sa_istore C dX3_readHouse_70 (by decide) (lv2 := [(4, .int (2 : Int32)), (3, .int r6.1), (2, .int r2.1), (0, .ref (g 30)), (1, .ref (g (9 * j2)))]) rfl ?_
            refine sa_goto C dX3_readHouse_72 (tgt := 92) (by decide) ?_
            exact sa_sub [4, 2, 1, 0] rfl (w3_readHouse_92 C hR hj2 h)
      · replace h := sl_t c7 h
        refine sa_iconst C dX3_readHouse_46 ic_0 ?_
        exact sa_zret C dX3_readHouse_47 (Or.inl rfl) (sl_p1 h) (sl_p2 h)
    · replace h := sl_t c5 h
      refine sa_iconst C dX3_readHouse_30 ic_0 ?_
      exact sa_zret C dX3_readHouse_31 (Or.inl rfl) (sl_p1 h) (sl_p2 h)
/-! X3 readHaze -/
def f3_readHaze (j2 : Nat) (M : sl_M) : Option (Int32 × sl_M) := (f3_readNumber (1 : Int32) (23 : Int32) M).bind fun r1 => (if r1.1 = (-2 : Int32) then some ((0 : Int32), r1.2) else some ((1 : Int32), (sl_up r1.2 (9 * j2) 9 r1.1)))
theorem cc3_readHaze {D : va_G} {cA : ClassId} {g : Nat → Nat} {A : Nat → Prop} {z : sl_K} {l : Launch} {j2 : Nat} (hj2 : j2 < 3) {M : sl_M} {r : Int32 × sl_M} (h : f3_readHaze j2 M = some r) : sl_N sl_cl LX D cA g A z l yX3_readHaze cX3_readHaze 3 (some .boolean) 3 65 [.ref (g 30), .ref (g (9 * j2))] M (some (.int r.1)) r.2 := by
  refine sl_N.of (by decide) (Nat.le_of_ble_eq_true rfl) rfl ?_
  intro p e s m args below meth c C
  replace C : sl_C RX3 cX3_readHaze 3 (some .boolean) sl_cl LX D cA g A z p s m meth c := C
  have hR : 3 ≤ (({ frames := 3, cells := 0, slots := 0, locals := 65 } : Room)).frames ∧ 65 ≤ (({ frames := 3, cells := 0, slots := 0, locals := 65 } : Room)).locals := ⟨Nat.le_refl _, Nat.le_refl _⟩
  rw [f3_readHaze] at h
  refine sa_aload_n C dX3_readHaze_0 rfl 0 rfl ?_
  refine sa_iconst C dX3_readHaze_1 ic_1 ?_
  refine sa_bipush C dX3_readHaze_2 bp_23 ?_
  obtain ⟨r1, er1, h⟩ := sl_b h
  refine sa_invVi C yy_X3_readNumber ⟨q_693, q_40⟩ q_691 dX3_readHaze_4 (As := [.int (1 : Int32), .int (23 : Int32)]) (rest := []) rfl ⟨Nat.le_trans (Nat.le_of_ble_eq_true rfl) hR.1, Nat.le_trans (Nat.le_of_ble_eq_true rfl) hR.2⟩ (Nat.le_of_ble_eq_true rfl) hh_X3 lx_30 (cc3_readNumber er1) rfl ?_
  refine sa_istore_n C dX3_readHaze_7 rfl (by decide) (lv2 := [(2, .int r1.1), (0, .ref (g 30)), (1, .ref (g (9 * j2)))]) rfl ?_
  refine sa_iload_n C dX3_readHaze_8 rfl 0 rfl ?_
  refine sa_bipush C dX3_readHaze_9 bp_m2 ?_
  refine sa_icmp_ne C dX3_readHaze_11 (tgt := 16) (by decide) (fun c2 => ?_) (fun c2 => ?_)
  · replace h := sl_n c2 h
    refine sa_aload_n C dX3_readHaze_16 rfl 2 rfl ?_
    refine sa_iload_n C dX3_readHaze_17 rfl 0 rfl ?_
    refine sa_putN C hh_X0 (k := 9) dX3_readHaze_18 q_140 (by decide) rfl (fty := .int) (by decide) rfl rfl (lx_o hj2) rfl ?_
    refine sa_iconst C dX3_readHaze_21 ic_1 ?_
    exact sa_zret C dX3_readHaze_22 (Or.inr rfl) (sl_p1 h) (sl_p2 h)
  · replace h := sl_t c2 h
    refine sa_iconst C dX3_readHaze_14 ic_0 ?_
    exact sa_zret C dX3_readHaze_15 (Or.inl rfl) (sl_p1 h) (sl_p2 h)
/-! X3 readRate -/
def f3_readRate (j2 : Nat) (M : sl_M) : Option (Int32 × sl_M) := (f3_readNumber (0 : Int32) (99 : Int32) M).bind fun r1 => (if r1.1 = (-2 : Int32) then some ((0 : Int32), r1.2) else some ((1 : Int32), (sl_up r1.2 (9 * j2) 10 r1.1)))
theorem cc3_readRate {D : va_G} {cA : ClassId} {g : Nat → Nat} {A : Nat → Prop} {z : sl_K} {l : Launch} {j2 : Nat} (hj2 : j2 < 3) {M : sl_M} {r : Int32 × sl_M} (h : f3_readRate j2 M = some r) : sl_N sl_cl LX D cA g A z l yX3_readRate cX3_readRate 3 (some .boolean) 3 65 [.ref (g 30), .ref (g (9 * j2))] M (some (.int r.1)) r.2 := by
  refine sl_N.of (by decide) (Nat.le_of_ble_eq_true rfl) rfl ?_
  intro p e s m args below meth c C
  replace C : sl_C RX3 cX3_readRate 3 (some .boolean) sl_cl LX D cA g A z p s m meth c := C
  have hR : 3 ≤ (({ frames := 3, cells := 0, slots := 0, locals := 65 } : Room)).frames ∧ 65 ≤ (({ frames := 3, cells := 0, slots := 0, locals := 65 } : Room)).locals := ⟨Nat.le_refl _, Nat.le_refl _⟩
  rw [f3_readRate] at h
  refine sa_aload_n C dX3_readRate_0 rfl 0 rfl ?_
  refine sa_iconst C dX3_readRate_1 ic_0 ?_
  refine sa_bipush C dX3_readRate_2 bp_99 ?_
  obtain ⟨r1, er1, h⟩ := sl_b h
  refine sa_invVi C yy_X3_readNumber ⟨q_693, q_40⟩ q_691 dX3_readRate_4 (As := [.int (0 : Int32), .int (99 : Int32)]) (rest := []) rfl ⟨Nat.le_trans (Nat.le_of_ble_eq_true rfl) hR.1, Nat.le_trans (Nat.le_of_ble_eq_true rfl) hR.2⟩ (Nat.le_of_ble_eq_true rfl) hh_X3 lx_30 (cc3_readNumber er1) rfl ?_
  refine sa_istore_n C dX3_readRate_7 rfl (by decide) (lv2 := [(2, .int r1.1), (0, .ref (g 30)), (1, .ref (g (9 * j2)))]) rfl ?_
  refine sa_iload_n C dX3_readRate_8 rfl 0 rfl ?_
  refine sa_bipush C dX3_readRate_9 bp_m2 ?_
  refine sa_icmp_ne C dX3_readRate_11 (tgt := 16) (by decide) (fun c2 => ?_) (fun c2 => ?_)
  · replace h := sl_n c2 h
    refine sa_aload_n C dX3_readRate_16 rfl 2 rfl ?_
    refine sa_iload_n C dX3_readRate_17 rfl 0 rfl ?_
    refine sa_putN C hh_X0 (k := 10) dX3_readRate_18 q_143 (by decide) rfl (fty := .int) (by decide) rfl rfl (lx_o hj2) rfl ?_
    refine sa_iconst C dX3_readRate_21 ic_1 ?_
    exact sa_zret C dX3_readRate_22 (Or.inr rfl) (sl_p1 h) (sl_p2 h)
  · replace h := sl_t c2 h
    refine sa_iconst C dX3_readRate_14 ic_0 ?_
    exact sa_zret C dX3_readRate_15 (Or.inl rfl) (sl_p1 h) (sl_p2 h)
/-! X3 readKind -/
def f3_readKind (M : sl_M) : Option (Int32 × sl_M) := (f3_passes 7 M).bind fun r1 => (if r1.1 = 0 then (f3_passes 8 r1.2).bind fun r3 => (if r3.1 = 0 then (f3_passes 9 r3.2).bind fun r5 => (if r5.1 = 0 then (f3_passes 10 r5.2).bind fun r7 => (if r7.1 = 0 then (f3_passes 11 r7.2).bind fun r9 => (if r9.1 = 0 then (f3_passes 12 r9.2).bind fun r11 => (if r11.1 = 0 then (f3_passes 13 r11.2).bind fun r13 => (if r13.1 = 0 then some ((-2 : Int32), r13.2) else some ((6 : Int32), r13.2)) else some ((5 : Int32), r11.2)) else some ((4 : Int32), r9.2)) else some ((3 : Int32), r7.2)) else some ((2 : Int32), r5.2)) else some ((1 : Int32), r3.2)) else some ((0 : Int32), r1.2))
theorem cc3_readKind {D : va_G} {cA : ClassId} {g : Nat → Nat} {A : Nat → Prop} {z : sl_K} {l : Launch} {M : sl_M} {r : Int32 × sl_M} (h : f3_readKind M = some r) : sl_N sl_cl LX D cA g A z l yX3_readKind cX3_readKind 1 (some .int) 6 149 [.ref (g 30)] M (some (.int r.1)) r.2 := by
  refine sl_N.of (by decide) (Nat.le_of_ble_eq_true rfl) rfl ?_
  intro p e s m args below meth c C
  replace C : sl_C RX3 cX3_readKind 1 (some .int) sl_cl LX D cA g A z p s m meth c := C
  have hR : 6 ≤ (({ frames := 6, cells := 0, slots := 0, locals := 149 } : Room)).frames ∧ 149 ≤ (({ frames := 6, cells := 0, slots := 0, locals := 149 } : Room)).locals := ⟨Nat.le_refl _, Nat.le_refl _⟩
  rw [f3_readKind] at h
  refine sa_aload_n C dX3_readKind_0 rfl 0 rfl ?_
  refine sa_ldcS C dX3_readKind_1 7 rfl ?_
  obtain ⟨r1, er1, h⟩ := sl_b h
  refine sa_invVi C yy_X3_passes ⟨q_698, q_41⟩ q_696 dX3_readKind_3 (As := [.ref (z.2.1 7)]) (rest := []) rfl ⟨Nat.le_trans (Nat.le_of_ble_eq_true rfl) hR.1, Nat.le_trans (Nat.le_of_ble_eq_true rfl) hR.2⟩ (Nat.le_of_ble_eq_true rfl) hh_X3 lx_30 (cc3_passes (by decide) er1) rfl ?_
  refine sa_if_eq C dX3_readKind_6 (tgt := 11) (by decide) (fun c2 => ?_) (fun c2 => ?_)
  · replace h := sl_t c2 h
    refine sa_aload_n C dX3_readKind_11 rfl 0 rfl ?_
    refine sa_ldcS C dX3_readKind_12 8 rfl ?_
    obtain ⟨r3, er3, h⟩ := sl_b h
    refine sa_invVi C yy_X3_passes ⟨q_698, q_41⟩ q_696 dX3_readKind_14 (As := [.ref (z.2.1 8)]) (rest := []) rfl ⟨Nat.le_trans (Nat.le_of_ble_eq_true rfl) hR.1, Nat.le_trans (Nat.le_of_ble_eq_true rfl) hR.2⟩ (Nat.le_of_ble_eq_true rfl) hh_X3 lx_30 (cc3_passes (by decide) er3) rfl ?_
    refine sa_if_eq C dX3_readKind_17 (tgt := 22) (by decide) (fun c4 => ?_) (fun c4 => ?_)
    · replace h := sl_t c4 h
      refine sa_aload_n C dX3_readKind_22 rfl 0 rfl ?_
      refine sa_ldcS C dX3_readKind_23 9 rfl ?_
      obtain ⟨r5, er5, h⟩ := sl_b h
      refine sa_invVi C yy_X3_passes ⟨q_698, q_41⟩ q_696 dX3_readKind_25 (As := [.ref (z.2.1 9)]) (rest := []) rfl ⟨Nat.le_trans (Nat.le_of_ble_eq_true rfl) hR.1, Nat.le_trans (Nat.le_of_ble_eq_true rfl) hR.2⟩ (Nat.le_of_ble_eq_true rfl) hh_X3 lx_30 (cc3_passes (by decide) er5) rfl ?_
      refine sa_if_eq C dX3_readKind_28 (tgt := 33) (by decide) (fun c6 => ?_) (fun c6 => ?_)
      · replace h := sl_t c6 h
        refine sa_aload_n C dX3_readKind_33 rfl 0 rfl ?_
        refine sa_ldcS C dX3_readKind_34 10 rfl ?_
        obtain ⟨r7, er7, h⟩ := sl_b h
        refine sa_invVi C yy_X3_passes ⟨q_698, q_41⟩ q_696 dX3_readKind_36 (As := [.ref (z.2.1 10)]) (rest := []) rfl ⟨Nat.le_trans (Nat.le_of_ble_eq_true rfl) hR.1, Nat.le_trans (Nat.le_of_ble_eq_true rfl) hR.2⟩ (Nat.le_of_ble_eq_true rfl) hh_X3 lx_30 (cc3_passes (by decide) er7) rfl ?_
        refine sa_if_eq C dX3_readKind_39 (tgt := 44) (by decide) (fun c8 => ?_) (fun c8 => ?_)
        · replace h := sl_t c8 h
          refine sa_aload_n C dX3_readKind_44 rfl 0 rfl ?_
          refine sa_ldcS C dX3_readKind_45 11 rfl ?_
          obtain ⟨r9, er9, h⟩ := sl_b h
          refine sa_invVi C yy_X3_passes ⟨q_698, q_41⟩ q_696 dX3_readKind_47 (As := [.ref (z.2.1 11)]) (rest := []) rfl ⟨Nat.le_trans (Nat.le_of_ble_eq_true rfl) hR.1, Nat.le_trans (Nat.le_of_ble_eq_true rfl) hR.2⟩ (Nat.le_of_ble_eq_true rfl) hh_X3 lx_30 (cc3_passes (by decide) er9) rfl ?_
          refine sa_if_eq C dX3_readKind_50 (tgt := 55) (by decide) (fun c10 => ?_) (fun c10 => ?_)
          · replace h := sl_t c10 h
            refine sa_aload_n C dX3_readKind_55 rfl 0 rfl ?_
            refine sa_ldcS C dX3_readKind_56 12 rfl ?_
            obtain ⟨r11, er11, h⟩ := sl_b h
            refine sa_invVi C yy_X3_passes ⟨q_698, q_41⟩ q_696 dX3_readKind_58 (As := [.ref (z.2.1 12)]) (rest := []) rfl ⟨Nat.le_trans (Nat.le_of_ble_eq_true rfl) hR.1, Nat.le_trans (Nat.le_of_ble_eq_true rfl) hR.2⟩ (Nat.le_of_ble_eq_true rfl) hh_X3 lx_30 (cc3_passes (by decide) er11) rfl ?_
            refine sa_if_eq C dX3_readKind_61 (tgt := 66) (by decide) (fun c12 => ?_) (fun c12 => ?_)
            · replace h := sl_t c12 h
              refine sa_aload_n C dX3_readKind_66 rfl 0 rfl ?_
              refine sa_ldcS C dX3_readKind_67 13 rfl ?_
              obtain ⟨r13, er13, h⟩ := sl_b h
              refine sa_invVi C yy_X3_passes ⟨q_698, q_41⟩ q_696 dX3_readKind_69 (As := [.ref (z.2.1 13)]) (rest := []) rfl ⟨Nat.le_trans (Nat.le_of_ble_eq_true rfl) hR.1, Nat.le_trans (Nat.le_of_ble_eq_true rfl) hR.2⟩ (Nat.le_of_ble_eq_true rfl) hh_X3 lx_30 (cc3_passes (by decide) er13) rfl ?_
              refine sa_if_eq C dX3_readKind_72 (tgt := 80) (by decide) (fun c14 => ?_) (fun c14 => ?_)
              · replace h := sl_t c14 h
                refine sa_bipush C dX3_readKind_80 bp_m2 ?_
                exact sa_iret C dX3_readKind_82 (sl_p1 h) (sl_p2 h)
              · replace h := sl_n c14 h
                refine sa_bipush C dX3_readKind_75 bp_6 ?_
                refine sa_goto C dX3_readKind_77 (tgt := 82) (by decide) ?_
                exact sa_iret C dX3_readKind_82 (sl_p1 h) (sl_p2 h)
            · replace h := sl_n c12 h
              refine sa_iconst C dX3_readKind_64 ic_5 ?_
              exact sa_iret C dX3_readKind_65 (sl_p1 h) (sl_p2 h)
          · replace h := sl_n c10 h
            refine sa_iconst C dX3_readKind_53 ic_4 ?_
            exact sa_iret C dX3_readKind_54 (sl_p1 h) (sl_p2 h)
        · replace h := sl_n c8 h
          refine sa_iconst C dX3_readKind_42 ic_3 ?_
          exact sa_iret C dX3_readKind_43 (sl_p1 h) (sl_p2 h)
      · replace h := sl_n c6 h
        refine sa_iconst C dX3_readKind_31 ic_2 ?_
        exact sa_iret C dX3_readKind_32 (sl_p1 h) (sl_p2 h)
    · replace h := sl_n c4 h
      refine sa_iconst C dX3_readKind_20 ic_1 ?_
      exact sa_iret C dX3_readKind_21 (sl_p1 h) (sl_p2 h)
  · replace h := sl_n c2 h
    refine sa_iconst C dX3_readKind_9 ic_0 ?_
    exact sa_iret C dX3_readKind_10 (sl_p1 h) (sl_p2 h)
/-! X3 readThing -/
def f3_readThing_112 (j2 : Nat) (x2 : Int32) (x4 : Int32) (x5 : Int32) (x6 : Int32) : Nat → Int32 → sl_M → Option (Int32 × sl_M)
  | 0, _, _ => none
  | n + 1, x7, M => (if x4 < x7 then some ((1 : Int32), M) else (f0_place j2 x7 x2 M).bind fun r2 => (f0_ageTo j2 x7 x6 r2).bind fun r3 => (if x5 = (-1 : Int32) then f3_readThing_112 j2 x2 x4 x5 x6 n (x7 + (1 : Int32)) r3 else (f0_raiseTo j2 x7 x5 r3).bind fun r5 => f3_readThing_112 j2 x2 x4 x5 x6 n (x7 + (1 : Int32)) r5))
def f3_readThing_98 (j2 : Nat) (x2 : Int32) (x3 : Int32) (x4 : Int32) (x5 : Int32) (t0 : Int32) (M : sl_M) : Option (Int32 × sl_M) := (if t0 = (-2 : Int32) then some ((0 : Int32), M) else f3_readThing_112 j2 x2 x4 x5 t0 400 x3 M)
def f3_readThing_67 (j2 : Nat) (x2 : Int32) (x3 : Int32) (x4 : Int32) (t0 : Int32) (M : sl_M) : Option (Int32 × sl_M) := (if t0 = (-2 : Int32) then some ((0 : Int32), M) else (f3_passes 16 M).bind fun r2 => (if r2.1 = 0 then f3_readThing_98 j2 x2 x3 x4 t0 (0 : Int32) r2.2 else (f3_readNumber (0 : Int32) (99 : Int32) r2.2).bind fun r4 => f3_readThing_98 j2 x2 x3 x4 t0 r4.1 r4.2))
def f3_readThing_36 (j2 : Nat) (x2 : Int32) (x3 : Int32) (t0 : Int32) (M : sl_M) : Option (Int32 × sl_M) := (if t0 = (-2 : Int32) then some ((0 : Int32), M) else (f3_passes 15 M).bind fun r2 => (if r2.1 = 0 then f3_readThing_67 j2 x2 x3 t0 (-1 : Int32) r2.2 else (f3_readNumber (0 : Int32) (99 : Int32) r2.2).bind fun r4 => f3_readThing_67 j2 x2 x3 t0 r4.1 r4.2))
def f3_readThing (j2 : Nat) (x2 : Int32) (M : sl_M) : Option (Int32 × sl_M) := (f3_readNumber (0 : Int32) (23 : Int32) M).bind fun r1 => (if r1.1 = (-2 : Int32) then some ((0 : Int32), r1.2) else (f3_passes 14 r1.2).bind fun r3 => (if r3.1 = 0 then f3_readThing_36 j2 x2 r1.1 r1.1 r3.2 else (f3_readNumber r1.1 (23 : Int32) r3.2).bind fun r5 => f3_readThing_36 j2 x2 r1.1 r5.1 r5.2))
theorem w3_readThing_112 {D : va_G} {cA : ClassId} {g : Nat → Nat} {A : Nat → Prop} {z : sl_K} {l : Launch} {p : Program} {e : Env} {R : Room} {s : State} {m : MethodId} {args : Array Value} {below : List Frame} {meth : Method} {c : Code} (C : sl_C RX3 cX3_readThing 8 (some .boolean) sl_cl LX D cA g A z p s m meth c) (hR : 6 ≤ R.frames ∧ 149 ≤ R.locals) {j2 : Nat} (hj2 : j2 < 3) {r : Int32 × sl_M} {x2 : Int32} {x4 : Int32} {x5 : Int32} {x6 : Int32} : ∀ (n : Nat) {x7 : Int32} {M : sl_M}, f3_readThing_112 j2 x2 x4 x5 x6 n x7 M = some r → sl_A sl_cl LX D cA g A p l e R s m args below meth c (MQ below (sl_Q sl_cl LX D cA g A (some (.int r.1)) r.2) args s 0 0 A) 8 112 [(1, .ref (g (9 * j2))), (2, .int x2), (4, .int x4), (5, .int x5), (6, .int x6), (7, .int x7)] [] M := by
  intro n
  induction n with
  | zero =>
    intro x7 M h
    exact absurd h.symm (Option.some_ne_none _)
  | succ n ih =>
    intro x7 M h
    rw [f3_readThing_112] at h
    refine sa_iload C dX3_readThing_112 5 rfl ?_
    refine sa_iload C dX3_readThing_114 2 rfl ?_
    refine sa_icmp_gt C dX3_readThing_116 (tgt := 154) (by decide) (fun c1 => ?_) (fun c1 => ?_)
    · replace h := sl_t c1 h
      refine sa_iconst C dX3_readThing_154 ic_1 ?_
      exact sa_zret C dX3_readThing_155 (Or.inr rfl) (sl_p1 h) (sl_p2 h)
    · replace h := sl_n c1 h
      refine sa_aload_n C dX3_readThing_119 rfl 0 rfl ?_
      refine sa_iload C dX3_readThing_120 5 rfl ?_
      refine sa_iload_n C dX3_readThing_122 rfl 1 rfl ?_
      obtain ⟨r2, er2, h⟩ := sl_b h
      refine sa_invVNv C yy_X0_place ⟨q_302, q_4⟩ q_732 dX3_readThing_123 (As := [.int x7, .int x2]) (rest := []) rfl ⟨Nat.le_trans (Nat.le_of_ble_eq_true rfl) hR.1, Nat.le_trans (Nat.le_of_ble_eq_true rfl) hR.2⟩ (Nat.le_of_ble_eq_true rfl) hh_X0 (lx_o hj2) (cc0_place hj2 er2) rfl ?_
      refine sa_aload_n C dX3_readThing_126 rfl 0 rfl ?_
      refine sa_iload C dX3_readThing_127 5 rfl ?_
      refine sa_iload C dX3_readThing_129 4 rfl ?_
      obtain ⟨r3, er3, h⟩ := sl_b h
      refine sa_invVNv C yy_X0_ageTo ⟨q_291, q_3⟩ q_733 dX3_readThing_131 (As := [.int x7, .int x6]) (rest := []) rfl ⟨Nat.le_trans (Nat.le_of_ble_eq_true rfl) hR.1, Nat.le_trans (Nat.le_of_ble_eq_true rfl) hR.2⟩ (Nat.le_of_ble_eq_true rfl) hh_X0 (lx_o hj2) (cc0_ageTo hj2 er3) rfl ?_
      refine sa_iload C dX3_readThing_134 3 rfl ?_
      refine sa_iconst C dX3_readThing_136 ic_m1 ?_
      refine sa_icmp_eq C dX3_readThing_137 (tgt := 148) (by decide) (fun c4 => ?_) (fun c4 => ?_)
      · replace h := sl_t c4 h
        refine sa_iinc C dX3_readThing_148 5 rfl (v := (x7 + (1 : Int32))) (by rw [ic_1]) (by decide) (lv2 := [(7, .int (x7 + (1 : Int32))), (1, .ref (g (9 * j2))), (2, .int x2), (4, .int x4), (5, .int x5), (6, .int x6)]) rfl ?_
        refine sa_goto C dX3_readThing_151 (tgt := 112) (by decide) ?_
        exact sa_sub [1, 2, 3, 4, 5, 0] rfl (ih h)
      · replace h := sl_n c4 h
        refine sa_aload_n C dX3_readThing_140 rfl 0 rfl ?_
        refine sa_iload C dX3_readThing_141 5 rfl ?_
        refine sa_iload C dX3_readThing_143 3 rfl ?_
        obtain ⟨r5, er5, h⟩ := sl_b h
        refine sa_invVNv C yy_X0_raiseTo ⟨q_277, q_1⟩ q_734 dX3_readThing_145 (As := [.int x7, .int x5]) (rest := []) rfl ⟨Nat.le_trans (Nat.le_of_ble_eq_true rfl) hR.1, Nat.le_trans (Nat.le_of_ble_eq_true rfl) hR.2⟩ (Nat.le_of_ble_eq_true rfl) hh_X0 (lx_o hj2) (cc0_raiseTo hj2 er5) rfl ?_
        refine sa_iinc C dX3_readThing_148 5 rfl (v := (x7 + (1 : Int32))) (by rw [ic_1]) (by decide) (lv2 := [(7, .int (x7 + (1 : Int32))), (1, .ref (g (9 * j2))), (2, .int x2), (4, .int x4), (5, .int x5), (6, .int x6)]) rfl ?_
        refine sa_goto C dX3_readThing_151 (tgt := 112) (by decide) ?_
        exact sa_sub [1, 2, 3, 4, 5, 0] rfl (ih h)
theorem w3_readThing_98 {D : va_G} {cA : ClassId} {g : Nat → Nat} {A : Nat → Prop} {z : sl_K} {l : Launch} {p : Program} {e : Env} {R : Room} {s : State} {m : MethodId} {args : Array Value} {below : List Frame} {meth : Method} {c : Code} (C : sl_C RX3 cX3_readThing 8 (some .boolean) sl_cl LX D cA g A z p s m meth c) (hR : 6 ≤ R.frames ∧ 149 ≤ R.locals) {j2 : Nat} (hj2 : j2 < 3) {M : sl_M} {r : Int32 × sl_M} {x2 : Int32} {x3 : Int32} {x4 : Int32} {x5 : Int32} {t0 : Int32} (h : f3_readThing_98 j2 x2 x3 x4 x5 t0 M = some r) : sl_A sl_cl LX D cA g A p l e R s m args below meth c (MQ below (sl_Q sl_cl LX D cA g A (some (.int r.1)) r.2) args s 0 0 A) 8 98 [(1, .ref (g (9 * j2))), (2, .int x2), (3, .int x3), (4, .int x4), (5, .int x5)] [.int t0] M := by
  rw [f3_readThing_98] at h
  refine sa_istore C dX3_readThing_98 (by decide) (lv2 := [(6, .int t0), (1, .ref (g (9 * j2))), (2, .int x2), (3, .int x3), (4, .int x4), (5, .int x5)]) rfl ?_
  refine sa_iload C dX3_readThing_100 0 rfl ?_
  refine sa_bipush C dX3_readThing_102 bp_m2 ?_
  refine sa_icmp_ne C dX3_readThing_104 (tgt := 109) (by decide) (fun c1 => ?_) (fun c1 => ?_)
  · replace h := sl_n c1 h
    refine sa_iload_n C dX3_readThing_109 rfl 3 rfl ?_
    refine sa_istore C dX3_readThing_110 (by decide) (lv2 := [(7, .int x3), (6, .int t0), (1, .ref (g (9 * j2))), (2, .int x2), (3, .int x3), (4, .int x4), (5, .int x5)]) rfl ?_
    exact sa_sub [2, 3, 5, 6, 1, 0] rfl (w3_readThing_112 C hR hj2 400 h)
  · replace h := sl_t c1 h
    refine sa_iconst C dX3_readThing_107 ic_0 ?_
    exact sa_zret C dX3_readThing_108 (Or.inl rfl) (sl_p1 h) (sl_p2 h)
theorem w3_readThing_67 {D : va_G} {cA : ClassId} {g : Nat → Nat} {A : Nat → Prop} {z : sl_K} {l : Launch} {p : Program} {e : Env} {R : Room} {s : State} {m : MethodId} {args : Array Value} {below : List Frame} {meth : Method} {c : Code} (C : sl_C RX3 cX3_readThing 8 (some .boolean) sl_cl LX D cA g A z p s m meth c) (hR : 6 ≤ R.frames ∧ 149 ≤ R.locals) {j2 : Nat} (hj2 : j2 < 3) {M : sl_M} {r : Int32 × sl_M} {x2 : Int32} {x3 : Int32} {x4 : Int32} {t0 : Int32} (h : f3_readThing_67 j2 x2 x3 x4 t0 M = some r) : sl_A sl_cl LX D cA g A p l e R s m args below meth c (MQ below (sl_Q sl_cl LX D cA g A (some (.int r.1)) r.2) args s 0 0 A) 8 67 [(0, .ref (g 30)), (1, .ref (g (9 * j2))), (2, .int x2), (3, .int x3), (4, .int x4)] [.int t0] M := by
  rw [f3_readThing_67] at h
  refine sa_istore C dX3_readThing_67 (by decide) (lv2 := [(5, .int t0), (0, .ref (g 30)), (1, .ref (g (9 * j2))), (2, .int x2), (3, .int x3), (4, .int x4)]) rfl ?_
  refine sa_iload C dX3_readThing_69 0 rfl ?_
  refine sa_bipush C dX3_readThing_71 bp_m2 ?_
  refine sa_icmp_ne C dX3_readThing_73 (tgt := 78) (by decide) (fun c1 => ?_) (fun c1 => ?_)
  · replace h := sl_n c1 h
    refine sa_aload_n C dX3_readThing_78 rfl 1 rfl ?_
    refine sa_ldcS C dX3_readThing_79 16 rfl ?_
    obtain ⟨r2, er2, h⟩ := sl_b h
    refine sa_invVi C yy_X3_passes ⟨q_698, q_41⟩ q_696 dX3_readThing_81 (As := [.ref (z.2.1 16)]) (rest := []) rfl ⟨Nat.le_trans (Nat.le_of_ble_eq_true rfl) hR.1, Nat.le_trans (Nat.le_of_ble_eq_true rfl) hR.2⟩ (Nat.le_of_ble_eq_true rfl) hh_X3 lx_30 (cc3_passes (by decide) er2) rfl ?_
    refine sa_if_eq C dX3_readThing_84 (tgt := 97) (by decide) (fun c3 => ?_) (fun c3 => ?_)
    · replace h := sl_t c3 h
      refine sa_iconst C dX3_readThing_97 ic_0 ?_
      exact sa_sub [2, 3, 4, 5, 0] rfl (w3_readThing_98 C hR hj2 h)
    · replace h := sl_n c3 h
      refine sa_aload_n C dX3_readThing_87 rfl 1 rfl ?_
      refine sa_iconst C dX3_readThing_88 ic_0 ?_
      refine sa_bipush C dX3_readThing_89 bp_99 ?_
      obtain ⟨r4, er4, h⟩ := sl_b h
      refine sa_invVi C yy_X3_readNumber ⟨q_693, q_40⟩ q_691 dX3_readThing_91 (As := [.int (0 : Int32), .int (99 : Int32)]) (rest := []) rfl ⟨Nat.le_trans (Nat.le_of_ble_eq_true rfl) hR.1, Nat.le_trans (Nat.le_of_ble_eq_true rfl) hR.2⟩ (Nat.le_of_ble_eq_true rfl) hh_X3 lx_30 (cc3_readNumber er4) rfl ?_
      refine sa_goto C dX3_readThing_94 (tgt := 98) (by decide) ?_
      exact sa_sub [2, 3, 4, 5, 0] rfl (w3_readThing_98 C hR hj2 h)
  · replace h := sl_t c1 h
    refine sa_iconst C dX3_readThing_76 ic_0 ?_
    exact sa_zret C dX3_readThing_77 (Or.inl rfl) (sl_p1 h) (sl_p2 h)
theorem w3_readThing_36 {D : va_G} {cA : ClassId} {g : Nat → Nat} {A : Nat → Prop} {z : sl_K} {l : Launch} {p : Program} {e : Env} {R : Room} {s : State} {m : MethodId} {args : Array Value} {below : List Frame} {meth : Method} {c : Code} (C : sl_C RX3 cX3_readThing 8 (some .boolean) sl_cl LX D cA g A z p s m meth c) (hR : 6 ≤ R.frames ∧ 149 ≤ R.locals) {j2 : Nat} (hj2 : j2 < 3) {M : sl_M} {r : Int32 × sl_M} {x2 : Int32} {x3 : Int32} {t0 : Int32} (h : f3_readThing_36 j2 x2 x3 t0 M = some r) : sl_A sl_cl LX D cA g A p l e R s m args below meth c (MQ below (sl_Q sl_cl LX D cA g A (some (.int r.1)) r.2) args s 0 0 A) 8 36 [(0, .ref (g 30)), (1, .ref (g (9 * j2))), (2, .int x2), (3, .int x3)] [.int t0] M := by
  rw [f3_readThing_36] at h
  refine sa_istore C dX3_readThing_36 (by decide) (lv2 := [(4, .int t0), (0, .ref (g 30)), (1, .ref (g (9 * j2))), (2, .int x2), (3, .int x3)]) rfl ?_
  refine sa_iload C dX3_readThing_38 0 rfl ?_
  refine sa_bipush C dX3_readThing_40 bp_m2 ?_
  refine sa_icmp_ne C dX3_readThing_42 (tgt := 47) (by decide) (fun c1 => ?_) (fun c1 => ?_)
  · replace h := sl_n c1 h
    refine sa_aload_n C dX3_readThing_47 rfl 1 rfl ?_
    refine sa_ldcS C dX3_readThing_48 15 rfl ?_
    obtain ⟨r2, er2, h⟩ := sl_b h
    refine sa_invVi C yy_X3_passes ⟨q_698, q_41⟩ q_696 dX3_readThing_50 (As := [.ref (z.2.1 15)]) (rest := []) rfl ⟨Nat.le_trans (Nat.le_of_ble_eq_true rfl) hR.1, Nat.le_trans (Nat.le_of_ble_eq_true rfl) hR.2⟩ (Nat.le_of_ble_eq_true rfl) hh_X3 lx_30 (cc3_passes (by decide) er2) rfl ?_
    refine sa_if_eq C dX3_readThing_53 (tgt := 66) (by decide) (fun c3 => ?_) (fun c3 => ?_)
    · replace h := sl_t c3 h
      refine sa_iconst C dX3_readThing_66 ic_m1 ?_
      exact sa_sub [1, 2, 3, 4, 0] rfl (w3_readThing_67 C hR hj2 h)
    · replace h := sl_n c3 h
      refine sa_aload_n C dX3_readThing_56 rfl 1 rfl ?_
      refine sa_iconst C dX3_readThing_57 ic_0 ?_
      refine sa_bipush C dX3_readThing_58 bp_99 ?_
      obtain ⟨r4, er4, h⟩ := sl_b h
      refine sa_invVi C yy_X3_readNumber ⟨q_693, q_40⟩ q_691 dX3_readThing_60 (As := [.int (0 : Int32), .int (99 : Int32)]) (rest := []) rfl ⟨Nat.le_trans (Nat.le_of_ble_eq_true rfl) hR.1, Nat.le_trans (Nat.le_of_ble_eq_true rfl) hR.2⟩ (Nat.le_of_ble_eq_true rfl) hh_X3 lx_30 (cc3_readNumber er4) rfl ?_
      refine sa_goto C dX3_readThing_63 (tgt := 67) (by decide) ?_
      exact sa_sub [1, 2, 3, 4, 0] rfl (w3_readThing_67 C hR hj2 h)
  · replace h := sl_t c1 h
    refine sa_iconst C dX3_readThing_45 ic_0 ?_
    exact sa_zret C dX3_readThing_46 (Or.inl rfl) (sl_p1 h) (sl_p2 h)
theorem cc3_readThing {D : va_G} {cA : ClassId} {g : Nat → Nat} {A : Nat → Prop} {z : sl_K} {l : Launch} {j2 : Nat} {x2 : Int32} (hj2 : j2 < 3) {M : sl_M} {r : Int32 × sl_M} (h : f3_readThing j2 x2 M = some r) : sl_N sl_cl LX D cA g A z l yX3_readThing cX3_readThing 8 (some .boolean) 6 149 [.ref (g 30), .ref (g (9 * j2)), .int x2] M (some (.int r.1)) r.2 := by
  refine sl_N.of (by decide) (Nat.le_of_ble_eq_true rfl) rfl ?_
  intro p e s m args below meth c C
  replace C : sl_C RX3 cX3_readThing 8 (some .boolean) sl_cl LX D cA g A z p s m meth c := C
  have hR : 6 ≤ (({ frames := 6, cells := 0, slots := 0, locals := 149 } : Room)).frames ∧ 149 ≤ (({ frames := 6, cells := 0, slots := 0, locals := 149 } : Room)).locals := ⟨Nat.le_refl _, Nat.le_refl _⟩
  rw [f3_readThing] at h
  refine sa_aload_n C dX3_readThing_0 rfl 0 rfl ?_
  refine sa_iconst C dX3_readThing_1 ic_0 ?_
  refine sa_bipush C dX3_readThing_2 bp_23 ?_
  obtain ⟨r1, er1, h⟩ := sl_b h
  refine sa_invVi C yy_X3_readNumber ⟨q_693, q_40⟩ q_691 dX3_readThing_4 (As := [.int (0 : Int32), .int (23 : Int32)]) (rest := []) rfl ⟨Nat.le_trans (Nat.le_of_ble_eq_true rfl) hR.1, Nat.le_trans (Nat.le_of_ble_eq_true rfl) hR.2⟩ (Nat.le_of_ble_eq_true rfl) hh_X3 lx_30 (cc3_readNumber er1) rfl ?_
  refine sa_istore_n C dX3_readThing_7 rfl (by decide) (lv2 := [(3, .int r1.1), (0, .ref (g 30)), (1, .ref (g (9 * j2))), (2, .int x2)]) rfl ?_
  refine sa_iload_n C dX3_readThing_8 rfl 0 rfl ?_
  refine sa_bipush C dX3_readThing_9 bp_m2 ?_
  refine sa_icmp_ne C dX3_readThing_11 (tgt := 16) (by decide) (fun c2 => ?_) (fun c2 => ?_)
  · replace h := sl_n c2 h
    refine sa_aload_n C dX3_readThing_16 rfl 1 rfl ?_
    refine sa_ldcS C dX3_readThing_17 14 rfl ?_
    obtain ⟨r3, er3, h⟩ := sl_b h
    refine sa_invVi C yy_X3_passes ⟨q_698, q_41⟩ q_696 dX3_readThing_19 (As := [.ref (z.2.1 14)]) (rest := []) rfl ⟨Nat.le_trans (Nat.le_of_ble_eq_true rfl) hR.1, Nat.le_trans (Nat.le_of_ble_eq_true rfl) hR.2⟩ (Nat.le_of_ble_eq_true rfl) hh_X3 lx_30 (cc3_passes (by decide) er3) rfl ?_
    refine sa_if_eq C dX3_readThing_22 (tgt := 35) (by decide) (fun c4 => ?_) (fun c4 => ?_)
    · replace h := sl_t c4 h
      refine sa_iload_n C dX3_readThing_35 rfl 0 rfl ?_
      exact sa_sub [1, 2, 3, 0] rfl (w3_readThing_36 C hR hj2 h)
    · replace h := sl_n c4 h
      refine sa_aload_n C dX3_readThing_25 rfl 1 rfl ?_
      refine sa_iload_n C dX3_readThing_26 rfl 0 rfl ?_
      refine sa_bipush C dX3_readThing_27 bp_23 ?_
      obtain ⟨r5, er5, h⟩ := sl_b h
      refine sa_invVi C yy_X3_readNumber ⟨q_693, q_40⟩ q_691 dX3_readThing_29 (As := [.int r1.1, .int (23 : Int32)]) (rest := []) rfl ⟨Nat.le_trans (Nat.le_of_ble_eq_true rfl) hR.1, Nat.le_trans (Nat.le_of_ble_eq_true rfl) hR.2⟩ (Nat.le_of_ble_eq_true rfl) hh_X3 lx_30 (cc3_readNumber er5) rfl ?_
      refine sa_goto C dX3_readThing_32 (tgt := 36) (by decide) ?_
      exact sa_sub [1, 2, 3, 0] rfl (w3_readThing_36 C hR hj2 h)
  · replace h := sl_t c2 h
    refine sa_iconst C dX3_readThing_14 ic_0 ?_
    exact sa_zret C dX3_readThing_15 (Or.inl rfl) (sl_p1 h) (sl_p2 h)
/-! X3 readItem -/
def f3_readItem (j2 : Nat) (M : sl_M) : Option (Int32 × sl_M) := (f2_isWord 0 M).bind fun r1 => (if r1 = 0 then (f3_passes 5 M).bind fun r3 => (if r3.1 = 0 then (f3_passes 6 r3.2).bind fun r5 => (if r5.1 = 0 then (f3_readKind r5.2).bind fun r7 => (if r7.1 = (-2 : Int32) then some ((0 : Int32), r7.2) else (f3_readThing j2 r7.1 r7.2).bind fun r9 => (if r9.1 = 0 then some ((0 : Int32), r9.2) else some ((1 : Int32), r9.2))) else (f3_readRate j2 r5.2).bind fun r11 => (sl_bo r11.1).bind fun v12 => some (v12, r11.2)) else (f3_readHaze j2 r3.2).bind fun r13 => (sl_bo r13.1).bind fun v14 => some (v14, r13.2)) else (if (f0_isBuiltUp j2 M) = 0 then (f3_readHouse j2 M).bind fun r16 => (if r16.1 = 0 then some ((0 : Int32), r16.2) else some ((1 : Int32), r16.2)) else some ((0 : Int32), M)))
theorem cc3_readItem {D : va_G} {cA : ClassId} {g : Nat → Nat} {A : Nat → Prop} {z : sl_K} {l : Launch} {j2 : Nat} (hj2 : j2 < 3) {M : sl_M} {r : Int32 × sl_M} (h : f3_readItem j2 M = some r) : sl_N sl_cl LX D cA g A z l yX3_readItem cX3_readItem 3 (some .boolean) 7 176 [.ref (g 30), .ref (g (9 * j2))] M (some (.int r.1)) r.2 := by
  refine sl_N.of (by decide) (Nat.le_of_ble_eq_true rfl) rfl ?_
  intro p e s m args below meth c C
  replace C : sl_C RX3 cX3_readItem 3 (some .boolean) sl_cl LX D cA g A z p s m meth c := C
  have hR : 7 ≤ (({ frames := 7, cells := 0, slots := 0, locals := 176 } : Room)).frames ∧ 176 ≤ (({ frames := 7, cells := 0, slots := 0, locals := 176 } : Room)).locals := ⟨Nat.le_refl _, Nat.le_refl _⟩
  rw [f3_readItem] at h
  refine sa_aload_n C dX3_readItem_0 rfl 0 rfl ?_
  refine sa_getR C hh_X3 (k := 0) dX3_readItem_1 q_212 (by decide) lx_30 rfl ?_
  refine sa_ldcS C dX3_readItem_4 0 rfl ?_
  obtain ⟨r1, er1, h⟩ := sl_b h
  refine sa_invVNi C yy_X2_isWord ⟨q_635, q_38⟩ q_633 dX3_readItem_6 (As := [.ref (z.2.1 0)]) (rest := []) rfl ⟨Nat.le_trans (Nat.le_of_ble_eq_true rfl) hR.1, Nat.le_trans (Nat.le_of_ble_eq_true rfl) hR.2⟩ (Nat.le_of_ble_eq_true rfl) hh_X2 lx_28 (cc2_isWord (by decide) er1) rfl ?_
  refine sa_if_eq C dX3_readItem_9 (tgt := 33) (by decide) (fun c2 => ?_) (fun c2 => ?_)
  · replace h := sl_t c2 h
    refine sa_aload_n C dX3_readItem_33 rfl 0 rfl ?_
    refine sa_ldcS C dX3_readItem_34 5 rfl ?_
    obtain ⟨r3, er3, h⟩ := sl_b h
    refine sa_invVi C yy_X3_passes ⟨q_698, q_41⟩ q_696 dX3_readItem_36 (As := [.ref (z.2.1 5)]) (rest := []) rfl ⟨Nat.le_trans (Nat.le_of_ble_eq_true rfl) hR.1, Nat.le_trans (Nat.le_of_ble_eq_true rfl) hR.2⟩ (Nat.le_of_ble_eq_true rfl) hh_X3 lx_30 (cc3_passes (by decide) er3) rfl ?_
    refine sa_if_eq C dX3_readItem_39 (tgt := 48) (by decide) (fun c4 => ?_) (fun c4 => ?_)
    · replace h := sl_t c4 h
      refine sa_aload_n C dX3_readItem_48 rfl 0 rfl ?_
      refine sa_ldcS C dX3_readItem_49 6 rfl ?_
      obtain ⟨r5, er5, h⟩ := sl_b h
      refine sa_invVi C yy_X3_passes ⟨q_698, q_41⟩ q_696 dX3_readItem_51 (As := [.ref (z.2.1 6)]) (rest := []) rfl ⟨Nat.le_trans (Nat.le_of_ble_eq_true rfl) hR.1, Nat.le_trans (Nat.le_of_ble_eq_true rfl) hR.2⟩ (Nat.le_of_ble_eq_true rfl) hh_X3 lx_30 (cc3_passes (by decide) er5) rfl ?_
      refine sa_if_eq C dX3_readItem_54 (tgt := 63) (by decide) (fun c6 => ?_) (fun c6 => ?_)
      · replace h := sl_t c6 h
        refine sa_aload_n C dX3_readItem_63 rfl 0 rfl ?_
        obtain ⟨r7, er7, h⟩ := sl_b h
        refine sa_invVi C yy_X3_readKind ⟨q_716, q_44⟩ q_714 dX3_readItem_64 (As := []) (rest := []) rfl ⟨Nat.le_trans (Nat.le_of_ble_eq_true rfl) hR.1, Nat.le_trans (Nat.le_of_ble_eq_true rfl) hR.2⟩ (Nat.le_of_ble_eq_true rfl) hh_X3 lx_30 (cc3_readKind er7) rfl ?_
        refine sa_istore_n C dX3_readItem_67 rfl (by decide) (lv2 := [(2, .int r7.1), (0, .ref (g 30)), (1, .ref (g (9 * j2)))]) rfl ?_
        refine sa_iload_n C dX3_readItem_68 rfl 0 rfl ?_
        refine sa_bipush C dX3_readItem_69 bp_m2 ?_
        refine sa_icmp_eq C dX3_readItem_71 (tgt := 87) (by decide) (fun c8 => ?_) (fun c8 => ?_)
        · replace h := sl_t c8 h
          refine sa_iconst C dX3_readItem_87 ic_0 ?_
          exact sa_zret C dX3_readItem_88 (Or.inl rfl) (sl_p1 h) (sl_p2 h)
        · replace h := sl_n c8 h
          refine sa_aload_n C dX3_readItem_74 rfl 1 rfl ?_
          refine sa_aload_n C dX3_readItem_75 rfl 2 rfl ?_
          refine sa_iload_n C dX3_readItem_76 rfl 0 rfl ?_
          obtain ⟨r9, er9, h⟩ := sl_b h
          refine sa_invVi C yy_X3_readThing ⟨q_727, q_45⟩ q_725 dX3_readItem_77 (As := [.ref (g (9 * j2)), .int r7.1]) (rest := []) rfl ⟨Nat.le_trans (Nat.le_of_ble_eq_true rfl) hR.1, Nat.le_trans (Nat.le_of_ble_eq_true rfl) hR.2⟩ (Nat.le_of_ble_eq_true rfl) hh_X3 lx_30 (cc3_readThing hj2 er9) rfl ?_
          refine sa_if_eq C dX3_readItem_80 (tgt := 87) (by decide) (fun c10 => ?_) (fun c10 => ?_)
          · replace h := sl_t c10 h
            refine sa_iconst C dX3_readItem_87 ic_0 ?_
            exact sa_zret C dX3_readItem_88 (Or.inl rfl) (sl_p1 h) (sl_p2 h)
          · replace h := sl_n c10 h
            refine sa_iconst C dX3_readItem_83 ic_1 ?_
            refine sa_goto C dX3_readItem_84 (tgt := 88) (by decide) ?_
            exact sa_zret C dX3_readItem_88 (Or.inr rfl) (sl_p1 h) (sl_p2 h)
      · replace h := sl_n c6 h
        refine sa_aload_n C dX3_readItem_57 rfl 0 rfl ?_
        refine sa_aload_n C dX3_readItem_58 rfl 1 rfl ?_
        obtain ⟨r11, er11, h⟩ := sl_b h
        refine sa_invVi C yy_X3_readRate ⟨q_712, q_43⟩ q_710 dX3_readItem_59 (As := [.ref (g (9 * j2))]) (rest := []) rfl ⟨Nat.le_trans (Nat.le_of_ble_eq_true rfl) hR.1, Nat.le_trans (Nat.le_of_ble_eq_true rfl) hR.2⟩ (Nat.le_of_ble_eq_true rfl) hh_X3 lx_30 (cc3_readRate hj2 er11) rfl ?_
        obtain ⟨v12, ev12, h⟩ := sl_b h
        obtain ⟨ev12, bv12⟩ := sl_bo_s ev12
        rw [← ev12]
        exact sa_zret C dX3_readItem_62 (sl_b01 ev12 bv12) (sl_p1 h) (sl_p2 h)
    · replace h := sl_n c4 h
      refine sa_aload_n C dX3_readItem_42 rfl 0 rfl ?_
      refine sa_aload_n C dX3_readItem_43 rfl 1 rfl ?_
      obtain ⟨r13, er13, h⟩ := sl_b h
      refine sa_invVi C yy_X3_readHaze ⟨q_707, q_42⟩ q_705 dX3_readItem_44 (As := [.ref (g (9 * j2))]) (rest := []) rfl ⟨Nat.le_trans (Nat.le_of_ble_eq_true rfl) hR.1, Nat.le_trans (Nat.le_of_ble_eq_true rfl) hR.2⟩ (Nat.le_of_ble_eq_true rfl) hh_X3 lx_30 (cc3_readHaze hj2 er13) rfl ?_
      obtain ⟨v14, ev14, h⟩ := sl_b h
      obtain ⟨ev14, bv14⟩ := sl_bo_s ev14
      rw [← ev14]
      exact sa_zret C dX3_readItem_47 (sl_b01 ev14 bv14) (sl_p1 h) (sl_p2 h)
  · replace h := sl_n c2 h
    refine sa_aload_n C dX3_readItem_12 rfl 1 rfl ?_
    refine sa_invVNi C yy_X0_isBuiltUp ⟨q_323, q_6⟩ q_685 dX3_readItem_13 (As := []) (rest := []) rfl ⟨Nat.le_trans (Nat.le_of_ble_eq_true rfl) hR.1, Nat.le_trans (Nat.le_of_ble_eq_true rfl) hR.2⟩ (Nat.le_of_ble_eq_true rfl) hh_X0 (lx_o hj2) (cc0_isBuiltUp hj2 rfl) rfl ?_
    refine sa_if_ne C dX3_readItem_16 (tgt := 31) (by decide) (fun c15 => ?_) (fun c15 => ?_)
    · replace h := sl_n c15 h
      refine sa_iconst C dX3_readItem_31 ic_0 ?_
      exact sa_zret C dX3_readItem_32 (Or.inl rfl) (sl_p1 h) (sl_p2 h)
    · replace h := sl_t c15 h
      refine sa_aload_n C dX3_readItem_19 rfl 0 rfl ?_
      refine sa_aload_n C dX3_readItem_20 rfl 1 rfl ?_
      obtain ⟨r16, er16, h⟩ := sl_b h
      refine sa_invVi C yy_X3_readHouse ⟨q_688, q_39⟩ q_686 dX3_readItem_21 (As := [.ref (g (9 * j2))]) (rest := []) rfl ⟨Nat.le_trans (Nat.le_of_ble_eq_true rfl) hR.1, Nat.le_trans (Nat.le_of_ble_eq_true rfl) hR.2⟩ (Nat.le_of_ble_eq_true rfl) hh_X3 lx_30 (cc3_readHouse hj2 er16) rfl ?_
      refine sa_if_eq C dX3_readItem_24 (tgt := 31) (by decide) (fun c17 => ?_) (fun c17 => ?_)
      · replace h := sl_t c17 h
        refine sa_iconst C dX3_readItem_31 ic_0 ?_
        exact sa_zret C dX3_readItem_32 (Or.inl rfl) (sl_p1 h) (sl_p2 h)
      · replace h := sl_n c17 h
        refine sa_iconst C dX3_readItem_27 ic_1 ?_
        refine sa_goto C dX3_readItem_28 (tgt := 32) (by decide) ?_
        exact sa_zret C dX3_readItem_32 (Or.inr rfl) (sl_p1 h) (sl_p2 h)
/-! X3 faultHere -/
def f3_faultHere (M : sl_M) : Int32 := ((-1 : Int32) - (M 28 4))
theorem cc3_faultHere {D : va_G} {cA : ClassId} {g : Nat → Nat} {A : Nat → Prop} {z : sl_K} {l : Launch} {M : sl_M} {r : Int32} (h : f3_faultHere M = r) : sl_N sl_cl LX D cA g A z l yX3_faultHere cX3_faultHere 1 (some .int) 0 0 [.ref (g 30)] M (some (.int r)) M := by
  refine sl_N.of (by decide) (Nat.le_of_ble_eq_true rfl) rfl ?_
  intro p e s m args below meth c C
  replace C : sl_C RX3 cX3_faultHere 1 (some .int) sl_cl LX D cA g A z p s m meth c := C
  have hR : 0 ≤ (({ frames := 0, cells := 0, slots := 0, locals := 0 } : Room)).frames ∧ 0 ≤ (({ frames := 0, cells := 0, slots := 0, locals := 0 } : Room)).locals := ⟨Nat.le_refl _, Nat.le_refl _⟩
  rw [f3_faultHere] at h
  refine sa_iconst C dX3_faultHere_0 ic_m1 ?_
  refine sa_aload_n C dX3_faultHere_1 rfl 0 rfl ?_
  refine sa_getR C hh_X3 (k := 0) dX3_faultHere_2 q_212 (by decide) lx_30 rfl ?_
  refine sa_getIN C hh_X2 (k := 4) dX3_faultHere_5 q_196 (by decide) lx_28 rfl ?_
  refine sa_isub C dX3_faultHere_8 ?_
  exact sa_iret C dX3_faultHere_9 h rfl
/-! X3 readInto -/
def f3_readInto_9 (j2 : Nat) : Nat → Int32 → sl_M → Option (Int32 × sl_M)
  | 0, _, _ => none
  | n + 1, x2, M => (if (120 : Int32) < x2 then some ((f3_faultHere M), M) else (f3_readItem j2 M).bind fun r2 => (if r2.1 = 0 then some ((f3_faultHere r2.2), r2.2) else (if (r2.2 28 3) = 0 then some (x2, r2.2) else (if (r2.2 28 3) = (3 : Int32) then (f2_step r2.2).bind fun r6 => f3_readInto_9 j2 n (x2 + (1 : Int32)) r6 else some ((f3_faultHere r2.2), r2.2)))))
def f3_readInto (j2 : Nat) (M : sl_M) : Option (Int32 × sl_M) := (f2_rewind M).bind fun r1 => f3_readInto_9 j2 400 (1 : Int32) r1
theorem w3_readInto_9 {D : va_G} {cA : ClassId} {g : Nat → Nat} {A : Nat → Prop} {z : sl_K} {l : Launch} {p : Program} {e : Env} {R : Room} {s : State} {m : MethodId} {args : Array Value} {below : List Frame} {meth : Method} {c : Code} (C : sl_C RX3 cX3_readInto 3 (some .int) sl_cl LX D cA g A z p s m meth c) (hR : 8 ≤ R.frames ∧ 198 ≤ R.locals) {j2 : Nat} (hj2 : j2 < 3) {r : Int32 × sl_M} : ∀ (n : Nat) {x2 : Int32} {M : sl_M}, f3_readInto_9 j2 n x2 M = some r → sl_A sl_cl LX D cA g A p l e R s m args below meth c (MQ below (sl_Q sl_cl LX D cA g A (some (.int r.1)) r.2) args s 0 0 A) 3 9 [(0, .ref (g 30)), (1, .ref (g (9 * j2))), (2, .int x2)] [] M := by
  intro n
  induction n with
  | zero =>
    intro x2 M h
    exact absurd h.symm (Option.some_ne_none _)
  | succ n ih =>
    intro x2 M h
    rw [f3_readInto_9] at h
    refine sa_iload_n C dX3_readInto_9 rfl 2 rfl ?_
    refine sa_bipush C dX3_readInto_10 bp_120 ?_
    refine sa_icmp_gt C dX3_readInto_12 (tgt := 69) (by decide) (fun c1 => ?_) (fun c1 => ?_)
    · replace h := sl_t c1 h
      refine sa_aload_n C dX3_readInto_69 rfl 0 rfl ?_
      refine sa_invVi C yy_X3_faultHere ⟨q_737, q_46⟩ q_735 dX3_readInto_70 (As := []) (rest := []) rfl ⟨Nat.le_trans (Nat.le_of_ble_eq_true rfl) hR.1, Nat.le_trans (Nat.le_of_ble_eq_true rfl) hR.2⟩ (Nat.le_of_ble_eq_true rfl) hh_X3 lx_30 (cc3_faultHere rfl) rfl ?_
      exact sa_iret C dX3_readInto_73 (sl_p1 h) (sl_p2 h)
    · replace h := sl_n c1 h
      refine sa_aload_n C dX3_readInto_15 rfl 0 rfl ?_
      refine sa_aload_n C dX3_readInto_16 rfl 1 rfl ?_
      obtain ⟨r2, er2, h⟩ := sl_b h
      refine sa_invVi C yy_X3_readItem ⟨q_630, q_37⟩ q_628 dX3_readInto_17 (As := [.ref (g (9 * j2))]) (rest := []) rfl ⟨Nat.le_trans (Nat.le_of_ble_eq_true rfl) hR.1, Nat.le_trans (Nat.le_of_ble_eq_true rfl) hR.2⟩ (Nat.le_of_ble_eq_true rfl) hh_X3 lx_30 (cc3_readItem hj2 er2) rfl ?_
      refine sa_if_ne C dX3_readInto_20 (tgt := 28) (by decide) (fun c3 => ?_) (fun c3 => ?_)
      · replace h := sl_n c3 h
        refine sa_aload_n C dX3_readInto_28 rfl 0 rfl ?_
        refine sa_getR C hh_X3 (k := 0) dX3_readInto_29 q_212 (by decide) lx_30 rfl ?_
        refine sa_getIN C hh_X2 (k := 3) dX3_readInto_32 q_194 (by decide) lx_28 rfl ?_
        refine sa_if_ne C dX3_readInto_35 (tgt := 40) (by decide) (fun c4 => ?_) (fun c4 => ?_)
        · replace h := sl_n c4 h
          refine sa_aload_n C dX3_readInto_40 rfl 0 rfl ?_
          refine sa_getR C hh_X3 (k := 0) dX3_readInto_41 q_212 (by decide) lx_30 rfl ?_
          refine sa_getIN C hh_X2 (k := 3) dX3_readInto_44 q_194 (by decide) lx_28 rfl ?_
          refine sa_iconst C dX3_readInto_47 ic_3 ?_
          refine sa_icmp_eq C dX3_readInto_48 (tgt := 56) (by decide) (fun c5 => ?_) (fun c5 => ?_)
          · replace h := sl_t c5 h
            refine sa_aload_n C dX3_readInto_56 rfl 0 rfl ?_
            refine sa_getR C hh_X3 (k := 0) dX3_readInto_57 q_212 (by decide) lx_30 rfl ?_
            obtain ⟨r6, er6, h⟩ := sl_b h
            refine sa_invVNv C yy_X2_step ⟨q_618, q_34⟩ q_690 dX3_readInto_60 (As := []) (rest := []) rfl ⟨Nat.le_trans (Nat.le_of_ble_eq_true rfl) hR.1, Nat.le_trans (Nat.le_of_ble_eq_true rfl) hR.2⟩ (Nat.le_of_ble_eq_true rfl) hh_X2 lx_28 (cc2_step er6) rfl ?_
            refine sa_iinc C dX3_readInto_63 2 rfl (v := (x2 + (1 : Int32))) (by rw [ic_1]) (by decide) (lv2 := [(2, .int (x2 + (1 : Int32))), (0, .ref (g 30)), (1, .ref (g (9 * j2)))]) rfl ?_
            refine sa_goto C dX3_readInto_66 (tgt := 9) (by decide) ?_
            exact sa_sub [1, 2, 0] rfl (ih h)
          · replace h := sl_n c5 h
            refine sa_aload_n C dX3_readInto_51 rfl 0 rfl ?_
            refine sa_invVi C yy_X3_faultHere ⟨q_737, q_46⟩ q_735 dX3_readInto_52 (As := []) (rest := []) rfl ⟨Nat.le_trans (Nat.le_of_ble_eq_true rfl) hR.1, Nat.le_trans (Nat.le_of_ble_eq_true rfl) hR.2⟩ (Nat.le_of_ble_eq_true rfl) hh_X3 lx_30 (cc3_faultHere rfl) rfl ?_
            exact sa_iret C dX3_readInto_55 (sl_p1 h) (sl_p2 h)
        · replace h := sl_t c4 h
          refine sa_iload_n C dX3_readInto_38 rfl 2 rfl ?_
          exact sa_iret C dX3_readInto_39 (sl_p1 h) (sl_p2 h)
      · replace h := sl_t c3 h
        refine sa_aload_n C dX3_readInto_23 rfl 0 rfl ?_
        refine sa_invVi C yy_X3_faultHere ⟨q_737, q_46⟩ q_735 dX3_readInto_24 (As := []) (rest := []) rfl ⟨Nat.le_trans (Nat.le_of_ble_eq_true rfl) hR.1, Nat.le_trans (Nat.le_of_ble_eq_true rfl) hR.2⟩ (Nat.le_of_ble_eq_true rfl) hh_X3 lx_30 (cc3_faultHere rfl) rfl ?_
        exact sa_iret C dX3_readInto_27 (sl_p1 h) (sl_p2 h)
theorem cc3_readInto {D : va_G} {cA : ClassId} {g : Nat → Nat} {A : Nat → Prop} {z : sl_K} {l : Launch} {j2 : Nat} (hj2 : j2 < 3) {M : sl_M} {r : Int32 × sl_M} (h : f3_readInto j2 M = some r) : sl_N sl_cl LX D cA g A z l yX3_readInto cX3_readInto 3 (some .int) 8 198 [.ref (g 30), .ref (g (9 * j2))] M (some (.int r.1)) r.2 := by
  refine sl_N.of (by decide) (Nat.le_of_ble_eq_true rfl) rfl ?_
  intro p e s m args below meth c C
  replace C : sl_C RX3 cX3_readInto 3 (some .int) sl_cl LX D cA g A z p s m meth c := C
  have hR : 8 ≤ (({ frames := 8, cells := 0, slots := 0, locals := 198 } : Room)).frames ∧ 198 ≤ (({ frames := 8, cells := 0, slots := 0, locals := 198 } : Room)).locals := ⟨Nat.le_refl _, Nat.le_refl _⟩
  rw [f3_readInto] at h
  refine sa_aload_n C dX3_readInto_0 rfl 0 rfl ?_
  refine sa_getR C hh_X3 (k := 0) dX3_readInto_1 q_212 (by decide) lx_30 rfl ?_
  obtain ⟨r1, er1, h⟩ := sl_b h
  refine sa_invVNv C yy_X2_rewind ⟨q_614, q_33⟩ q_612 dX3_readInto_4 (As := []) (rest := []) rfl ⟨Nat.le_trans (Nat.le_of_ble_eq_true rfl) hR.1, Nat.le_trans (Nat.le_of_ble_eq_true rfl) hR.2⟩ (Nat.le_of_ble_eq_true rfl) hh_X2 lx_28 (cc2_rewind er1) rfl ?_
  refine sa_iconst C dX3_readInto_7 ic_1 ?_
  refine sa_istore_n C dX3_readInto_8 rfl (by decide) (lv2 := [(2, .int (1 : Int32)), (0, .ref (g 30)), (1, .ref (g (9 * j2)))]) rfl ?_
  exact sa_sub [1, 2, 0] rfl (w3_readInto_9 C hR hj2 400 h)
