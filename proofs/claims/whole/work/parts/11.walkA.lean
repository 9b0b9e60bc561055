/-! X0 takeAll -/
def f0_takeAll (j : Nat) (j2 : Nat) (M : sl_M) : Option sl_M := (sl_cp M (9 * j2 + 1) 24 (9 * j + 1) 24 (0 : Int32) (0 : Int32) (24 : Int32)).bind fun M1 => (sl_cp M1 (9 * j2 + 2) 24 (9 * j + 2) 24 (0 : Int32) (0 : Int32) (24 : Int32)).bind fun M2 => (sl_cp M2 (9 * j2 + 3) 24 (9 * j + 3) 24 (0 : Int32) (0 : Int32) (24 : Int32)).bind fun M3 => (sl_cp M3 (9 * j2 + 4) 24 (9 * j + 4) 24 (0 : Int32) (0 : Int32) (24 : Int32)).bind fun M4 => (sl_cp M4 (9 * j2 + 5) 8 (9 * j + 5) 8 (0 : Int32) (0 : Int32) (8 : Int32)).bind fun M5 => (sl_cp M5 (9 * j2 + 6) 8 (9 * j + 6) 8 (0 : Int32) (0 : Int32) (8 : Int32)).bind fun M6 => (sl_cp M6 (9 * j2 + 7) 8 (9 * j + 7) 8 (0 : Int32) (0 : Int32) (8 : Int32)).bind fun M7 => (sl_cp M7 (9 * j2 + 8) 10 (9 * j + 8) 10 (0 : Int32) (0 : Int32) (10 : Int32)).bind fun M8 => some (sl_up (sl_up (sl_up (sl_up (sl_up M8 (9 * j) 8 (M8 (9 * j2) 8)) (9 * j) 9 ((sl_up M8 (9 * j) 8 (M8 (9 * j2) 8)) (9 * j2) 9)) (9 * j) 10 ((sl_up (sl_up M8 (9 * j) 8 (M8 (9 * j2) 8)) (9 * j) 9 ((sl_up M8 (9 * j) 8 (M8 (9 * j2) 8)) (9 * j2) 9)) (9 * j2) 10)) (9 * j) 11 ((sl_up (sl_up (sl_up M8 (9 * j) 8 (M8 (9 * j2) 8)) (9 * j) 9 ((sl_up M8 (9 * j) 8 (M8 (9 * j2) 8)) (9 * j2) 9)) (9 * j) 10 ((sl_up (sl_up M8 (9 * j) 8 (M8 (9 * j2) 8)) (9 * j) 9 ((sl_up M8 (9 * j) 8 (M8 (9 * j2) 8)) (9 * j2) 9)) (9 * j2) 10)) (9 * j2) 11)) (9 * j) 12 ((sl_up (sl_up (sl_up (sl_up M8 (9 * j) 8 (M8 (9 * j2) 8)) (9 * j) 9 ((sl_up M8 (9 * j) 8 (M8 (9 * j2) 8)) (9 * j2) 9)) (9 * j) 10 ((sl_up (sl_up M8 (9 * j) 8 (M8 (9 * j2) 8)) (9 * j) 9 ((sl_up M8 (9 * j) 8 (M8 (9 * j2) 8)) (9 * j2) 9)) (9 * j2) 10)) (9 * j) 11 ((sl_up (sl_up (sl_up M8 (9 * j) 8 (M8 (9 * j2) 8)) (9 * j) 9 ((sl_up M8 (9 * j) 8 (M8 (9 * j2) 8)) (9 * j2) 9)) (9 * j) 10 ((sl_up (sl_up M8 (9 * j) 8 (M8 (9 * j2) 8)) (9 * j) 9 ((sl_up M8 (9 * j) 8 (M8 (9 * j2) 8)) (9 * j2) 9)) (9 * j2) 10)) (9 * j2) 11)) (9 * j2) 12))
theorem cc0_takeAll {D : va_G} {cA : ClassId} {g : Nat → Nat} {A : Nat → Prop} {z : sl_K} {l : Launch} {j : Nat} {j2 : Nat} (hj : j < 3) (hj2 : j2 < 3) {M : sl_M} {r : sl_M} (h : f0_takeAll j j2 M = some r) : sl_N sl_cl LX D cA g A z l yX0_takeAll cX0_takeAll 2 none 1 40 [.ref (g (9 * j)), .ref (g (9 * j2))] M none r := by
  refine sl_N.of (by decide) (Nat.le_of_ble_eq_true rfl) rfl ?_
  intro p e s m args below meth c C
  replace C : sl_C RX0 cX0_takeAll 2 none sl_cl LX D cA g A z p s m meth c := C
  have hR : 1 ≤ (({ frames := 1, cells := 0, slots := 0, locals := 40 } : Room)).frames ∧ 40 ≤ (({ frames := 1, cells := 0, slots := 0, locals := 40 } : Room)).locals := ⟨Nat.le_refl _, Nat.le_refl _⟩
  rw [f0_takeAll] at h
  refine sa_aload_n C dX0_takeAll_0 rfl 1 rfl ?_
  refine sa_getR C hh_X0 (k := 0) dX0_takeAll_1 q_121 (by decide) (lx_o hj2) rfl ?_
  refine sa_iconst C dX0_takeAll_4 ic_0 ?_
  refine sa_aload_n C dX0_takeAll_5 rfl 0 rfl ?_
  refine sa_getR C hh_X0 (k := 0) dX0_takeAll_6 q_121 (by decide) (lx_o hj) rfl ?_
  refine sa_iconst C dX0_takeAll_9 ic_0 ?_
  refine sa_bipush C dX0_takeAll_10 bp_24 ?_
  obtain ⟨M1, eM1, h⟩ := sl_b h
  refine sa_copy C dX0_takeAll_12 q_459 q_461 q_460 q_101 (lx_a1 hj2) (lx_a1 hj) (Nat.le_of_ble_eq_true rfl) ⟨Nat.le_trans (Nat.le_of_ble_eq_true rfl) hR.1, Nat.le_trans (Nat.le_of_ble_eq_true rfl) hR.2⟩ eM1 ?_
  refine sa_aload_n C dX0_takeAll_15 rfl 1 rfl ?_
  refine sa_getR C hh_X0 (k := 1) dX0_takeAll_16 q_123 (by decide) (lx_o hj2) rfl ?_
  refine sa_iconst C dX0_takeAll_19 ic_0 ?_
  refine sa_aload_n C dX0_takeAll_20 rfl 0 rfl ?_
  refine sa_getR C hh_X0 (k := 1) dX0_takeAll_21 q_123 (by decide) (lx_o hj) rfl ?_
  refine sa_iconst C dX0_takeAll_24 ic_0 ?_
  refine sa_bipush C dX0_takeAll_25 bp_24 ?_
  obtain ⟨M2, eM2, h⟩ := sl_b h
  refine sa_copy C dX0_takeAll_27 q_459 q_461 q_460 q_101 (lx_a2 hj2) (lx_a2 hj) (Nat.le_of_ble_eq_true rfl) ⟨Nat.le_trans (Nat.le_of_ble_eq_true rfl) hR.1, Nat.le_trans (Nat.le_of_ble_eq_true rfl) hR.2⟩ eM2 ?_
  refine sa_aload_n C dX0_takeAll_30 rfl 1 rfl ?_
  refine sa_getR C hh_X0 (k := 2) dX0_takeAll_31 q_125 (by decide) (lx_o hj2) rfl ?_
  refine sa_iconst C dX0_takeAll_34 ic_0 ?_
  refine sa_aload_n C dX0_takeAll_35 rfl 0 rfl ?_
  refine sa_getR C hh_X0 (k := 2) dX0_takeAll_36 q_125 (by decide) (lx_o hj) rfl ?_
  refine sa_iconst C dX0_takeAll_39 ic_0 ?_
  refine sa_bipush C dX0_takeAll_40 bp_24 ?_
  obtain ⟨M3, eM3, h⟩ := sl_b h
  refine sa_copy C dX0_takeAll_42 q_459 q_461 q_460 q_101 (lx_a3 hj2) (lx_a3 hj) (Nat.le_of_ble_eq_true rfl) ⟨Nat.le_trans (Nat.le_of_ble_eq_true rfl) hR.1, Nat.le_trans (Nat.le_of_ble_eq_true rfl) hR.2⟩ eM3 ?_
  refine sa_aload_n C dX0_takeAll_45 rfl 1 rfl ?_
  refine sa_getR C hh_X0 (k := 3) dX0_takeAll_46 q_127 (by decide) (lx_o hj2) rfl ?_
  refine sa_iconst C dX0_takeAll_49 ic_0 ?_
  refine sa_aload_n C dX0_takeAll_50 rfl 0 rfl ?_
  refine sa_getR C hh_X0 (k := 3) dX0_takeAll_51 q_127 (by decide) (lx_o hj) rfl ?_
  refine sa_iconst C dX0_takeAll_54 ic_0 ?_
  refine sa_bipush C dX0_takeAll_55 bp_24 ?_
  obtain ⟨M4, eM4, h⟩ := sl_b h
  refine sa_copy C dX0_takeAll_57 q_459 q_461 q_460 q_101 (lx_a4 hj2) (lx_a4 hj) (Nat.le_of_ble_eq_true rfl) ⟨Nat.le_trans (Nat.le_of_ble_eq_true rfl) hR.1, Nat.le_trans (Nat.le_of_ble_eq_true rfl) hR.2⟩ eM4 ?_
  refine sa_aload_n C dX0_takeAll_60 rfl 1 rfl ?_
  refine sa_getR C hh_X0 (k := 4) dX0_takeAll_61 q_129 (by decide) (lx_o hj2) rfl ?_
  refine sa_iconst C dX0_takeAll_64 ic_0 ?_
  refine sa_aload_n C dX0_takeAll_65 rfl 0 rfl ?_
  refine sa_getR C hh_X0 (k := 4) dX0_takeAll_66 q_129 (by decide) (lx_o hj) rfl ?_
  refine sa_iconst C dX0_takeAll_69 ic_0 ?_
  refine sa_bipush C dX0_takeAll_70 bp_8 ?_
  obtain ⟨M5, eM5, h⟩ := sl_b h
  refine sa_copy C dX0_takeAll_72 q_459 q_461 q_460 q_101 (lx_a5 hj2) (lx_a5 hj) (Nat.le_of_ble_eq_true rfl) ⟨Nat.le_trans (Nat.le_of_ble_eq_true rfl) hR.1, Nat.le_trans (Nat.le_of_ble_eq_true rfl) hR.2⟩ eM5 ?_
  refine sa_aload_n C dX0_takeAll_75 rfl 1 rfl ?_
  refine sa_getR C hh_X0 (k := 5) dX0_takeAll_76 q_131 (by decide) (lx_o hj2) rfl ?_
  refine sa_iconst C dX0_takeAll_79 ic_0 ?_
  refine sa_aload_n C dX0_takeAll_80 rfl 0 rfl ?_
  refine sa_getR C hh_X0 (k := 5) dX0_takeAll_81 q_131 (by decide) (lx_o hj) rfl ?_
  refine sa_iconst C dX0_takeAll_84 ic_0 ?_
  refine sa_bipush C dX0_takeAll_85 bp_8 ?_
  obtain ⟨M6, eM6, h⟩ := sl_b h
  refine sa_copy C dX0_takeAll_87 q_459 q_461 q_460 q_101 (lx_a6 hj2) (lx_a6 hj) (Nat.le_of_ble_eq_true rfl) ⟨Nat.le_trans (Nat.le_of_ble_eq_true rfl) hR.1, Nat.le_trans (Nat.le_of_ble_eq_true rfl) hR.2⟩ eM6 ?_
  refine sa_aload_n C dX0_takeAll_90 rfl 1 rfl ?_
  refine sa_getR C hh_X0 (k := 6) dX0_takeAll_91 q_133 (by decide) (lx_o hj2) rfl ?_
  refine sa_iconst C dX0_takeAll_94 ic_0 ?_
  refine sa_aload_n C dX0_takeAll_95 rfl 0 rfl ?_
  refine sa_getR C hh_X0 (k := 6) dX0_takeAll_96 q_133 (by decide) (lx_o hj) rfl ?_
  refine sa_iconst C dX0_takeAll_99 ic_0 ?_
  refine sa_bipush C dX0_takeAll_100 bp_8 ?_
  obtain ⟨M7, eM7, h⟩ := sl_b h
  refine sa_copy C dX0_takeAll_102 q_459 q_461 q_460 q_101 (lx_a7 hj2) (lx_a7 hj) (Nat.le_of_ble_eq_true rfl) ⟨Nat.le_trans (Nat.le_of_ble_eq_true rfl) hR.1, Nat.le_trans (Nat.le_of_ble_eq_true rfl) hR.2⟩ eM7 ?_
  refine sa_aload_n C dX0_takeAll_105 rfl 1 rfl ?_
  refine sa_getR C hh_X0 (k := 7) dX0_takeAll_106 q_135 (by decide) (lx_o hj2) rfl ?_
  refine sa_iconst C dX0_takeAll_109 ic_0 ?_
  refine sa_aload_n C dX0_takeAll_110 rfl 0 rfl ?_
  refine sa_getR C hh_X0 (k := 7) dX0_takeAll_111 q_135 (by decide) (lx_o hj) rfl ?_
  refine sa_iconst C dX0_takeAll_114 ic_0 ?_
  refine sa_bipush C dX0_takeAll_115 bp_10 ?_
  obtain ⟨M8, eM8, h⟩ := sl_b h
  refine sa_copy C dX0_takeAll_117 q_459 q_461 q_460 q_101 (lx_a8 hj2) (lx_a8 hj) (Nat.le_of_ble_eq_true rfl) ⟨Nat.le_trans (Nat.le_of_ble_eq_true rfl) hR.1, Nat.le_trans (Nat.le_of_ble_eq_true rfl) hR.2⟩ eM8 ?_
  refine sa_aload_n C dX0_takeAll_120 rfl 0 rfl ?_
  refine sa_aload_n C dX0_takeAll_121 rfl 1 rfl ?_
  refine sa_getI C hh_X0 (k := 8) dX0_takeAll_122 q_137 (by decide) (lx_o hj2) rfl ?_
  refine sa_put C hh_X0 (k := 8) dX0_takeAll_125 q_137 (by decide) rfl (fty := .int) (by decide) rfl rfl (lx_o hj) rfl ?_
  refine sa_aload_n C dX0_takeAll_128 rfl 0 rfl ?_
  refine sa_aload_n C dX0_takeAll_129 rfl 1 rfl ?_
  refine sa_getI C hh_X0 (k := 9) dX0_takeAll_130 q_139 (by decide) (lx_o hj2) rfl ?_
  refine sa_put C hh_X0 (k := 9) dX0_takeAll_133 q_139 (by decide) rfl (fty := .int) (by decide) rfl rfl (lx_o hj) rfl ?_
  refine sa_aload_n C dX0_takeAll_136 rfl 0 rfl ?_
  refine sa_aload_n C dX0_takeAll_137 rfl 1 rfl ?_
  refine sa_getI C hh_X0 (k := 10) dX0_takeAll_138 q_142 (by decide) (lx_o hj2) rfl ?_
  refine sa_put C hh_X0 (k := 10) dX0_takeAll_141 q_142 (by decide) rfl (fty := .int) (by decide) rfl rfl (lx_o hj) rfl ?_
  refine sa_aload_n C dX0_takeAll_144 rfl 0 rfl ?_
  refine sa_aload_n C dX0_takeAll_145 rfl 1 rfl ?_
  refine sa_getI C hh_X0 (k := 11) dX0_takeAll_146 q_145 (by decide) (lx_o hj2) rfl ?_
  refine sa_put C hh_X0 (k := 11) dX0_takeAll_149 q_145 (by decide) rfl (fty := .int) (by decide) rfl rfl (lx_o hj) rfl ?_
  refine sa_aload_n C dX0_takeAll_152 rfl 0 rfl ?_
  refine sa_aload_n C dX0_takeAll_153 rfl 1 rfl ?_
  refine sa_getI C hh_X0 (k := 12) dX0_takeAll_154 q_147 (by decide) (lx_o hj2) rfl ?_
  refine sa_put C hh_X0 (k := 12) dX0_takeAll_157 q_147 (by decide) rfl (fty := .int) (by decide) rfl rfl (lx_o hj) rfl ?_
  exact sa_vret C dX0_takeAll_160 (Option.some.inj h)
/-! X0 takeCell -/
def f0_takeCell (j : Nat) (j2 : Nat) (x2 : Int32) (M : sl_M) : Option sl_M := (sl_ld (M (9 * j2 + 1)) 24 x2).bind fun v1 => (sl_st M (9 * j + 1) 24 x2 v1).bind fun M2 => (sl_ld (M2 (9 * j2 + 2)) 24 x2).bind fun v3 => (sl_st M2 (9 * j + 2) 24 x2 v3).bind fun M4 => (sl_ld (M4 (9 * j2 + 3)) 24 x2).bind fun v5 => (sl_st M4 (9 * j + 3) 24 x2 v5).bind fun M6 => (sl_ld (M6 (9 * j2 + 4)) 24 x2).bind fun v7 => (sl_st M6 (9 * j + 4) 24 x2 v7).bind fun M8 => some M8
theorem cc0_takeCell {D : va_G} {cA : ClassId} {g : Nat → Nat} {A : Nat → Prop} {z : sl_K} {l : Launch} {j : Nat} {j2 : Nat} {x2 : Int32} (hj : j < 3) (hj2 : j2 < 3) {M : sl_M} {r : sl_M} (h : f0_takeCell j j2 x2 M = some r) : sl_N sl_cl LX D cA g A z l yX0_takeCell cX0_takeCell 3 none 0 0 [.ref (g (9 * j)), .ref (g (9 * j2)), .int x2] M none r := by
  refine sl_N.of (by decide) (Nat.le_of_ble_eq_true rfl) rfl ?_
  intro p e s m args below meth c C
  replace C : sl_C RX0 cX0_takeCell 3 none sl_cl LX D cA g A z p s m meth c := C
  have hR : 0 ≤ (({ frames := 0, cells := 0, slots := 0, locals := 0 } : Room)).frames ∧ 0 ≤ (({ frames := 0, cells := 0, slots := 0, locals := 0 } : Room)).locals := ⟨Nat.le_refl _, Nat.le_refl _⟩
  rw [f0_takeCell] at h
  refine sa_aload_n C dX0_takeCell_0 rfl 0 rfl ?_
  refine sa_getR C hh_X0 (k := 0) dX0_takeCell_1 q_121 (by decide) (lx_o hj) rfl ?_
  refine sa_iload_n C dX0_takeCell_4 rfl 2 rfl ?_
  refine sa_aload_n C dX0_takeCell_5 rfl 1 rfl ?_
  refine sa_getR C hh_X0 (k := 0) dX0_takeCell_6 q_121 (by decide) (lx_o hj2) rfl ?_
  refine sa_iload_n C dX0_takeCell_9 rfl 2 rfl ?_
  obtain ⟨v1, ev1, h⟩ := sl_b h
  refine sa_iald C dX0_takeCell_10 (lx_a1 hj2) ev1 ?_
  obtain ⟨M2, eM2, h⟩ := sl_b h
  refine sa_iast C dX0_takeCell_11 (lx_a1 hj) eM2 ?_
  refine sa_aload_n C dX0_takeCell_12 rfl 0 rfl ?_
  refine sa_getR C hh_X0 (k := 1) dX0_takeCell_13 q_123 (by decide) (lx_o hj) rfl ?_
  refine sa_iload_n C dX0_takeCell_16 rfl 2 rfl ?_
  refine sa_aload_n C dX0_takeCell_17 rfl 1 rfl ?_
  refine sa_getR C hh_X0 (k := 1) dX0_takeCell_18 q_123 (by decide) (lx_o hj2) rfl ?_
  refine sa_iload_n C dX0_takeCell_21 rfl 2 rfl ?_
  obtain ⟨v3, ev3, h⟩ := sl_b h
  refine sa_iald C dX0_takeCell_22 (lx_a2 hj2) ev3 ?_
  obtain ⟨M4, eM4, h⟩ := sl_b h
  refine sa_iast C dX0_takeCell_23 (lx_a2 hj) eM4 ?_
  refine sa_aload_n C dX0_takeCell_24 rfl 0 rfl ?_
  refine sa_getR C hh_X0 (k := 2) dX0_takeCell_25 q_125 (by decide) (lx_o hj) rfl ?_
  refine sa_iload_n C dX0_takeCell_28 rfl 2 rfl ?_
  refine sa_aload_n C dX0_takeCell_29 rfl 1 rfl ?_
  refine sa_getR C hh_X0 (k := 2) dX0_takeCell_30 q_125 (by decide) (lx_o hj2) rfl ?_
  refine sa_iload_n C dX0_takeCell_33 rfl 2 rfl ?_
  obtain ⟨v5, ev5, h⟩ := sl_b h
  refine sa_iald C dX0_takeCell_34 (lx_a3 hj2) ev5 ?_
  obtain ⟨M6, eM6, h⟩ := sl_b h
  refine sa_iast C dX0_takeCell_35 (lx_a3 hj) eM6 ?_
  refine sa_aload_n C dX0_takeCell_36 rfl 0 rfl ?_
  refine sa_getR C hh_X0 (k := 3) dX0_takeCell_37 q_127 (by decide) (lx_o hj) rfl ?_
  refine sa_iload_n C dX0_takeCell_40 rfl 2 rfl ?_
  refine sa_aload_n C dX0_takeCell_41 rfl 1 rfl ?_
  refine sa_getR C hh_X0 (k := 3) dX0_takeCell_42 q_127 (by decide) (lx_o hj2) rfl ?_
  refine sa_iload_n C dX0_takeCell_45 rfl 2 rfl ?_
  obtain ⟨v7, ev7, h⟩ := sl_b h
  refine sa_iald C dX0_takeCell_46 (lx_a4 hj2) ev7 ?_
  obtain ⟨M8, eM8, h⟩ := sl_b h
  refine sa_iast C dX0_takeCell_47 (lx_a4 hj) eM8 ?_
  exact sa_vret C dX0_takeCell_48 (Option.some.inj h)
/-! X0 topFor -/
def f0_topFor (x0 : Int32) (x1 : Int32) (x2 : Int32) : Int32 := (if x0 = (3 : Int32) then (0 : Int32) else (if x0 = (4 : Int32) then (x1 + (5 : Int32)) else (if x0 = (5 : Int32) then (x1 + (sl_mn x2 (30 : Int32))) else (if x0 = (6 : Int32) then ((x1 + (sl_mn x2 (30 : Int32))) + (x2 / (2 : Int32))) else x1))))
theorem cc0_topFor {D : va_G} {cA : ClassId} {g : Nat → Nat} {A : Nat → Prop} {z : sl_K} {l : Launch} {x0 : Int32} {x1 : Int32} {x2 : Int32} {M : sl_M} {r : Int32} (h : f0_topFor x0 x1 x2 = r) : sl_N sl_cl LX D cA g A z l yX0_topFor cX0_topFor 3 (some .int) 1 21 [.int x0, .int x1, .int x2] M (some (.int r)) M := by
  refine sl_N.of (by decide) (Nat.le_of_ble_eq_true rfl) rfl ?_
  intro p e s m args below meth c C
  replace C : sl_C RX0 cX0_topFor 3 (some .int) sl_cl LX D cA g A z p s m meth c := C
  have hR : 1 ≤ (({ frames := 1, cells := 0, slots := 0, locals := 21 } : Room)).frames ∧ 21 ≤ (({ frames := 1, cells := 0, slots := 0, locals := 21 } : Room)).locals := ⟨Nat.le_refl _, Nat.le_refl _⟩
  rw [f0_topFor] at h
  refine sa_iload_n C dX0_topFor_0 rfl 0 rfl ?_
  by_cases c1 : x0 = (3 : Int32)
  · replace h := sl_t c1 h
    refine sa_swIn C dX0_topFor_1 c1 (k := (3 : Int32)) ⟨by decide, by decide, rfl⟩ (tgt := 32) (by decide) ?_
    refine sa_iconst C dX0_topFor_32 ic_0 ?_
    exact sa_iret C dX0_topFor_33 h rfl
  · replace h := sl_n c1 h
    by_cases c2 : x0 = (4 : Int32)
    · replace h := sl_t c2 h
      refine sa_swIn C dX0_topFor_1 c2 (k := (4 : Int32)) ⟨by decide, by decide, rfl⟩ (tgt := 34) (by decide) ?_
      refine sa_iload_n C dX0_topFor_34 rfl 1 rfl ?_
      refine sa_iconst C dX0_topFor_35 ic_5 ?_
      refine sa_iadd C dX0_topFor_36 ?_
      exact sa_iret C dX0_topFor_37 h rfl
    · replace h := sl_n c2 h
      by_cases c3 : x0 = (5 : Int32)
      · replace h := sl_t c3 h
        refine sa_swIn C dX0_topFor_1 c3 (k := (5 : Int32)) ⟨by decide, by decide, rfl⟩ (tgt := 38) (by decide) ?_
        refine sa_iload_n C dX0_topFor_38 rfl 1 rfl ?_
        refine sa_iload_n C dX0_topFor_39 rfl 2 rfl ?_
        refine sa_bipush C dX0_topFor_40 bp_30 ?_
        refine sa_mmin C dX0_topFor_42 q_286 q_287 q_100 q_288 (Nat.le_of_ble_eq_true rfl) ⟨Nat.le_trans (Nat.le_of_ble_eq_true rfl) hR.1, Nat.le_trans (Nat.le_of_ble_eq_true rfl) hR.2⟩ ?_
        refine sa_iadd C dX0_topFor_45 ?_
        exact sa_iret C dX0_topFor_46 h rfl
      · replace h := sl_n c3 h
        by_cases c4 : x0 = (6 : Int32)
        · replace h := sl_t c4 h
          refine sa_swIn C dX0_topFor_1 c4 (k := (6 : Int32)) ⟨by decide, by decide, rfl⟩ (tgt := 47) (by decide) ?_
          refine sa_iload_n C dX0_topFor_47 rfl 1 rfl ?_
          refine sa_iload_n C dX0_topFor_48 rfl 2 rfl ?_
          refine sa_bipush C dX0_topFor_49 bp_30 ?_
          refine sa_mmin C dX0_topFor_51 q_286 q_287 q_100 q_288 (Nat.le_of_ble_eq_true rfl) ⟨Nat.le_trans (Nat.le_of_ble_eq_true rfl) hR.1, Nat.le_trans (Nat.le_of_ble_eq_true rfl) hR.2⟩ ?_
          refine sa_iadd C dX0_topFor_54 ?_
          refine sa_iload_n C dX0_topFor_55 rfl 2 rfl ?_
          refine sa_iconst C dX0_topFor_56 ic_2 ?_
          refine sa_idivc C dX0_topFor_57 (by decide) ?_
          refine sa_iadd C dX0_topFor_58 ?_
          exact sa_iret C dX0_topFor_59 h rfl
        · replace h := sl_n c4 h
          refine sa_swOut C dX0_topFor_1 (by have := lv_neT (a := 3) c1 (by decide); have := lv_neT (a := 4) c2 (by decide); have := lv_neT (a := 5) c3 (by decide); have := lv_neT (a := 6) c4 (by decide); omega) (tgt := 60) (by decide) ?_
          refine sa_iload_n C dX0_topFor_60 rfl 1 rfl ?_
          exact sa_iret C dX0_topFor_61 h rfl
/-! X0 renewTop -/
def f0_renewTop (j : Nat) (x1 : Int32) (M : sl_M) : Option sl_M := (sl_ld (M (9 * j + 1)) 24 x1).bind fun v1 => (sl_ld (M (9 * j + 2)) 24 x1).bind fun v2 => (sl_ld (M (9 * j + 3)) 24 x1).bind fun v3 => (sl_st M (9 * j + 4) 24 x1 (f0_topFor v1 v2 v3)).bind fun M4 => some M4
theorem cc0_renewTop {D : va_G} {cA : ClassId} {g : Nat → Nat} {A : Nat → Prop} {z : sl_K} {l : Launch} {j : Nat} {x1 : Int32} (hj : j < 3) {M : sl_M} {r : sl_M} (h : f0_renewTop j x1 M = some r) : sl_N sl_cl LX D cA g A z l yX0_renewTop cX0_renewTop 2 none 2 43 [.ref (g (9 * j)), .int x1] M none r := by
  refine sl_N.of (by decide) (Nat.le_of_ble_eq_true rfl) rfl ?_
  intro p e s m args below meth c C
  replace C : sl_C RX0 cX0_renewTop 2 none sl_cl LX D cA g A z p s m meth c := C
  have hR : 2 ≤ (({ frames := 2, cells := 0, slots := 0, locals := 43 } : Room)).frames ∧ 43 ≤ (({ frames := 2, cells := 0, slots := 0, locals := 43 } : Room)).locals := ⟨Nat.le_refl _, Nat.le_refl _⟩
  rw [f0_renewTop] at h
  refine sa_aload_n C dX0_renewTop_0 rfl 0 rfl ?_
  refine sa_getR C hh_X0 (k := 3) dX0_renewTop_1 q_127 (by decide) (lx_o hj) rfl ?_
  refine sa_iload_n C dX0_renewTop_4 rfl 1 rfl ?_
  refine sa_aload_n C dX0_renewTop_5 rfl 0 rfl ?_
  refine sa_getR C hh_X0 (k := 0) dX0_renewTop_6 q_121 (by decide) (lx_o hj) rfl ?_
  refine sa_iload_n C dX0_renewTop_9 rfl 1 rfl ?_
  obtain ⟨v1, ev1, h⟩ := sl_b h
  refine sa_iald C dX0_renewTop_10 (lx_a1 hj) ev1 ?_
  refine sa_aload_n C dX0_renewTop_11 rfl 0 rfl ?_
  refine sa_getR C hh_X0 (k := 1) dX0_renewTop_12 q_123 (by decide) (lx_o hj) rfl ?_
  refine sa_iload_n C dX0_renewTop_15 rfl 1 rfl ?_
  obtain ⟨v2, ev2, h⟩ := sl_b h
  refine sa_iald C dX0_renewTop_16 (lx_a2 hj) ev2 ?_
  refine sa_aload_n C dX0_renewTop_17 rfl 0 rfl ?_
  refine sa_getR C hh_X0 (k := 2) dX0_renewTop_18 q_125 (by decide) (lx_o hj) rfl ?_
  refine sa_iload_n C dX0_renewTop_21 rfl 1 rfl ?_
  obtain ⟨v3, ev3, h⟩ := sl_b h
  refine sa_iald C dX0_renewTop_22 (lx_a3 hj) ev3 ?_
  refine sa_invSi C yy_X0_topFor q_284 q_283 dX0_renewTop_23 (As := [.int v1, .int v2, .int v3]) (rest := [.int x1, .ref (g (9 * j + 4))]) rfl ⟨Nat.le_trans (Nat.le_of_ble_eq_true rfl) hR.1, Nat.le_trans (Nat.le_of_ble_eq_true rfl) hR.2⟩ (Nat.le_of_ble_eq_true rfl) (cc0_topFor rfl) rfl ?_
  obtain ⟨M4, eM4, h⟩ := sl_b h
  refine sa_iast C dX0_renewTop_26 (lx_a4 hj) eM4 ?_
  exact sa_vret C dX0_renewTop_27 (Option.some.inj h)
/-! X0 place -/
def f0_place (j : Nat) (x1 : Int32) (x2 : Int32) (M : sl_M) : Option sl_M := (sl_st M (9 * j + 1) 24 x1 x2).bind fun M1 => (sl_st M1 (9 * j + 3) 24 x1 (0 : Int32)).bind fun M2 => (f0_renewTop j x1 M2).bind fun r3 => some r3
theorem cc0_place {D : va_G} {cA : ClassId} {g : Nat → Nat} {A : Nat → Prop} {z : sl_K} {l : Launch} {j : Nat} {x1 : Int32} {x2 : Int32} (hj : j < 3) {M : sl_M} {r : sl_M} (h : f0_place j x1 x2 M = some r) : sl_N sl_cl LX D cA g A z l yX0_place cX0_place 3 none 3 64 [.ref (g (9 * j)), .int x1, .int x2] M none r := by
  refine sl_N.of (by decide) (Nat.le_of_ble_eq_true rfl) rfl ?_
  intro p e s m args below meth c C
  replace C : sl_C RX0 cX0_place 3 none sl_cl LX D cA g A z p s m meth c := C
  have hR : 3 ≤ (({ frames := 3, cells := 0, slots := 0, locals := 64 } : Room)).frames ∧ 64 ≤ (({ frames := 3, cells := 0, slots := 0, locals := 64 } : Room)).locals := ⟨Nat.le_refl _, Nat.le_refl _⟩
  rw [f0_place] at h
  refine sa_aload_n C dX0_place_0 rfl 0 rfl ?_
  refine sa_getR C hh_X0 (k := 0) dX0_place_1 q_121 (by decide) (lx_o hj) rfl ?_
  refine sa_iload_n C dX0_place_4 rfl 1 rfl ?_
  refine sa_iload_n C dX0_place_5 rfl 2 rfl ?_
  obtain ⟨M1, eM1, h⟩ := sl_b h
  refine sa_iast C dX0_place_6 (lx_a1 hj) eM1 ?_
  refine sa_aload_n C dX0_place_7 rfl 0 rfl ?_
  refine sa_getR C hh_X0 (k := 2) dX0_place_8 q_125 (by decide) (lx_o hj) rfl ?_
  refine sa_iload_n C dX0_place_11 rfl 1 rfl ?_
  refine sa_iconst C dX0_place_12 ic_0 ?_
  obtain ⟨M2, eM2, h⟩ := sl_b h
  refine sa_iast C dX0_place_13 (lx_a3 hj) eM2 ?_
  refine sa_aload_n C dX0_place_14 rfl 0 rfl ?_
  refine sa_iload_n C dX0_place_15 rfl 1 rfl ?_
  obtain ⟨r3, er3, h⟩ := sl_b h
  refine sa_invVv C yy_X0_renewTop ⟨q_281, q_2⟩ q_279 dX0_place_16 (As := [.int x1]) (rest := []) rfl ⟨Nat.le_trans (Nat.le_of_ble_eq_true rfl) hR.1, Nat.le_trans (Nat.le_of_ble_eq_true rfl) hR.2⟩ (Nat.le_of_ble_eq_true rfl) hh_X0 (lx_o hj) (cc0_renewTop hj er3) rfl ?_
  exact sa_vret C dX0_place_19 (Option.some.inj h)
/-! X0 turnInto -/
def f0_turnInto (j : Nat) (x1 : Int32) (x2 : Int32) (M : sl_M) : Option sl_M := (sl_st M (9 * j + 1) 24 x1 x2).bind fun M1 => (f0_renewTop j x1 M1).bind fun r2 => some r2
theorem cc0_turnInto {D : va_G} {cA : ClassId} {g : Nat → Nat} {A : Nat → Prop} {z : sl_K} {l : Launch} {j : Nat} {x1 : Int32} {x2 : Int32} (hj : j < 3) {M : sl_M} {r : sl_M} (h : f0_turnInto j x1 x2 M = some r) : sl_N sl_cl LX D cA g A z l yX0_turnInto cX0_turnInto 3 none 3 64 [.ref (g (9 * j)), .int x1, .int x2] M none r := by
  refine sl_N.of (by decide) (Nat.le_of_ble_eq_true rfl) rfl ?_
  intro p e s m args below meth c C
  replace C : sl_C RX0 cX0_turnInto 3 none sl_cl LX D cA g A z p s m meth c := C
  have hR : 3 ≤ (({ frames := 3, cells := 0, slots := 0, locals := 64 } : Room)).frames ∧ 64 ≤ (({ frames := 3, cells := 0, slots := 0, locals := 64 } : Room)).locals := ⟨Nat.le_refl _, Nat.le_refl _⟩
  rw [f0_turnInto] at h
  refine sa_aload_n C dX0_turnInto_0 rfl 0 rfl ?_
  refine sa_getR C hh_X0 (k := 0) dX0_turnInto_1 q_121 (by decide) (lx_o hj) rfl ?_
  refine sa_iload_n C dX0_turnInto_4 rfl 1 rfl ?_
  refine sa_iload_n C dX0_turnInto_5 rfl 2 rfl ?_
  obtain ⟨M1, eM1, h⟩ := sl_b h
  refine sa_iast C dX0_turnInto_6 (lx_a1 hj) eM1 ?_
  refine sa_aload_n C dX0_turnInto_7 rfl 0 rfl ?_
  refine sa_iload_n C dX0_turnInto_8 rfl 1 rfl ?_
  obtain ⟨r2, er2, h⟩ := sl_b h
  refine sa_invVv C yy_X0_renewTop ⟨q_281, q_2⟩ q_279 dX0_turnInto_9 (As := [.int x1]) (rest := []) rfl ⟨Nat.le_trans (Nat.le_of_ble_eq_true rfl) hR.1, Nat.le_trans (Nat.le_of_ble_eq_true rfl) hR.2⟩ (Nat.le_of_ble_eq_true rfl) hh_X0 (lx_o hj) (cc0_renewTop hj er2) rfl ?_
  exact sa_vret C dX0_turnInto_12 (Option.some.inj h)
/-! X0 raiseTo -/
def f0_raiseTo (j : Nat) (x1 : Int32) (x2 : Int32) (M : sl_M) : Option sl_M := (sl_st M (9 * j + 2) 24 x1 x2).bind fun M1 => (f0_renewTop j x1 M1).bind fun r2 => some r2
theorem cc0_raiseTo {D : va_G} {cA : ClassId} {g : Nat → Nat} {A : Nat → Prop} {z : sl_K} {l : Launch} {j : Nat} {x1 : Int32} {x2 : Int32} (hj : j < 3) {M : sl_M} {r : sl_M} (h : f0_raiseTo j x1 x2 M = some r) : sl_N sl_cl LX D cA g A z l yX0_raiseTo cX0_raiseTo 3 none 3 64 [.ref (g (9 * j)), .int x1, .int x2] M none r := by
  refine sl_N.of (by decide) (Nat.le_of_ble_eq_true rfl) rfl ?_
  intro p e s m args below meth c C
  replace C : sl_C RX0 cX0_raiseTo 3 none sl_cl LX D cA g A z p s m meth c := C
  have hR : 3 ≤ (({ frames := 3, cells := 0, slots := 0, locals := 64 } : Room)).frames ∧ 64 ≤ (({ frames := 3, cells := 0, slots := 0, locals := 64 } : Room)).locals := ⟨Nat.le_refl _, Nat.le_refl _⟩
  rw [f0_raiseTo] at h
  refine sa_aload_n C dX0_raiseTo_0 rfl 0 rfl ?_
  refine sa_getR C hh_X0 (k := 1) dX0_raiseTo_1 q_123 (by decide) (lx_o hj) rfl ?_
  refine sa_iload_n C dX0_raiseTo_4 rfl 1 rfl ?_
  refine sa_iload_n C dX0_raiseTo_5 rfl 2 rfl ?_
  obtain ⟨M1, eM1, h⟩ := sl_b h
  refine sa_iast C dX0_raiseTo_6 (lx_a2 hj) eM1 ?_
  refine sa_aload_n C dX0_raiseTo_7 rfl 0 rfl ?_
  refine sa_iload_n C dX0_raiseTo_8 rfl 1 rfl ?_
  obtain ⟨r2, er2, h⟩ := sl_b h
  refine sa_invVv C yy_X0_renewTop ⟨q_281, q_2⟩ q_279 dX0_raiseTo_9 (As := [.int x1]) (rest := []) rfl ⟨Nat.le_trans (Nat.le_of_ble_eq_true rfl) hR.1, Nat.le_trans (Nat.le_of_ble_eq_true rfl) hR.2⟩ (Nat.le_of_ble_eq_true rfl) hh_X0 (lx_o hj) (cc0_renewTop hj er2) rfl ?_
  exact sa_vret C dX0_raiseTo_12 (Option.some.inj h)
/-! X0 lower -/
def f0_lower (j : Nat) (x1 : Int32) (x2 : Int32) (M : sl_M) : Option sl_M := (sl_ld (M (9 * j + 2)) 24 x1).bind fun v1 => (f0_raiseTo j x1 (sl_mx (0 : Int32) (v1 - x2)) M).bind fun r2 => some r2
theorem cc0_lower {D : va_G} {cA : ClassId} {g : Nat → Nat} {A : Nat → Prop} {z : sl_K} {l : Launch} {j : Nat} {x1 : Int32} {x2 : Int32} (hj : j < 3) {M : sl_M} {r : sl_M} (h : f0_lower j x1 x2 M = some r) : sl_N sl_cl LX D cA g A z l yX0_lower cX0_lower 3 none 4 86 [.ref (g (9 * j)), .int x1, .int x2] M none r := by
  refine sl_N.of (by decide) (Nat.le_of_ble_eq_true rfl) rfl ?_
  intro p e s m args below meth c C
  replace C : sl_C RX0 cX0_lower 3 none sl_cl LX D cA g A z p s m meth c := C
  have hR : 4 ≤ (({ frames := 4, cells := 0, slots := 0, locals := 86 } : Room)).frames ∧ 86 ≤ (({ frames := 4, cells := 0, slots := 0, locals := 86 } : Room)).locals := ⟨Nat.le_refl _, Nat.le_refl _⟩
  rw [f0_lower] at h
  refine sa_aload_n C dX0_lower_0 rfl 0 rfl ?_
  refine sa_iload_n C dX0_lower_1 rfl 1 rfl ?_
  refine sa_iconst C dX0_lower_2 ic_0 ?_
  refine sa_aload_n C dX0_lower_3 rfl 0 rfl ?_
  refine sa_getR C hh_X0 (k := 1) dX0_lower_4 q_123 (by decide) (lx_o hj) rfl ?_
  refine sa_iload_n C dX0_lower_7 rfl 1 rfl ?_
  obtain ⟨v1, ev1, h⟩ := sl_b h
  refine sa_iald C dX0_lower_8 (lx_a2 hj) ev1 ?_
  refine sa_iload_n C dX0_lower_9 rfl 2 rfl ?_
  refine sa_isub C dX0_lower_10 ?_
  refine sa_mmax C dX0_lower_11 q_361 q_362 q_100 q_363 (Nat.le_of_ble_eq_true rfl) ⟨Nat.le_trans (Nat.le_of_ble_eq_true rfl) hR.1, Nat.le_trans (Nat.le_of_ble_eq_true rfl) hR.2⟩ ?_
  obtain ⟨r2, er2, h⟩ := sl_b h
  refine sa_invVv C yy_X0_raiseTo ⟨q_277, q_1⟩ q_364 dX0_lower_14 (As := [.int x1, .int (sl_mx (0 : Int32) (v1 - x2))]) (rest := []) rfl ⟨Nat.le_trans (Nat.le_of_ble_eq_true rfl) hR.1, Nat.le_trans (Nat.le_of_ble_eq_true rfl) hR.2⟩ (Nat.le_of_ble_eq_true rfl) hh_X0 (lx_o hj) (cc0_raiseTo hj er2) rfl ?_
  exact sa_vret C dX0_lower_17 (Option.some.inj h)
/-! X0 ageTo -/
def f0_ageTo (j : Nat) (x1 : Int32) (x2 : Int32) (M : sl_M) : Option sl_M := (sl_st M (9 * j + 3) 24 x1 x2).bind fun M1 => (f0_renewTop j x1 M1).bind fun r2 => some r2
theorem cc0_ageTo {D : va_G} {cA : ClassId} {g : Nat → Nat} {A : Nat → Prop} {z : sl_K} {l : Launch} {j : Nat} {x1 : Int32} {x2 : Int32} (hj : j < 3) {M : sl_M} {r : sl_M} (h : f0_ageTo j x1 x2 M = some r) : sl_N sl_cl LX D cA g A z l yX0_ageTo cX0_ageTo 3 none 3 64 [.ref (g (9 * j)), .int x1, .int x2] M none r := by
  refine sl_N.of (by decide) (Nat.le_of_ble_eq_true rfl) rfl ?_
  intro p e s m args below meth c C
  replace C : sl_C RX0 cX0_ageTo 3 none sl_cl LX D cA g A z p s m meth c := C
  have hR : 3 ≤ (({ frames := 3, cells := 0, slots := 0, locals := 64 } : Room)).frames ∧ 64 ≤ (({ frames := 3, cells := 0, slots := 0, locals := 64 } : Room)).locals := ⟨Nat.le_refl _, Nat.le_refl _⟩
  rw [f0_ageTo] at h
  refine sa_aload_n C dX0_ageTo_0 rfl 0 rfl ?_
  refine sa_getR C hh_X0 (k := 2) dX0_ageTo_1 q_125 (by decide) (lx_o hj) rfl ?_
  refine sa_iload_n C dX0_ageTo_4 rfl 1 rfl ?_
  refine sa_iload_n C dX0_ageTo_5 rfl 2 rfl ?_
  obtain ⟨M1, eM1, h⟩ := sl_b h
  refine sa_iast C dX0_ageTo_6 (lx_a3 hj) eM1 ?_
  refine sa_aload_n C dX0_ageTo_7 rfl 0 rfl ?_
  refine sa_iload_n C dX0_ageTo_8 rfl 1 rfl ?_
  obtain ⟨r2, er2, h⟩ := sl_b h
  refine sa_invVv C yy_X0_renewTop ⟨q_281, q_2⟩ q_279 dX0_ageTo_9 (As := [.int x1]) (rest := []) rfl ⟨Nat.le_trans (Nat.le_of_ble_eq_true rfl) hR.1, Nat.le_trans (Nat.le_of_ble_eq_true rfl) hR.2⟩ (Nat.le_of_ble_eq_true rfl) hh_X0 (lx_o hj) (cc0_renewTop hj er2) rfl ?_
  exact sa_vret C dX0_ageTo_12 (Option.some.inj h)
/-! X0 grow -/
def f0_grow_2 (j : Nat) (x1 : Int32) : Nat → Int32 → sl_M → Option sl_M
  | 0, _, _ => none
  | n + 1, x2, M => (if (24 : Int32) ≤ x2 then some (sl_up M (9 * j) 11 ((M (9 * j) 11) + x1)) else (sl_ld (M (9 * j + 3)) 24 x2).bind fun v2 => (f0_ageTo j x2 (sl_mn (99 : Int32) (v2 + x1)) M).bind fun r3 => f0_grow_2 j x1 n (x2 + (1 : Int32)) r3)
def f0_grow (j : Nat) (x1 : Int32) (M : sl_M) : Option sl_M := f0_grow_2 j x1 400 (0 : Int32) M
theorem w0_grow_2 {D : va_G} {cA : ClassId} {g : Nat → Nat} {A : Nat → Prop} {z : sl_K} {l : Launch} {p : Program} {e : Env} {R : Room} {s : State} {m : MethodId} {args : Array Value} {below : List Frame} {meth : Method} {c : Code} (C : sl_C RX0 cX0_grow 3 none sl_cl LX D cA g A z p s m meth c) (hR : 4 ≤ R.frames ∧ 86 ≤ R.locals) {j : Nat} (hj : j < 3) {r : sl_M} {x1 : Int32} : ∀ (n : Nat) {x2 : Int32} {M : sl_M}, f0_grow_2 j x1 n x2 M = some r → sl_A sl_cl LX D cA g A p l e R s m args below meth c (MQ below (sl_Q sl_cl LX D cA g A none r) args s 0 0 A) 3 2 [(0, .ref (g (9 * j))), (1, .int x1), (2, .int x2)] [] M := by
  intro n
  induction n with
  | zero =>
    intro x2 M h
    exact absurd h.symm (Option.some_ne_none _)
  | succ n ih =>
    intro x2 M h
    rw [f0_grow_2] at h
    refine sa_iload_n C dX0_grow_2 rfl 2 rfl ?_
    refine sa_bipush C dX0_grow_3 bp_24 ?_
    refine sa_icmp_ge C dX0_grow_5 (tgt := 32) (by decide) (fun c1 => ?_) (fun c1 => ?_)
    · replace h := sl_t c1 h
      refine sa_aload_n C dX0_grow_32 rfl 0 rfl ?_
      refine sa_dup C dX0_grow_33 rfl ?_
      refine sa_getI C hh_X0 (k := 11) dX0_grow_34 q_145 (by decide) (lx_o hj) rfl ?_
      refine sa_iload_n C dX0_grow_37 rfl 1 rfl ?_
      refine sa_iadd C dX0_grow_38 ?_
      refine sa_put C hh_X0 (k := 11) dX0_grow_39 q_145 (by decide) rfl (fty := .int) (by decide) rfl rfl (lx_o hj) rfl ?_
      exact sa_vret C dX0_grow_42 (Option.some.inj h)
    · replace h := sl_n c1 h
      refine sa_aload_n C dX0_grow_8 rfl 0 rfl ?_
      refine sa_iload_n C dX0_grow_9 rfl 2 rfl ?_
      refine sa_bipush C dX0_grow_10 bp_99 ?_
      refine sa_aload_n C dX0_grow_12 rfl 0 rfl ?_
      refine sa_getR C hh_X0 (k := 2) dX0_grow_13 q_125 (by decide) (lx_o hj) rfl ?_
      refine sa_iload_n C dX0_grow_16 rfl 2 rfl ?_
      obtain ⟨v2, ev2, h⟩ := sl_b h
      refine sa_iald C dX0_grow_17 (lx_a3 hj) ev2 ?_
      refine sa_iload_n C dX0_grow_18 rfl 1 rfl ?_
      refine sa_iadd C dX0_grow_19 ?_
      refine sa_mmin C dX0_grow_20 q_286 q_287 q_100 q_288 (Nat.le_of_ble_eq_true rfl) ⟨Nat.le_trans (Nat.le_of_ble_eq_true rfl) hR.1, Nat.le_trans (Nat.le_of_ble_eq_true rfl) hR.2⟩ ?_
      obtain ⟨r3, er3, h⟩ := sl_b h
      refine sa_invVv C yy_X0_ageTo ⟨q_291, q_3⟩ q_505 dX0_grow_23 (As := [.int x2, .int (sl_mn (99 : Int32) (v2 + x1))]) (rest := []) rfl ⟨Nat.le_trans (Nat.le_of_ble_eq_true rfl) hR.1, Nat.le_trans (Nat.le_of_ble_eq_true rfl) hR.2⟩ (Nat.le_of_ble_eq_true rfl) hh_X0 (lx_o hj) (cc0_ageTo hj er3) rfl ?_
      refine sa_iinc C dX0_grow_26 2 rfl (v := (x2 + (1 : Int32))) (by rw [ic_1]) (by decide) (lv2 := [(2, .int (x2 + (1 : Int32))), (0, .ref (g (9 * j))), (1, .int x1)]) rfl ?_
      refine sa_goto C dX0_grow_29 (tgt := 2) (by decide) ?_
      exact sa_sub [1, 2, 0] rfl (ih h)
theorem cc0_grow {D : va_G} {cA : ClassId} {g : Nat → Nat} {A : Nat → Prop} {z : sl_K} {l : Launch} {j : Nat} {x1 : Int32} (hj : j < 3) {M : sl_M} {r : sl_M} (h : f0_grow j x1 M = some r) : sl_N sl_cl LX D cA g A z l yX0_grow cX0_grow 3 none 4 86 [.ref (g (9 * j)), .int x1] M none r := by
  refine sl_N.of (by decide) (Nat.le_of_ble_eq_true rfl) rfl ?_
  intro p e s m args below meth c C
  replace C : sl_C RX0 cX0_grow 3 none sl_cl LX D cA g A z p s m meth c := C
  have hR : 4 ≤ (({ frames := 4, cells := 0, slots := 0, locals := 86 } : Room)).frames ∧ 86 ≤ (({ frames := 4, cells := 0, slots := 0, locals := 86 } : Room)).locals := ⟨Nat.le_refl _, Nat.le_refl _⟩
  rw [f0_grow] at h
  refine sa_iconst C dX0_grow_0 ic_0 ?_
  refine sa_istore_n C dX0_grow_1 rfl (by decide) (lv2 := [(2, .int (0 : Int32)), (0, .ref (g (9 * j))), (1, .int x1)]) rfl ?_
  exact sa_sub [1, 2, 0] rfl (w0_grow_2 C hR hj 400 h)
/-! X0 worthOf -/
def f0_worthOf (j : Nat) (x1 : Int32) (M : sl_M) : Option Int32 := (sl_ld (M (9 * j + 1)) 24 x1).bind fun v1 => (sl_ld (fun q => sl_wo.getD q 0) 7 v1).bind fun v2 => some v2
theorem cc0_worthOf {D : va_G} {cA : ClassId} {g : Nat → Nat} {A : Nat → Prop} {z : sl_K} {l : Launch} {j : Nat} {x1 : Int32} (hj : j < 3) {M : sl_M} {r : Int32} (h : f0_worthOf j x1 M = some r) : sl_N sl_cl LX D cA g A z l yX0_worthOf cX0_worthOf 2 (some .int) 0 0 [.ref (g (9 * j)), .int x1] M (some (.int r)) M := by
  refine sl_N.of (by decide) (Nat.le_of_ble_eq_true rfl) rfl ?_
  intro p e s m args below meth c C
  replace C : sl_C RX0 cX0_worthOf 2 (some .int) sl_cl LX D cA g A z p s m meth c := C
  have hR : 0 ≤ (({ frames := 0, cells := 0, slots := 0, locals := 0 } : Room)).frames ∧ 0 ≤ (({ frames := 0, cells := 0, slots := 0, locals := 0 } : Room)).locals := ⟨Nat.le_refl _, Nat.le_refl _⟩
  rw [f0_worthOf] at h
  refine sa_gets1 C dX0_worthOf_0 q_312 ?_
  refine sa_aload_n C dX0_worthOf_3 rfl 0 rfl ?_
  refine sa_getR C hh_X0 (k := 0) dX0_worthOf_4 q_121 (by decide) (lx_o hj) rfl ?_
  refine sa_iload_n C dX0_worthOf_7 rfl 1 rfl ?_
  obtain ⟨v1, ev1, h⟩ := sl_b h
  refine sa_iald C dX0_worthOf_8 (lx_a1 hj) ev1 ?_
  obtain ⟨v2, ev2, h⟩ := sl_b h
  refine sa_ialds1 C dX0_worthOf_9 ev2 ?_
  exact sa_iret C dX0_worthOf_10 (Option.some.inj h) rfl
/-! X0 isOfKind -/
def f0_isOfKind_4 (M : sl_M) (x1 : Int32) : Nat → Int32 → Int32 → Option Int32
  | 0, _, _ => none
  | n + 1, x2, x3 => (if (7 : Int32) ≤ x3 then some (0 : Int32) else (if x2 = (-1 : Int32) then some (0 : Int32) else (if x2 = x1 then some (1 : Int32) else (sl_ld (fun q => sl_ka.getD q 0) 7 x2).bind fun v4 => f0_isOfKind_4 M x1 n v4 (x3 + (1 : Int32)))))
def f0_isOfKind (x0 : Int32) (x1 : Int32) (M : sl_M) : Option Int32 := f0_isOfKind_4 M x1 400 x0 (0 : Int32)
theorem w0_isOfKind_4 {D : va_G} {cA : ClassId} {g : Nat → Nat} {A : Nat → Prop} {z : sl_K} {l : Launch} {p : Program} {e : Env} {R : Room} {s : State} {m : MethodId} {args : Array Value} {below : List Frame} {meth : Method} {c : Code} (C : sl_C RX0 cX0_isOfKind 4 (some .boolean) sl_cl LX D cA g A z p s m meth c) (hR : 0 ≤ R.frames ∧ 0 ≤ R.locals) {M : sl_M} {r : Int32} {x1 : Int32} : ∀ (n : Nat) {x2 : Int32} {x3 : Int32}, f0_isOfKind_4 M x1 n x2 x3 = some r → sl_A sl_cl LX D cA g A p l e R s m args below meth c (MQ below (sl_Q sl_cl LX D cA g A (some (.int r)) M) args s 0 0 A) 4 4 [(1, .int x1), (2, .int x2), (3, .int x3)] [] M := by
  intro n
  induction n with
  | zero =>
    intro x2 x3 h
    exact absurd h.symm (Option.some_ne_none _)
  | succ n ih =>
    intro x2 x3 h
    rw [f0_isOfKind_4] at h
    refine sa_iload_n C dX0_isOfKind_4 rfl 2 rfl ?_
    refine sa_gets2 C dX0_isOfKind_5 q_754 ?_
    refine sa_alens2 C dX0_isOfKind_8 ?_
    refine sa_icmp_ge C dX0_isOfKind_9 (tgt := 36) (by decide) (fun c1 => ?_) (fun c1 => ?_)
    · replace h := sl_t c1 h
      refine sa_iconst C dX0_isOfKind_36 ic_0 ?_
      exact sa_zret C dX0_isOfKind_37 (Or.inl rfl) (Option.some.inj h) rfl
    · replace h := sl_n c1 h
      refine sa_iload_n C dX0_isOfKind_12 rfl 1 rfl ?_
      refine sa_iconst C dX0_isOfKind_13 ic_m1 ?_
      refine sa_icmp_eq C dX0_isOfKind_14 (tgt := 36) (by decide) (fun c2 => ?_) (fun c2 => ?_)
      · replace h := sl_t c2 h
        refine sa_iconst C dX0_isOfKind_36 ic_0 ?_
        exact sa_zret C dX0_isOfKind_37 (Or.inl rfl) (Option.some.inj h) rfl
      · replace h := sl_n c2 h
        refine sa_iload_n C dX0_isOfKind_17 rfl 1 rfl ?_
        refine sa_iload_n C dX0_isOfKind_18 rfl 0 rfl ?_
        refine sa_icmp_ne C dX0_isOfKind_19 (tgt := 24) (by decide) (fun c3 => ?_) (fun c3 => ?_)
        · replace h := sl_n c3 h
          refine sa_gets2 C dX0_isOfKind_24 q_754 ?_
          refine sa_iload_n C dX0_isOfKind_27 rfl 1 rfl ?_
          obtain ⟨v4, ev4, h⟩ := sl_b h
          refine sa_ialds2 C dX0_isOfKind_28 ev4 ?_
          refine sa_istore_n C dX0_isOfKind_29 rfl (by decide) (lv2 := [(2, .int v4), (1, .int x1), (3, .int x3)]) rfl ?_
          refine sa_iinc C dX0_isOfKind_30 2 rfl (v := (x3 + (1 : Int32))) (by rw [ic_1]) (by decide) (lv2 := [(3, .int (x3 + (1 : Int32))), (2, .int v4), (1, .int x1)]) rfl ?_
          refine sa_goto C dX0_isOfKind_33 (tgt := 4) (by decide) ?_
          exact sa_sub [2, 1, 0] rfl (ih h)
        · replace h := sl_t c3 h
          refine sa_iconst C dX0_isOfKind_22 ic_1 ?_
          exact sa_zret C dX0_isOfKind_23 (Or.inr rfl) (Option.some.inj h) rfl
theorem cc0_isOfKind {D : va_G} {cA : ClassId} {g : Nat → Nat} {A : Nat → Prop} {z : sl_K} {l : Launch} {x0 : Int32} {x1 : Int32} {M : sl_M} {r : Int32} (h : f0_isOfKind x0 x1 M = some r) : sl_N sl_cl LX D cA g A z l yX0_isOfKind cX0_isOfKind 4 (some .boolean) 0 0 [.int x0, .int x1] M (some (.int r)) M := by
  refine sl_N.of (by decide) (Nat.le_of_ble_eq_true rfl) rfl ?_
  intro p e s m args below meth c C
  replace C : sl_C RX0 cX0_isOfKind 4 (some .boolean) sl_cl LX D cA g A z p s m meth c := C
  have hR : 0 ≤ (({ frames := 0, cells := 0, slots := 0, locals := 0 } : Room)).frames ∧ 0 ≤ (({ frames := 0, cells := 0, slots := 0, locals := 0 } : Room)).locals := ⟨Nat.le_refl _, Nat.le_refl _⟩
  rw [f0_isOfKind] at h
  refine sa_iload_n C dX0_isOfKind_0 rfl 0 rfl ?_
  refine sa_istore_n C dX0_isOfKind_1 rfl (by decide) (lv2 := [(2, .int x0), (0, .int x0), (1, .int x1)]) rfl ?_
  refine sa_iconst C dX0_isOfKind_2 ic_0 ?_
  refine sa_istore_n C dX0_isOfKind_3 rfl (by decide) (lv2 := [(3, .int (0 : Int32)), (2, .int x0), (0, .int x0), (1, .int x1)]) rfl ?_
  exact sa_sub [3, 1, 0] rfl (w0_isOfKind_4 C hR 400 h)
/-! X0 isIn -/
def f0_isIn (x0 : Int32) (x1 : Int32) : Int32 := (if ((x1 >>> (x0 &&& 31)) &&& (1 : Int32)) = (1 : Int32) then (1 : Int32) else (0 : Int32))
theorem f0_isIn_b {x0 : Int32} {x1 : Int32} : f0_isIn x0 x1 = 0 ∨ f0_isIn x0 x1 = 1 := by
  rw [f0_isIn]
  first | exact if_b | ((repeat' split) <;> first | exact Or.inl rfl | exact Or.inr rfl)
theorem cc0_isIn {D : va_G} {cA : ClassId} {g : Nat → Nat} {A : Nat → Prop} {z : sl_K} {l : Launch} {x0 : Int32} {x1 : Int32} {M : sl_M} {r : Int32} (h : f0_isIn x0 x1 = r) : sl_N sl_cl LX D cA g A z l yX0_isIn cX0_isIn 2 (some .boolean) 0 0 [.int x0, .int x1] M (some (.int r)) M := by
  refine sl_N.of (by decide) (Nat.le_of_ble_eq_true rfl) rfl ?_
  intro p e s m args below meth c C
  replace C : sl_C RX0 cX0_isIn 2 (some .boolean) sl_cl LX D cA g A z p s m meth c := C
  have hR : 0 ≤ (({ frames := 0, cells := 0, slots := 0, locals := 0 } : Room)).frames ∧ 0 ≤ (({ frames := 0, cells := 0, slots := 0, locals := 0 } : Room)).locals := ⟨Nat.le_refl _, Nat.le_refl _⟩
  rw [f0_isIn] at h
  refine sa_iload_n C dX0_isIn_0 rfl 1 rfl ?_
  refine sa_iload_n C dX0_isIn_1 rfl 0 rfl ?_
  refine sa_ishr C dX0_isIn_2 ?_
  refine sa_iconst C dX0_isIn_3 ic_1 ?_
  refine sa_iand C dX0_isIn_4 ?_
  refine sa_iconst C dX0_isIn_5 ic_1 ?_
  refine sa_icmp_ne C dX0_isIn_6 (tgt := 13) (by decide) (fun c1 => ?_) (fun c1 => ?_)
  · replace h := sl_n c1 h
    refine sa_iconst C dX0_isIn_13 ic_0 ?_
    exact sa_zret C dX0_isIn_14 (Or.inl rfl) h rfl
  · replace h := sl_t c1 h
    refine sa_iconst C dX0_isIn_9 ic_1 ?_
    refine sa_goto C dX0_isIn_10 (tgt := 14) (by decide) ?_
    exact sa_zret C dX0_isIn_14 (Or.inr rfl) h rfl
/-! X0 isBuiltUp -/
def f0_isBuiltUp (j : Nat) (M : sl_M) : Int32 := (if (M (9 * j) 8) < (8 : Int32) then (0 : Int32) else (1 : Int32))
theorem f0_isBuiltUp_b {j : Nat} {M : sl_M} : f0_isBuiltUp j M = 0 ∨ f0_isBuiltUp j M = 1 := by
  rw [f0_isBuiltUp]
  first | exact if_b | ((repeat' split) <;> first | exact Or.inl rfl | exact Or.inr rfl)
theorem cc0_isBuiltUp {D : va_G} {cA : ClassId} {g : Nat → Nat} {A : Nat → Prop} {z : sl_K} {l : Launch} {j : Nat} (hj : j < 3) {M : sl_M} {r : Int32} (h : f0_isBuiltUp j M = r) : sl_N sl_cl LX D cA g A z l yX0_isBuiltUp cX0_isBuiltUp 1 (some .boolean) 0 0 [.ref (g (9 * j))] M (some (.int r)) M := by
  refine sl_N.of (by decide) (Nat.le_of_ble_eq_true rfl) rfl ?_
  intro p e s m args below meth c C
  replace C : sl_C RX0 cX0_isBuiltUp 1 (some .boolean) sl_cl LX D cA g A z p s m meth c := C
  have hR : 0 ≤ (({ frames := 0, cells := 0, slots := 0, locals := 0 } : Room)).frames ∧ 0 ≤ (({ frames := 0, cells := 0, slots := 0, locals := 0 } : Room)).locals := ⟨Nat.le_refl _, Nat.le_refl _⟩
  rw [f0_isBuiltUp] at h
  refine sa_aload_n C dX0_isBuiltUp_0 rfl 0 rfl ?_
  refine sa_getI C hh_X0 (k := 8) dX0_isBuiltUp_1 q_137 (by decide) (lx_o hj) rfl ?_
  refine sa_bipush C dX0_isBuiltUp_4 bp_8 ?_
  refine sa_icmp_lt C dX0_isBuiltUp_6 (tgt := 13) (by decide) (fun c1 => ?_) (fun c1 => ?_)
  · replace h := sl_t c1 h
    refine sa_iconst C dX0_isBuiltUp_13 ic_0 ?_
    exact sa_zret C dX0_isBuiltUp_14 (Or.inl rfl) h rfl
  · replace h := sl_n c1 h
    refine sa_iconst C dX0_isBuiltUp_9 ic_1 ?_
    refine sa_goto C dX0_isBuiltUp_10 (tgt := 14) (by decide) ?_
    exact sa_zret C dX0_isBuiltUp_14 (Or.inr rfl) h rfl
/-! X0 build -/
def f0_build (j : Nat) (x1 : Int32) (x2 : Int32) (x3 : Int32) (M : sl_M) : Option sl_M := (sl_st M (9 * j + 5) 8 (M (9 * j) 8) x1).bind fun M1 => (sl_st M1 (9 * j + 6) 8 (M1 (9 * j) 8) x2).bind fun M2 => (sl_st M2 (9 * j + 7) 8 (M2 (9 * j) 8) x3).bind fun M3 => some (sl_up M3 (9 * j) 8 ((M3 (9 * j) 8) + (1 : Int32)))
theorem cc0_build {D : va_G} {cA : ClassId} {g : Nat → Nat} {A : Nat → Prop} {z : sl_K} {l : Launch} {j : Nat} {x1 : Int32} {x2 : Int32} {x3 : Int32} (hj : j < 3) {M : sl_M} {r : sl_M} (h : f0_build j x1 x2 x3 M = some r) : sl_N sl_cl LX D cA g A z l yX0_build cX0_build 4 none 0 0 [.ref (g (9 * j)), .int x1, .int x2, .int x3] M none r := by
  refine sl_N.of (by decide) (Nat.le_of_ble_eq_true rfl) rfl ?_
  intro p e s m args below meth c C
  replace C : sl_C RX0 cX0_build 4 none sl_cl LX D cA g A z p s m meth c := C
  have hR : 0 ≤ (({ frames := 0, cells := 0, slots := 0, locals := 0 } : Room)).frames ∧ 0 ≤ (({ frames := 0, cells := 0, slots := 0, locals := 0 } : Room)).locals := ⟨Nat.le_refl _, Nat.le_refl _⟩
  rw [f0_build] at h
  refine sa_aload_n C dX0_build_0 rfl 0 rfl ?_
  refine sa_getR C hh_X0 (k := 4) dX0_build_1 q_129 (by decide) (lx_o hj) rfl ?_
  refine sa_aload_n C dX0_build_4 rfl 0 rfl ?_
  refine sa_getI C hh_X0 (k := 8) dX0_build_5 q_137 (by decide) (lx_o hj) rfl ?_
  refine sa_iload_n C dX0_build_8 rfl 1 rfl ?_
  obtain ⟨M1, eM1, h⟩ := sl_b h
  refine sa_iast C dX0_build_9 (lx_a5 hj) eM1 ?_
  refine sa_aload_n C dX0_build_10 rfl 0 rfl ?_
  refine sa_getR C hh_X0 (k := 5) dX0_build_11 q_131 (by decide) (lx_o hj) rfl ?_
  refine sa_aload_n C dX0_build_14 rfl 0 rfl ?_
  refine sa_getI C hh_X0 (k := 8) dX0_build_15 q_137 (by decide) (lx_o hj) rfl ?_
  refine sa_iload_n C dX0_build_18 rfl 2 rfl ?_
  obtain ⟨M2, eM2, h⟩ := sl_b h
  refine sa_iast C dX0_build_19 (lx_a6 hj) eM2 ?_
  refine sa_aload_n C dX0_build_20 rfl 0 rfl ?_
  refine sa_getR C hh_X0 (k := 6) dX0_build_21 q_133 (by decide) (lx_o hj) rfl ?_
  refine sa_aload_n C dX0_build_24 rfl 0 rfl ?_
  refine sa_getI C hh_X0 (k := 8) dX0_build_25 q_137 (by decide) (lx_o hj) rfl ?_
  refine sa_iload_n C dX0_build_28 rfl 3 rfl ?_
  obtain ⟨M3, eM3, h⟩ := sl_b h
  refine sa_iast C dX0_build_29 (lx_a7 hj) eM3 ?_
  refine sa_aload_n C dX0_build_30 rfl 0 rfl ?_
  refine sa_dup C dX0_build_31 rfl ?_
  refine sa_getI C hh_X0 (k := 8) dX0_build_32 q_137 (by decide) (lx_o hj) rfl ?_
  refine sa_iconst C dX0_build_35 ic_1 ?_
  refine sa_iadd C dX0_build_36 ?_
  refine sa_put C hh_X0 (k := 8) dX0_build_37 q_137 (by decide) rfl (fty := .int) (by decide) rfl rfl (lx_o hj) rfl ?_
  exact sa_vret C dX0_build_40 (Option.some.inj h)
/-! X0 eyeOf -/
def f0_eyeOf (j : Nat) (x1 : Int32) (M : sl_M) : Option Int32 := (sl_ld (M (9 * j + 5)) 8 x1).bind fun v1 => (sl_ld (M (9 * j + 4)) 24 v1).bind fun v2 => (sl_ld (M (9 * j + 6)) 8 x1).bind fun v3 => some (v2 + v3)
theorem cc0_eyeOf {D : va_G} {cA : ClassId} {g : Nat → Nat} {A : Nat → Prop} {z : sl_K} {l : Launch} {j : Nat} {x1 : Int32} (hj : j < 3) {M : sl_M} {r : Int32} (h : f0_eyeOf j x1 M = some r) : sl_N sl_cl LX D cA g A z l yX0_eyeOf cX0_eyeOf 2 (some .int) 0 0 [.ref (g (9 * j)), .int x1] M (some (.int r)) M := by
  refine sl_N.of (by decide) (Nat.le_of_ble_eq_true rfl) rfl ?_
  intro p e s m args below meth c C
  replace C : sl_C RX0 cX0_eyeOf 2 (some .int) sl_cl LX D cA g A z p s m meth c := C
  have hR : 0 ≤ (({ frames := 0, cells := 0, slots := 0, locals := 0 } : Room)).frames ∧ 0 ≤ (({ frames := 0, cells := 0, slots := 0, locals := 0 } : Room)).locals := ⟨Nat.le_refl _, Nat.le_refl _⟩
  rw [f0_eyeOf] at h
  refine sa_aload_n C dX0_eyeOf_0 rfl 0 rfl ?_
  refine sa_getR C hh_X0 (k := 3) dX0_eyeOf_1 q_127 (by decide) (lx_o hj) rfl ?_
  refine sa_aload_n C dX0_eyeOf_4 rfl 0 rfl ?_
  refine sa_getR C hh_X0 (k := 4) dX0_eyeOf_5 q_129 (by decide) (lx_o hj) rfl ?_
  refine sa_iload_n C dX0_eyeOf_8 rfl 1 rfl ?_
  obtain ⟨v1, ev1, h⟩ := sl_b h
  refine sa_iald C dX0_eyeOf_9 (lx_a5 hj) ev1 ?_
  obtain ⟨v2, ev2, h⟩ := sl_b h
  refine sa_iald C dX0_eyeOf_10 (lx_a4 hj) ev2 ?_
  refine sa_aload_n C dX0_eyeOf_11 rfl 0 rfl ?_
  refine sa_getR C hh_X0 (k := 5) dX0_eyeOf_12 q_131 (by decide) (lx_o hj) rfl ?_
  refine sa_iload_n C dX0_eyeOf_15 rfl 1 rfl ?_
  obtain ⟨v3, ev3, h⟩ := sl_b h
  refine sa_iald C dX0_eyeOf_16 (lx_a6 hj) ev3 ?_
  refine sa_iadd C dX0_eyeOf_17 ?_
  exact sa_iret C dX0_eyeOf_18 (Option.some.inj h) rfl
/-! X0 lookOut -/
def f0_lookOut_47 (j : Nat) (M : sl_M) (x2 : Int32) (x3 : Int32) (x4 : Int32) (x5 : Int32) : Nat → Int32 → Int32 → Int32 → Int32 → Option Int32
  | 0, _, _, _, _ => none
  | n + 1, x6, x7, x8, x9 => (if x5 < x9 then some x8 else (sl_ld (M (9 * j + 4)) 24 (x3 + (x2 * x9))).bind fun v2 => (if ((v2 - x4) * x7) ≤ (x6 * x9) then f0_lookOut_47 j M x2 x3 x4 x5 n x6 x7 x8 (x9 + (1 : Int32)) else f0_lookOut_47 j M x2 x3 x4 x5 n (v2 - x4) x9 (x8 ||| ((1 : Int32) <<< ((x3 + (x2 * x9)) &&& 31))) (x9 + (1 : Int32))))
def f0_lookOut_30 (j : Nat) (x2 : Int32) (x3 : Int32) (x4 : Int32) (t0 : Int32) (t1 : Int32) (M : sl_M) : Option Int32 := f0_lookOut_47 j M x2 x3 x4 (sl_mn t1 t0) 400 (-1 : Int32) (0 : Int32) (0 : Int32) (1 : Int32)
def f0_lookOut (j : Nat) (x1 : Int32) (x2 : Int32) (M : sl_M) : Option Int32 := (sl_ld (M (9 * j + 5)) 8 x1).bind fun v1 => (f0_eyeOf j x1 M).bind fun r2 => (if 0 ≤ x2 then f0_lookOut_30 j x2 v1 r2 ((23 : Int32) - v1) (M (9 * j) 9) M else f0_lookOut_30 j x2 v1 r2 v1 (M (9 * j) 9) M)
theorem w0_lookOut_47 {D : va_G} {cA : ClassId} {g : Nat → Nat} {A : Nat → Prop} {z : sl_K} {l : Launch} {p : Program} {e : Env} {R : Room} {s : State} {m : MethodId} {args : Array Value} {below : List Frame} {meth : Method} {c : Code} (C : sl_C RX0 cX0_lookOut 12 (some .int) sl_cl LX D cA g A z p s m meth c) (hR : 1 ≤ R.frames ∧ 21 ≤ R.locals) {j : Nat} (hj : j < 3) {M : sl_M} {r : Int32} {x2 : Int32} {x3 : Int32} {x4 : Int32} {x5 : Int32} : ∀ (n : Nat) {x6 : Int32} {x7 : Int32} {x8 : Int32} {x9 : Int32}, f0_lookOut_47 j M x2 x3 x4 x5 n x6 x7 x8 x9 = some r → sl_A sl_cl LX D cA g A p l e R s m args below meth c (MQ below (sl_Q sl_cl LX D cA g A (some (.int r)) M) args s 0 0 A) 12 47 [(0, .ref (g (9 * j))), (2, .int x2), (3, .int x3), (4, .int x4), (5, .int x5), (6, .int x6), (7, .int x7), (8, .int x8), (9, .int x9)] [] M := by
  intro n
  induction n with
  | zero =>
    intro x6 x7 x8 x9 h
    exact absurd h.symm (Option.some_ne_none _)
  | succ n ih =>
    intro x6 x7 x8 x9 h
    rw [f0_lookOut_47] at h
    refine sa_iload C dX0_lookOut_47 8 rfl ?_
    refine sa_iload C dX0_lookOut_49 4 rfl ?_
    refine sa_icmp_gt C dX0_lookOut_51 (tgt := 110) (by decide) (fun c1 => ?_) (fun c1 => ?_)
    · replace h := sl_t c1 h
      refine sa_iload C dX0_lookOut_110 7 rfl ?_
      exact sa_iret C dX0_lookOut_112 (Option.some.inj h) rfl
    · replace h := sl_n c1 h
      refine sa_iload_n C dX0_lookOut_54 rfl 2 rfl ?_
      refine sa_iload_n C dX0_lookOut_55 rfl 1 rfl ?_
      refine sa_iload C dX0_lookOut_56 8 rfl ?_
      refine sa_imul C dX0_lookOut_58 ?_
      refine sa_iadd C dX0_lookOut_59 ?_
      refine sa_istore C dX0_lookOut_60 (by decide) (lv2 := [(10, .int (x3 + (x2 * x9))), (0, .ref (g (9 * j))), (2, .int x2), (3, .int x3), (4, .int x4), (5, .int x5), (6, .int x6), (7, .int x7), (8, .int x8), (9, .int x9)]) rfl ?_
      refine sa_aload_n C dX0_lookOut_62 rfl 1 rfl ?_
      refine sa_getR C hh_X0 (k := 3) dX0_lookOut_63 q_127 (by decide) (lx_o hj) rfl ?_
      refine sa_iload C dX0_lookOut_66 0 rfl ?_
      obtain ⟨v2, ev2, h⟩ := sl_b h
      refine sa_iald C dX0_lookOut_68 (lx_a4 hj) ev2 ?_
      refine sa_iload C dX0_lookOut_69 4 rfl ?_
      refine sa_isub C dX0_lookOut_71 ?_
      refine sa_istore C dX0_lookOut_72 (by decide) (lv2 := [(11, .int (v2 - x4)), (10, .int (x3 + (x2 * x9))), (0, .ref (g (9 * j))), (2, .int x2), (3, .int x3), (4, .int x4), (5, .int x5), (6, .int x6), (7, .int x7), (8, .int x8), (9, .int x9)]) rfl ?_
      refine sa_iload C dX0_lookOut_74 7 rfl ?_
      refine sa_iload C dX0_lookOut_76 10 rfl ?_
      refine sa_imul C dX0_lookOut_78 ?_
      refine sa_iload C dX0_lookOut_79 0 rfl ?_
      refine sa_iload C dX0_lookOut_81 8 rfl ?_
      refine sa_imul C dX0_lookOut_83 ?_
      refine sa_icmp_ge C dX0_lookOut_84 (tgt := 104) (by decide) (fun c3 => ?_) (fun c3 => ?_)
      · replace h := sl_t c3 h
        refine sa_iinc C dX0_lookOut_104 10 rfl (v := (x9 + (1 : Int32))) (by rw [ic_1]) (by decide) (lv2 := [(9, .int (x9 + (1 : Int32))), (11, .int (v2 - x4)), (10, .int (x3 + (x2 * x9))), (0, .ref (g (9 * j))), (2, .int x2), (3, .int x3), (4, .int x4), (5, .int x5), (6, .int x6), (7, .int x7), (8, .int x8)]) rfl ?_
        refine sa_goto C dX0_lookOut_107 (tgt := 47) (by decide) ?_
        exact sa_sub [3, 4, 5, 6, 7, 8, 9, 10, 0] rfl (ih h)
      · replace h := sl_n c3 h
        refine sa_iload C dX0_lookOut_87 0 rfl ?_
        refine sa_istore C dX0_lookOut_89 (by decide) (lv2 := [(6, .int (v2 - x4)), (11, .int (v2 - x4)), (10, .int (x3 + (x2 * x9))), (0, .ref (g (9 * j))), (2, .int x2), (3, .int x3), (4, .int x4), (5, .int x5), (7, .int x7), (8, .int x8), (9, .int x9)]) rfl ?_
        refine sa_iload C dX0_lookOut_91 10 rfl ?_
        refine sa_istore C dX0_lookOut_93 (by decide) (lv2 := [(7, .int x9), (6, .int (v2 - x4)), (11, .int (v2 - x4)), (10, .int (x3 + (x2 * x9))), (0, .ref (g (9 * j))), (2, .int x2), (3, .int x3), (4, .int x4), (5, .int x5), (8, .int x8), (9, .int x9)]) rfl ?_
        refine sa_iload C dX0_lookOut_95 9 rfl ?_
        refine sa_iconst C dX0_lookOut_97 ic_1 ?_
        refine sa_iload C dX0_lookOut_98 3 rfl ?_
        refine sa_ishl C dX0_lookOut_100 ?_
        refine sa_ior C dX0_lookOut_101 ?_
        refine sa_istore C dX0_lookOut_102 (by decide) (lv2 := [(8, .int (x8 ||| ((1 : Int32) <<< ((x3 + (x2 * x9)) &&& 31)))), (7, .int x9), (6, .int (v2 - x4)), (11, .int (v2 - x4)), (10, .int (x3 + (x2 * x9))), (0, .ref (g (9 * j))), (2, .int x2), (3, .int x3), (4, .int x4), (5, .int x5), (9, .int x9)]) rfl ?_
        refine sa_iinc C dX0_lookOut_104 10 rfl (v := (x9 + (1 : Int32))) (by rw [ic_1]) (by decide) (lv2 := [(9, .int (x9 + (1 : Int32))), (8, .int (x8 ||| ((1 : Int32) <<< ((x3 + (x2 * x9)) &&& 31)))), (7, .int x9), (6, .int (v2 - x4)), (11, .int (v2 - x4)), (10, .int (x3 + (x2 * x9))), (0, .ref (g (9 * j))), (2, .int x2), (3, .int x3), (4, .int x4), (5, .int x5)]) rfl ?_
        refine sa_goto C dX0_lookOut_107 (tgt := 47) (by decide) ?_
        exact sa_sub [6, 7, 8, 9, 10, 3, 2, 1, 0] rfl (ih h)
theorem w0_lookOut_30 {D : va_G} {cA : ClassId} {g : Nat → Nat} {A : Nat → Prop} {z : sl_K} {l : Launch} {p : Program} {e : Env} {R : Room} {s : State} {m : MethodId} {args : Array Value} {below : List Frame} {meth : Method} {c : Code} (C : sl_C RX0 cX0_lookOut 12 (some .int) sl_cl LX D cA g A z p s m meth c) (hR : 1 ≤ R.frames ∧ 21 ≤ R.locals) {j : Nat} (hj : j < 3) {M : sl_M} {r : Int32} {x2 : Int32} {x3 : Int32} {x4 : Int32} {t0 : Int32} {t1 : Int32} (h : f0_lookOut_30 j x2 x3 x4 t0 t1 M = some r) : sl_A sl_cl LX D cA g A p l e R s m args below meth c (MQ below (sl_Q sl_cl LX D cA g A (some (.int r)) M) args s 0 0 A) 12 30 [(0, .ref (g (9 * j))), (2, .int x2), (3, .int x3), (4, .int x4)] [.int t0, .int t1] M := by
  rw [f0_lookOut_30] at h
  refine sa_mmin C dX0_lookOut_30 q_286 q_287 q_100 q_288 (Nat.le_of_ble_eq_true rfl) ⟨Nat.le_trans (Nat.le_of_ble_eq_true rfl) hR.1, Nat.le_trans (Nat.le_of_ble_eq_true rfl) hR.2⟩ ?_
  refine sa_istore C dX0_lookOut_33 (by decide) (lv2 := [(5, .int (sl_mn t1 t0)), (0, .ref (g (9 * j))), (2, .int x2), (3, .int x3), (4, .int x4)]) rfl ?_
  refine sa_iconst C dX0_lookOut_35 ic_m1 ?_
  refine sa_istore C dX0_lookOut_36 (by decide) (lv2 := [(6, .int (-1 : Int32)), (5, .int (sl_mn t1 t0)), (0, .ref (g (9 * j))), (2, .int x2), (3, .int x3), (4, .int x4)]) rfl ?_
  refine sa_iconst C dX0_lookOut_38 ic_0 ?_
  refine sa_istore C dX0_lookOut_39 (by decide) (lv2 := [(7, .int (0 : Int32)), (6, .int (-1 : Int32)), (5, .int (sl_mn t1 t0)), (0, .ref (g (9 * j))), (2, .int x2), (3, .int x3), (4, .int x4)]) rfl ?_
  refine sa_iconst C dX0_lookOut_41 ic_0 ?_
  refine sa_istore C dX0_lookOut_42 (by decide) (lv2 := [(8, .int (0 : Int32)), (7, .int (0 : Int32)), (6, .int (-1 : Int32)), (5, .int (sl_mn t1 t0)), (0, .ref (g (9 * j))), (2, .int x2), (3, .int x3), (4, .int x4)]) rfl ?_
  refine sa_iconst C dX0_lookOut_44 ic_1 ?_
  refine sa_istore C dX0_lookOut_45 (by decide) (lv2 := [(9, .int (1 : Int32)), (8, .int (0 : Int32)), (7, .int (0 : Int32)), (6, .int (-1 : Int32)), (5, .int (sl_mn t1 t0)), (0, .ref (g (9 * j))), (2, .int x2), (3, .int x3), (4, .int x4)]) rfl ?_
  exact sa_sub [5, 6, 7, 8, 4, 3, 2, 1, 0] rfl (w0_lookOut_47 C hR hj 400 h)
theorem cc0_lookOut {D : va_G} {cA : ClassId} {g : Nat → Nat} {A : Nat → Prop} {z : sl_K} {l : Launch} {j : Nat} {x1 : Int32} {x2 : Int32} (hj : j < 3) {M : sl_M} {r : Int32} (h : f0_lookOut j x1 x2 M = some r) : sl_N sl_cl LX D cA g A z l yX0_lookOut cX0_lookOut 12 (some .int) 1 21 [.ref (g (9 * j)), .int x1, .int x2] M (some (.int r)) M := by
  refine sl_N.of (by decide) (Nat.le_of_ble_eq_true rfl) rfl ?_
  intro p e s m args below meth c C
  replace C : sl_C RX0 cX0_lookOut 12 (some .int) sl_cl LX D cA g A z p s m meth c := C
  have hR : 1 ≤ (({ frames := 1, cells := 0, slots := 0, locals := 21 } : Room)).frames ∧ 21 ≤ (({ frames := 1, cells := 0, slots := 0, locals := 21 } : Room)).locals := ⟨Nat.le_refl _, Nat.le_refl _⟩
  rw [f0_lookOut] at h
  refine sa_aload_n C dX0_lookOut_0 rfl 0 rfl ?_
  refine sa_getR C hh_X0 (k := 4) dX0_lookOut_1 q_129 (by decide) (lx_o hj) rfl ?_
  refine sa_iload_n C dX0_lookOut_4 rfl 1 rfl ?_
  obtain ⟨v1, ev1, h⟩ := sl_b h
  refine sa_iald C dX0_lookOut_5 (lx_a5 hj) ev1 ?_
  refine sa_istore_n C dX0_lookOut_6 rfl (by decide) (lv2 := [(3, .int v1), (0, .ref (g (9 * j))), (1, .int x1), (2, .int x2)]) rfl ?_
  refine sa_aload_n C dX0_lookOut_7 rfl 1 rfl ?_
  refine sa_iload_n C dX0_lookOut_8 rfl 2 rfl ?_
  obtain ⟨r2, er2, h⟩ := sl_b h
  refine sa_invVi C yy_X0_eyeOf ⟨q_339, q_9⟩ q_385 dX0_lookOut_9 (As := [.int x1]) (rest := []) rfl ⟨Nat.le_trans (Nat.le_of_ble_eq_true rfl) hR.1, Nat.le_trans (Nat.le_of_ble_eq_true rfl) hR.2⟩ (Nat.le_of_ble_eq_true rfl) hh_X0 (lx_o hj) (cc0_eyeOf hj er2) rfl ?_
  refine sa_istore C dX0_lookOut_12 (by decide) (lv2 := [(4, .int r2), (3, .int v1), (0, .ref (g (9 * j))), (1, .int x1), (2, .int x2)]) rfl ?_
  refine sa_aload_n C dX0_lookOut_14 rfl 2 rfl ?_
  refine sa_getI C hh_X0 (k := 9) dX0_lookOut_15 q_139 (by decide) (lx_o hj) rfl ?_
  refine sa_iload_n C dX0_lookOut_18 rfl 4 rfl ?_
  refine sa_if_ge C dX0_lookOut_19 (tgt := 26) (by decide) (fun c3 => ?_) (fun c3 => ?_)
  · replace h := sl_t c3 h
    refine sa_bipush C dX0_lookOut_26 bp_23 ?_
    refine sa_iload_n C dX0_lookOut_28 rfl 1 rfl ?_
    refine sa_isub C dX0_lookOut_29 ?_
    exact sa_sub [2, 4, 1, 0] rfl (w0_lookOut_30 C hR hj h)
  · replace h := sl_n c3 h
    refine sa_iload_n C dX0_lookOut_22 rfl 1 rfl ?_
    refine sa_goto C dX0_lookOut_23 (tgt := 30) (by decide) ?_
    exact sa_sub [2, 4, 1, 0] rfl (w0_lookOut_30 C hR hj h)
/-! X0 sightOf -/
def f0_sightOf_29 (j : Nat) (x1 : Int32) (x2 : Int32) (M : sl_M) : Option Int32 := (sl_ld (M (9 * j + 7)) 8 x1).bind fun v1 => (if (v1 &&& (2 : Int32)) = 0 then some x2 else (f0_lookOut j x1 (1 : Int32) M).bind fun r3 => some (x2 ||| r3))
def f0_sightOf (j : Nat) (x1 : Int32) (M : sl_M) : Option Int32 := (sl_ld (M (9 * j + 5)) 8 x1).bind fun v1 => (sl_ld (M (9 * j + 7)) 8 x1).bind fun v2 => (if (v2 &&& (1 : Int32)) = 0 then f0_sightOf_29 j x1 ((1 : Int32) <<< (v1 &&& 31)) M else (f0_lookOut j x1 (-1 : Int32) M).bind fun r4 => f0_sightOf_29 j x1 (((1 : Int32) <<< (v1 &&& 31)) ||| r4) M)
theorem w0_sightOf_29 {D : va_G} {cA : ClassId} {g : Nat → Nat} {A : Nat → Prop} {z : sl_K} {l : Launch} {p : Program} {e : Env} {R : Room} {s : State} {m : MethodId} {args : Array Value} {below : List Frame} {meth : Method} {c : Code} (C : sl_C RX0 cX0_sightOf 3 (some .int) sl_cl LX D cA g A z p s m meth c) (hR : 2 ≤ R.frames ∧ 52 ≤ R.locals) {j : Nat} (hj : j < 3) {M : sl_M} {r : Int32} {x1 : Int32} {x2 : Int32} (h : f0_sightOf_29 j x1 x2 M = some r) : sl_A sl_cl LX D cA g A p l e R s m args below meth c (MQ below (sl_Q sl_cl LX D cA g A (some (.int r)) M) args s 0 0 A) 3 29 [(0, .ref (g (9 * j))), (1, .int x1), (2, .int x2)] [] M := by
  rw [f0_sightOf_29] at h
  refine sa_aload_n C dX0_sightOf_29 rfl 0 rfl ?_
  refine sa_getR C hh_X0 (k := 6) dX0_sightOf_30 q_133 (by decide) (lx_o hj) rfl ?_
  refine sa_iload_n C dX0_sightOf_33 rfl 1 rfl ?_
  obtain ⟨v1, ev1, h⟩ := sl_b h
  refine sa_iald C dX0_sightOf_34 (lx_a7 hj) ev1 ?_
  refine sa_iconst C dX0_sightOf_35 ic_2 ?_
  refine sa_iand C dX0_sightOf_36 ?_
  refine sa_if_eq C dX0_sightOf_37 (tgt := 49) (by decide) (fun c2 => ?_) (fun c2 => ?_)
  · replace h := sl_t c2 h
    refine sa_iload_n C dX0_sightOf_49 rfl 2 rfl ?_
    exact sa_iret C dX0_sightOf_50 (Option.some.inj h) rfl
  · replace h := sl_n c2 h
    refine sa_iload_n C dX0_sightOf_40 rfl 2 rfl ?_
    refine sa_aload_n C dX0_sightOf_41 rfl 0 rfl ?_
    refine sa_iload_n C dX0_sightOf_42 rfl 1 rfl ?_
    refine sa_iconst C dX0_sightOf_43 ic_1 ?_
    obtain ⟨r3, er3, h⟩ := sl_b h
    refine sa_invVi C yy_X0_lookOut ⟨q_383, q_13⟩ q_381 dX0_sightOf_44 (As := [.int x1, .int (1 : Int32)]) (rest := [.int x2]) rfl ⟨Nat.le_trans (Nat.le_of_ble_eq_true rfl) hR.1, Nat.le_trans (Nat.le_of_ble_eq_true rfl) hR.2⟩ (Nat.le_of_ble_eq_true rfl) hh_X0 (lx_o hj) (cc0_lookOut hj er3) rfl ?_
    refine sa_ior C dX0_sightOf_47 ?_
    refine sa_istore_n C dX0_sightOf_48 rfl (by decide) (lv2 := [(2, .int (x2 ||| r3)), (0, .ref (g (9 * j))), (1, .int x1)]) rfl ?_
    refine sa_iload_n C dX0_sightOf_49 rfl 0 rfl ?_
    exact sa_iret C dX0_sightOf_50 (Option.some.inj h) rfl
theorem cc0_sightOf {D : va_G} {cA : ClassId} {g : Nat → Nat} {A : Nat → Prop} {z : sl_K} {l : Launch} {j : Nat} {x1 : Int32} (hj : j < 3) {M : sl_M} {r : Int32} (h : f0_sightOf j x1 M = some r) : sl_N sl_cl LX D cA g A z l yX0_sightOf cX0_sightOf 3 (some .int) 2 52 [.ref (g (9 * j)), .int x1] M (some (.int r)) M := by
  refine sl_N.of (by decide) (Nat.le_of_ble_eq_true rfl) rfl ?_
  intro p e s m args below meth c C
  replace C : sl_C RX0 cX0_sightOf 3 (some .int) sl_cl LX D cA g A z p s m meth c := C
  have hR : 2 ≤ (({ frames := 2, cells := 0, slots := 0, locals := 52 } : Room)).frames ∧ 52 ≤ (({ frames := 2, cells := 0, slots := 0, locals := 52 } : Room)).locals := ⟨Nat.le_refl _, Nat.le_refl _⟩
  rw [f0_sightOf] at h
  refine sa_iconst C dX0_sightOf_0 ic_1 ?_
  refine sa_aload_n C dX0_sightOf_1 rfl 0 rfl ?_
  refine sa_getR C hh_X0 (k := 4) dX0_sightOf_2 q_129 (by decide) (lx_o hj) rfl ?_
  refine sa_iload_n C dX0_sightOf_5 rfl 1 rfl ?_
  obtain ⟨v1, ev1, h⟩ := sl_b h
  refine sa_iald C dX0_sightOf_6 (lx_a5 hj) ev1 ?_
  refine sa_ishl C dX0_sightOf_7 ?_
  refine sa_istore_n C dX0_sightOf_8 rfl (by decide) (lv2 := [(2, .int ((1 : Int32) <<< (v1 &&& 31))), (0, .ref (g (9 * j))), (1, .int x1)]) rfl ?_
  refine sa_aload_n C dX0_sightOf_9 rfl 1 rfl ?_
  refine sa_getR C hh_X0 (k := 6) dX0_sightOf_10 q_133 (by decide) (lx_o hj) rfl ?_
  refine sa_iload_n C dX0_sightOf_13 rfl 2 rfl ?_
  obtain ⟨v2, ev2, h⟩ := sl_b h
  refine sa_iald C dX0_sightOf_14 (lx_a7 hj) ev2 ?_
  refine sa_iconst C dX0_sightOf_15 ic_1 ?_
  refine sa_iand C dX0_sightOf_16 ?_
  refine sa_if_eq C dX0_sightOf_17 (tgt := 29) (by decide) (fun c3 => ?_) (fun c3 => ?_)
  · replace h := sl_t c3 h
    exact sa_sub [1, 2, 0] rfl (w0_sightOf_29 C hR hj h)
  · replace h := sl_n c3 h
    refine sa_iload_n C dX0_sightOf_20 rfl 0 rfl ?_
    refine sa_aload_n C dX0_sightOf_21 rfl 1 rfl ?_
    refine sa_iload_n C dX0_sightOf_22 rfl 2 rfl ?_
    refine sa_iconst C dX0_sightOf_23 ic_m1 ?_
    obtain ⟨r4, er4, h⟩ := sl_b h
    refine sa_invVi C yy_X0_lookOut ⟨q_383, q_13⟩ q_381 dX0_sightOf_24 (As := [.int x1, .int (-1 : Int32)]) (rest := [.int ((1 : Int32) <<< (v1 &&& 31))]) rfl ⟨Nat.le_trans (Nat.le_of_ble_eq_true rfl) hR.1, Nat.le_trans (Nat.le_of_ble_eq_true rfl) hR.2⟩ (Nat.le_of_ble_eq_true rfl) hh_X0 (lx_o hj) (cc0_lookOut hj er4) rfl ?_
    refine sa_ior C dX0_sightOf_27 ?_
    refine sa_istore_n C dX0_sightOf_28 rfl (by decide) (lv2 := [(2, .int (((1 : Int32) <<< (v1 &&& 31)) ||| r4)), (0, .ref (g (9 * j))), (1, .int x1)]) rfl ?_
    exact sa_sub [1, 2, 0] rfl (w0_sightOf_29 C hR hj h)
/-! X0 hasInSight -/
def f0_hasInSight (j : Nat) (x1 : Int32) (x2 : Int32) (M : sl_M) : Option Int32 := (f0_sightOf j x1 M).bind fun r1 => (sl_bo (f0_isIn x2 r1)).bind fun v2 => some v2
theorem cc0_hasInSight {D : va_G} {cA : ClassId} {g : Nat → Nat} {A : Nat → Prop} {z : sl_K} {l : Launch} {j : Nat} {x1 : Int32} {x2 : Int32} (hj : j < 3) {M : sl_M} {r : Int32} (h : f0_hasInSight j x1 x2 M = some r) : sl_N sl_cl LX D cA g A z l yX0_hasInSight cX0_hasInSight 3 (some .boolean) 3 74 [.ref (g (9 * j)), .int x1, .int x2] M (some (.int r)) M := by
  refine sl_N.of (by decide) (Nat.le_of_ble_eq_true rfl) rfl ?_
  intro p e s m args below meth c C
  replace C : sl_C RX0 cX0_hasInSight 3 (some .boolean) sl_cl LX D cA g A z p s m meth c := C
  have hR : 3 ≤ (({ frames := 3, cells := 0, slots := 0, locals := 74 } : Room)).frames ∧ 74 ≤ (({ frames := 3, cells := 0, slots := 0, locals := 74 } : Room)).locals := ⟨Nat.le_refl _, Nat.le_refl _⟩
  rw [f0_hasInSight] at h
  refine sa_iload_n C dX0_hasInSight_0 rfl 2 rfl ?_
  refine sa_aload_n C dX0_hasInSight_1 rfl 0 rfl ?_
  refine sa_iload_n C dX0_hasInSight_2 rfl 1 rfl ?_
  obtain ⟨r1, er1, h⟩ := sl_b h
  refine sa_invVi C yy_X0_sightOf ⟨q_379, q_12⟩ q_394 dX0_hasInSight_3 (As := [.int x1]) (rest := [.int x2]) rfl ⟨Nat.le_trans (Nat.le_of_ble_eq_true rfl) hR.1, Nat.le_trans (Nat.le_of_ble_eq_true rfl) hR.2⟩ (Nat.le_of_ble_eq_true rfl) hh_X0 (lx_o hj) (cc0_sightOf hj er1) rfl ?_
  refine sa_invSi C yy_X0_isIn q_396 q_395 dX0_hasInSight_6 (As := [.int x2, .int r1]) (rest := []) rfl ⟨Nat.le_trans (Nat.le_of_ble_eq_true rfl) hR.1, Nat.le_trans (Nat.le_of_ble_eq_true rfl) hR.2⟩ (Nat.le_of_ble_eq_true rfl) (cc0_isIn rfl) rfl ?_
  obtain ⟨v2, ev2, h⟩ := sl_b h
  obtain ⟨ev2, bv2⟩ := sl_bo_s ev2
  rw [← ev2]
  exact sa_zret C dX0_hasInSight_9 (sl_b01 ev2 bv2) (Option.some.inj h) rfl
/-! X0 looksTowards -/
def f0_looksTowards_17 (j : Nat) (x1 : Int32) (x2 : Int32) (x3 : Int32) (t0 : Int32) (M : sl_M) : Option Int32 := (if x2 = x3 then some (0 : Int32) else (sl_ld (M (9 * j + 7)) 8 x1).bind fun v2 => (if (v2 &&& t0) = 0 then some (0 : Int32) else (if (M (9 * j) 9) < (sl_ab (x2 - x3)) then some (0 : Int32) else some (1 : Int32))))
def f0_looksTowards (j : Nat) (x1 : Int32) (x2 : Int32) (M : sl_M) : Option Int32 := (sl_ld (M (9 * j + 5)) 8 x1).bind fun v1 => (if v1 ≤ x2 then f0_looksTowards_17 j x1 x2 v1 (2 : Int32) M else f0_looksTowards_17 j x1 x2 v1 (1 : Int32) M)
theorem w0_looksTowards_17 {D : va_G} {cA : ClassId} {g : Nat → Nat} {A : Nat → Prop} {z : sl_K} {l : Launch} {p : Program} {e : Env} {R : Room} {s : State} {m : MethodId} {args : Array Value} {below : List Frame} {meth : Method} {c : Code} (C : sl_C RX0 cX0_looksTowards 5 (some .boolean) sl_cl LX D cA g A z p s m meth c) (hR : 1 ≤ R.frames ∧ 21 ≤ R.locals) {j : Nat} (hj : j < 3) {M : sl_M} {r : Int32} {x1 : Int32} {x2 : Int32} {x3 : Int32} {t0 : Int32} (h : f0_looksTowards_17 j x1 x2 x3 t0 M = some r) : sl_A sl_cl LX D cA g A p l e R s m args below meth c (MQ below (sl_Q sl_cl LX D cA g A (some (.int r)) M) args s 0 0 A) 5 17 [(0, .ref (g (9 * j))), (1, .int x1), (2, .int x2), (3, .int x3)] [.int t0] M := by
  rw [f0_looksTowards_17] at h
  refine sa_istore C dX0_looksTowards_17 (by decide) (lv2 := [(4, .int t0), (0, .ref (g (9 * j))), (1, .int x1), (2, .int x2), (3, .int x3)]) rfl ?_
  refine sa_iload_n C dX0_looksTowards_19 rfl 3 rfl ?_
  refine sa_iload_n C dX0_looksTowards_20 rfl 4 rfl ?_
  refine sa_icmp_eq C dX0_looksTowards_21 (tgt := 53) (by decide) (fun c1 => ?_) (fun c1 => ?_)
  · replace h := sl_t c1 h
    refine sa_iconst C dX0_looksTowards_53 ic_0 ?_
    exact sa_zret C dX0_looksTowards_54 (Or.inl rfl) (Option.some.inj h) rfl
  · replace h := sl_n c1 h
    refine sa_aload_n C dX0_looksTowards_24 rfl 1 rfl ?_
    refine sa_getR C hh_X0 (k := 6) dX0_looksTowards_25 q_133 (by decide) (lx_o hj) rfl ?_
    refine sa_iload_n C dX0_looksTowards_28 rfl 2 rfl ?_
    obtain ⟨v2, ev2, h⟩ := sl_b h
    refine sa_iald C dX0_looksTowards_29 (lx_a7 hj) ev2 ?_
    refine sa_iload C dX0_looksTowards_30 0 rfl ?_
    refine sa_iand C dX0_looksTowards_32 ?_
    refine sa_if_eq C dX0_looksTowards_33 (tgt := 53) (by decide) (fun c3 => ?_) (fun c3 => ?_)
    · replace h := sl_t c3 h
      refine sa_iconst C dX0_looksTowards_53 ic_0 ?_
      exact sa_zret C dX0_looksTowards_54 (Or.inl rfl) (Option.some.inj h) rfl
    · replace h := sl_n c3 h
      refine sa_iload_n C dX0_looksTowards_36 rfl 3 rfl ?_
      refine sa_iload_n C dX0_looksTowards_37 rfl 4 rfl ?_
      refine sa_isub C dX0_looksTowards_38 ?_
      refine sa_mabs C dX0_looksTowards_39 q_415 q_416 q_100 q_417 (Nat.le_of_ble_eq_true rfl) ⟨Nat.le_trans (Nat.le_of_ble_eq_true rfl) hR.1, Nat.le_trans (Nat.le_of_ble_eq_true rfl) hR.2⟩ ?_
      refine sa_aload_n C dX0_looksTowards_42 rfl 1 rfl ?_
      refine sa_getI C hh_X0 (k := 9) dX0_looksTowards_43 q_139 (by decide) (lx_o hj) rfl ?_
      refine sa_icmp_gt C dX0_looksTowards_46 (tgt := 53) (by decide) (fun c4 => ?_) (fun c4 => ?_)
      · replace h := sl_t c4 h
        refine sa_iconst C dX0_looksTowards_53 ic_0 ?_
        exact sa_zret C dX0_looksTowards_54 (Or.inl rfl) (Option.some.inj h) rfl
      · replace h := sl_n c4 h
        refine sa_iconst C dX0_looksTowards_49 ic_1 ?_
        refine sa_goto C dX0_looksTowards_50 (tgt := 54) (by decide) ?_
        exact sa_zret C dX0_looksTowards_54 (Or.inr rfl) (Option.some.inj h) rfl
theorem cc0_looksTowards {D : va_G} {cA : ClassId} {g : Nat → Nat} {A : Nat → Prop} {z : sl_K} {l : Launch} {j : Nat} {x1 : Int32} {x2 : Int32} (hj : j < 3) {M : sl_M} {r : Int32} (h : f0_looksTowards j x1 x2 M = some r) : sl_N sl_cl LX D cA g A z l yX0_looksTowards cX0_looksTowards 5 (some .boolean) 1 21 [.ref (g (9 * j)), .int x1, .int x2] M (some (.int r)) M := by
  refine sl_N.of (by decide) (Nat.le_of_ble_eq_true rfl) rfl ?_
  intro p e s m args below meth c C
  replace C : sl_C RX0 cX0_looksTowards 5 (some .boolean) sl_cl LX D cA g A z p s m meth c := C
  have hR : 1 ≤ (({ frames := 1, cells := 0, slots := 0, locals := 21 } : Room)).frames ∧ 21 ≤ (({ frames := 1, cells := 0, slots := 0, locals := 21 } : Room)).locals := ⟨Nat.le_refl _, Nat.le_refl _⟩
  rw [f0_looksTowards] at h
  refine sa_aload_n C dX0_looksTowards_0 rfl 0 rfl ?_
  refine sa_getR C hh_X0 (k := 4) dX0_looksTowards_1 q_129 (by decide) (lx_o hj) rfl ?_
  refine sa_iload_n C dX0_looksTowards_4 rfl 1 rfl ?_
  obtain ⟨v1, ev1, h⟩ := sl_b h
  refine sa_iald C dX0_looksTowards_5 (lx_a5 hj) ev1 ?_
  refine sa_istore_n C dX0_looksTowards_6 rfl (by decide) (lv2 := [(3, .int v1), (0, .ref (g (9 * j))), (1, .int x1), (2, .int x2)]) rfl ?_
  refine sa_iload_n C dX0_looksTowards_7 rfl 3 rfl ?_
  refine sa_iload_n C dX0_looksTowards_8 rfl 0 rfl ?_
  refine sa_icmp_ge C dX0_looksTowards_9 (tgt := 16) (by decide) (fun c2 => ?_) (fun c2 => ?_)
  · replace h := sl_t c2 h
    refine sa_iconst C dX0_looksTowards_16 ic_2 ?_
    exact sa_sub [1, 2, 3, 0] rfl (w0_looksTowards_17 C hR hj h)
  · replace h := sl_n c2 h
    refine sa_iconst C dX0_looksTowards_12 ic_1 ?_
    refine sa_goto C dX0_looksTowards_13 (tgt := 17) (by decide) ?_
    exact sa_sub [1, 2, 3, 0] rfl (w0_looksTowards_17 C hR hj h)
/-! X0 hiderOf -/
def f0_hiderOf_48 (j : Nat) (M : sl_M) (x3 : Int32) (x4 : Int32) (x5 : Int32) (x6 : Int32) (x7 : Int32) : Nat → Int32 → Option Int32
  | 0, _ => none
  | n + 1, x8 => (if x6 ≤ x8 then some (-1 : Int32) else (sl_ld (M (9 * j + 4)) 24 (x3 + (x5 * x8))).bind fun v2 => (if ((v2 - x4) * x6) < (x7 * x8) then f0_hiderOf_48 j M x3 x4 x5 x6 x7 n (x8 + (1 : Int32)) else some (x3 + (x5 * x8))))
def f0_hiderOf_24 (j : Nat) (x2 : Int32) (x3 : Int32) (x4 : Int32) (t0 : Int32) (M : sl_M) : Option Int32 := (sl_ld (M (9 * j + 4)) 24 x2).bind fun v1 => f0_hiderOf_48 j M x3 x4 t0 (sl_ab (x2 - x3)) (v1 - x4) 400 (1 : Int32)
def f0_hiderOf (j : Nat) (x1 : Int32) (x2 : Int32) (M : sl_M) : Option Int32 := (sl_ld (M (9 * j + 5)) 8 x1).bind fun v1 => (f0_eyeOf j x1 M).bind fun r2 => (if v1 ≤ x2 then f0_hiderOf_24 j x2 v1 r2 (1 : Int32) M else f0_hiderOf_24 j x2 v1 r2 (-1 : Int32) M)
theorem w0_hiderOf_48 {D : va_G} {cA : ClassId} {g : Nat → Nat} {A : Nat → Prop} {z : sl_K} {l : Launch} {p : Program} {e : Env} {R : Room} {s : State} {m : MethodId} {args : Array Value} {below : List Frame} {meth : Method} {c : Code} (C : sl_C RX0 cX0_hiderOf 10 (some .int) sl_cl LX D cA g A z p s m meth c) (hR : 1 ≤ R.frames ∧ 21 ≤ R.locals) {j : Nat} (hj : j < 3) {M : sl_M} {r : Int32} {x3 : Int32} {x4 : Int32} {x5 : Int32} {x6 : Int32} {x7 : Int32} : ∀ (n : Nat) {x8 : Int32}, f0_hiderOf_48 j M x3 x4 x5 x6 x7 n x8 = some r → sl_A sl_cl LX D cA g A p l e R s m args below meth c (MQ below (sl_Q sl_cl LX D cA g A (some (.int r)) M) args s 0 0 A) 10 48 [(0, .ref (g (9 * j))), (3, .int x3), (4, .int x4), (5, .int x5), (6, .int x6), (7, .int x7), (8, .int x8)] [] M := by
  intro n
  induction n with
  | zero =>
    intro x8 h
    exact absurd h.symm (Option.some_ne_none _)
  | succ n ih =>
    intro x8 h
    rw [f0_hiderOf_48] at h
    refine sa_iload C dX0_hiderOf_48 6 rfl ?_
    refine sa_iload C dX0_hiderOf_50 4 rfl ?_
    refine sa_icmp_ge C dX0_hiderOf_52 (tgt := 94) (by decide) (fun c1 => ?_) (fun c1 => ?_)
    · replace h := sl_t c1 h
      refine sa_iconst C dX0_hiderOf_94 ic_m1 ?_
      exact sa_iret C dX0_hiderOf_95 (Option.some.inj h) rfl
    · replace h := sl_n c1 h
      refine sa_iload_n C dX0_hiderOf_55 rfl 1 rfl ?_
      refine sa_iload C dX0_hiderOf_56 3 rfl ?_
      refine sa_iload C dX0_hiderOf_58 6 rfl ?_
      refine sa_imul C dX0_hiderOf_60 ?_
      refine sa_iadd C dX0_hiderOf_61 ?_
      refine sa_istore C dX0_hiderOf_62 (by decide) (lv2 := [(9, .int (x3 + (x5 * x8))), (0, .ref (g (9 * j))), (3, .int x3), (4, .int x4), (5, .int x5), (6, .int x6), (7, .int x7), (8, .int x8)]) rfl ?_
      refine sa_aload_n C dX0_hiderOf_64 rfl 1 rfl ?_
      refine sa_getR C hh_X0 (k := 3) dX0_hiderOf_65 q_127 (by decide) (lx_o hj) rfl ?_
      refine sa_iload C dX0_hiderOf_68 0 rfl ?_
      obtain ⟨v2, ev2, h⟩ := sl_b h
      refine sa_iald C dX0_hiderOf_70 (lx_a4 hj) ev2 ?_
      refine sa_iload C dX0_hiderOf_71 3 rfl ?_
      refine sa_isub C dX0_hiderOf_73 ?_
      refine sa_iload C dX0_hiderOf_74 5 rfl ?_
      refine sa_imul C dX0_hiderOf_76 ?_
      refine sa_iload C dX0_hiderOf_77 6 rfl ?_
      refine sa_iload C dX0_hiderOf_79 7 rfl ?_
      refine sa_imul C dX0_hiderOf_81 ?_
      refine sa_icmp_lt C dX0_hiderOf_82 (tgt := 88) (by decide) (fun c3 => ?_) (fun c3 => ?_)
      · replace h := sl_t c3 h
        refine sa_iinc C dX0_hiderOf_88 7 rfl (v := (x8 + (1 : Int32))) (by rw [ic_1]) (by decide) (lv2 := [(8, .int (x8 + (1 : Int32))), (9, .int (x3 + (x5 * x8))), (0, .ref (g (9 * j))), (3, .int x3), (4, .int x4), (5, .int x5), (6, .int x6), (7, .int x7)]) rfl ?_
        refine sa_goto C dX0_hiderOf_91 (tgt := 48) (by decide) ?_
        exact sa_sub [2, 3, 4, 5, 6, 7, 0] rfl (ih h)
      · replace h := sl_n c3 h
        refine sa_iload C dX0_hiderOf_85 0 rfl ?_
        exact sa_iret C dX0_hiderOf_87 (Option.some.inj h) rfl
theorem w0_hiderOf_24 {D : va_G} {cA : ClassId} {g : Nat → Nat} {A : Nat → Prop} {z : sl_K} {l : Launch} {p : Program} {e : Env} {R : Room} {s : State} {m : MethodId} {args : Array Value} {below : List Frame} {meth : Method} {c : Code} (C : sl_C RX0 cX0_hiderOf 10 (some .int) sl_cl LX D cA g A z p s m meth c) (hR : 1 ≤ R.frames ∧ 21 ≤ R.locals) {j : Nat} (hj : j < 3) {M : sl_M} {r : Int32} {x2 : Int32} {x3 : Int32} {x4 : Int32} {t0 : Int32} (h : f0_hiderOf_24 j x2 x3 x4 t0 M = some r) : sl_A sl_cl LX D cA g A p l e R s m args below meth c (MQ below (sl_Q sl_cl LX D cA g A (some (.int r)) M) args s 0 0 A) 10 24 [(0, .ref (g (9 * j))), (2, .int x2), (3, .int x3), (4, .int x4)] [.int t0] M := by
  rw [f0_hiderOf_24] at h
  refine sa_istore C dX0_hiderOf_24 (by decide) (lv2 := [(5, .int t0), (0, .ref (g (9 * j))), (2, .int x2), (3, .int x3), (4, .int x4)]) rfl ?_
  refine sa_iload_n C dX0_hiderOf_26 rfl 2 rfl ?_
  refine sa_iload_n C dX0_hiderOf_27 rfl 3 rfl ?_
  refine sa_isub C dX0_hiderOf_28 ?_
  refine sa_mabs C dX0_hiderOf_29 q_415 q_416 q_100 q_417 (Nat.le_of_ble_eq_true rfl) ⟨Nat.le_trans (Nat.le_of_ble_eq_true rfl) hR.1, Nat.le_trans (Nat.le_of_ble_eq_true rfl) hR.2⟩ ?_
  refine sa_istore C dX0_hiderOf_32 (by decide) (lv2 := [(6, .int (sl_ab (x2 - x3))), (5, .int t0), (0, .ref (g (9 * j))), (2, .int x2), (3, .int x3), (4, .int x4)]) rfl ?_
  refine sa_aload_n C dX0_hiderOf_34 rfl 2 rfl ?_
  refine sa_getR C hh_X0 (k := 3) dX0_hiderOf_35 q_127 (by decide) (lx_o hj) rfl ?_
  refine sa_iload_n C dX0_hiderOf_38 rfl 3 rfl ?_
  obtain ⟨v1, ev1, h⟩ := sl_b h
  refine sa_iald C dX0_hiderOf_39 (lx_a4 hj) ev1 ?_
  refine sa_iload C dX0_hiderOf_40 5 rfl ?_
  refine sa_isub C dX0_hiderOf_42 ?_
  refine sa_istore C dX0_hiderOf_43 (by decide) (lv2 := [(7, .int (v1 - x4)), (6, .int (sl_ab (x2 - x3))), (5, .int t0), (0, .ref (g (9 * j))), (2, .int x2), (3, .int x3), (4, .int x4)]) rfl ?_
  refine sa_iconst C dX0_hiderOf_45 ic_1 ?_
  refine sa_istore C dX0_hiderOf_46 (by decide) (lv2 := [(8, .int (1 : Int32)), (7, .int (v1 - x4)), (6, .int (sl_ab (x2 - x3))), (5, .int t0), (0, .ref (g (9 * j))), (2, .int x2), (3, .int x3), (4, .int x4)]) rfl ?_
  exact sa_sub [4, 6, 7, 3, 2, 1, 0] rfl (w0_hiderOf_48 C hR hj 400 h)
theorem cc0_hiderOf {D : va_G} {cA : ClassId} {g : Nat → Nat} {A : Nat → Prop} {z : sl_K} {l : Launch} {j : Nat} {x1 : Int32} {x2 : Int32} (hj : j < 3) {M : sl_M} {r : Int32} (h : f0_hiderOf j x1 x2 M = some r) : sl_N sl_cl LX D cA g A z l yX0_hiderOf cX0_hiderOf 10 (some .int) 1 21 [.ref (g (9 * j)), .int x1, .int x2] M (some (.int r)) M := by
  refine sl_N.of (by decide) (Nat.le_of_ble_eq_true rfl) rfl ?_
  intro p e s m args below meth c C
  replace C : sl_C RX0 cX0_hiderOf 10 (some .int) sl_cl LX D cA g A z p s m meth c := C
  have hR : 1 ≤ (({ frames := 1, cells := 0, slots := 0, locals := 21 } : Room)).frames ∧ 21 ≤ (({ frames := 1, cells := 0, slots := 0, locals := 21 } : Room)).locals := ⟨Nat.le_refl _, Nat.le_refl _⟩
  rw [f0_hiderOf] at h
  refine sa_aload_n C dX0_hiderOf_0 rfl 0 rfl ?_
  refine sa_getR C hh_X0 (k := 4) dX0_hiderOf_1 q_129 (by decide) (lx_o hj) rfl ?_
  refine sa_iload_n C dX0_hiderOf_4 rfl 1 rfl ?_
  obtain ⟨v1, ev1, h⟩ := sl_b h
  refine sa_iald C dX0_hiderOf_5 (lx_a5 hj) ev1 ?_
  refine sa_istore_n C dX0_hiderOf_6 rfl (by decide) (lv2 := [(3, .int v1), (0, .ref (g (9 * j))), (1, .int x1), (2, .int x2)]) rfl ?_
  refine sa_aload_n C dX0_hiderOf_7 rfl 1 rfl ?_
  refine sa_iload_n C dX0_hiderOf_8 rfl 2 rfl ?_
  obtain ⟨r2, er2, h⟩ := sl_b h
  refine sa_invVi C yy_X0_eyeOf ⟨q_339, q_9⟩ q_385 dX0_hiderOf_9 (As := [.int x1]) (rest := []) rfl ⟨Nat.le_trans (Nat.le_of_ble_eq_true rfl) hR.1, Nat.le_trans (Nat.le_of_ble_eq_true rfl) hR.2⟩ (Nat.le_of_ble_eq_true rfl) hh_X0 (lx_o hj) (cc0_eyeOf hj er2) rfl ?_
  refine sa_istore C dX0_hiderOf_12 (by decide) (lv2 := [(4, .int r2), (3, .int v1), (0, .ref (g (9 * j))), (1, .int x1), (2, .int x2)]) rfl ?_
  refine sa_iload_n C dX0_hiderOf_14 rfl 4 rfl ?_
  refine sa_iload_n C dX0_hiderOf_15 rfl 1 rfl ?_
  refine sa_icmp_ge C dX0_hiderOf_16 (tgt := 23) (by decide) (fun c3 => ?_) (fun c3 => ?_)
  · replace h := sl_t c3 h
    refine sa_iconst C dX0_hiderOf_23 ic_1 ?_
    exact sa_sub [2, 4, 1, 0] rfl (w0_hiderOf_24 C hR hj h)
  · replace h := sl_n c3 h
    refine sa_iconst C dX0_hiderOf_19 ic_m1 ?_
    refine sa_goto C dX0_hiderOf_20 (tgt := 24) (by decide) ?_
    exact sa_sub [2, 4, 1, 0] rfl (w0_hiderOf_24 C hR hj h)
/-! X0 allSight -/
def f0_allSight_4 (j : Nat) (M : sl_M) : Nat → Int32 → Int32 → Option Int32
  | 0, _, _ => none
  | n + 1, x1, x2 => (if (M (9 * j) 8) ≤ x2 then some x1 else (f0_sightOf j x2 M).bind fun r2 => f0_allSight_4 j M n (x1 ||| r2) (x2 + (1 : Int32)))
def f0_allSight (j : Nat) (M : sl_M) : Option Int32 := f0_allSight_4 j M 400 (0 : Int32) (0 : Int32)
theorem w0_allSight_4 {D : va_G} {cA : ClassId} {g : Nat → Nat} {A : Nat → Prop} {z : sl_K} {l : Launch} {p : Program} {e : Env} {R : Room} {s : State} {m : MethodId} {args : Array Value} {below : List Frame} {meth : Method} {c : Code} (C : sl_C RX0 cX0_allSight 3 (some .int) sl_cl LX D cA g A z p s m meth c) (hR : 3 ≤ R.frames ∧ 74 ≤ R.locals) {j : Nat} (hj : j < 3) {M : sl_M} {r : Int32} : ∀ (n : Nat) {x1 : Int32} {x2 : Int32}, f0_allSight_4 j M n x1 x2 = some r → sl_A sl_cl LX D cA g A p l e R s m args below meth c (MQ below (sl_Q sl_cl LX D cA g A (some (.int r)) M) args s 0 0 A) 3 4 [(0, .ref (g (9 * j))), (1, .int x1), (2, .int x2)] [] M := by
  intro n
  induction n with
  | zero =>
    intro x1 x2 h
    exact absurd h.symm (Option.some_ne_none _)
  | succ n ih =>
    intro x1 x2 h
    rw [f0_allSight_4] at h
    refine sa_iload_n C dX0_allSight_4 rfl 2 rfl ?_
    refine sa_aload_n C dX0_allSight_5 rfl 0 rfl ?_
    refine sa_getI C hh_X0 (k := 8) dX0_allSight_6 q_137 (by decide) (lx_o hj) rfl ?_
    refine sa_icmp_ge C dX0_allSight_9 (tgt := 26) (by decide) (fun c1 => ?_) (fun c1 => ?_)
    · replace h := sl_t c1 h
      refine sa_iload_n C dX0_allSight_26 rfl 1 rfl ?_
      exact sa_iret C dX0_allSight_27 (Option.some.inj h) rfl
    · replace h := sl_n c1 h
      refine sa_iload_n C dX0_allSight_12 rfl 1 rfl ?_
      refine sa_aload_n C dX0_allSight_13 rfl 0 rfl ?_
      refine sa_iload_n C dX0_allSight_14 rfl 2 rfl ?_
      obtain ⟨r2, er2, h⟩ := sl_b h
      refine sa_invVi C yy_X0_sightOf ⟨q_379, q_12⟩ q_394 dX0_allSight_15 (As := [.int x2]) (rest := [.int x1]) rfl ⟨Nat.le_trans (Nat.le_of_ble_eq_true rfl) hR.1, Nat.le_trans (Nat.le_of_ble_eq_true rfl) hR.2⟩ (Nat.le_of_ble_eq_true rfl) hh_X0 (lx_o hj) (cc0_sightOf hj er2) rfl ?_
      refine sa_ior C dX0_allSight_18 ?_
      refine sa_istore_n C dX0_allSight_19 rfl (by decide) (lv2 := [(1, .int (x1 ||| r2)), (0, .ref (g (9 * j))), (2, .int x2)]) rfl ?_
      refine sa_iinc C dX0_allSight_20 2 rfl (v := (x2 + (1 : Int32))) (by rw [ic_1]) (by decide) (lv2 := [(2, .int (x2 + (1 : Int32))), (1, .int (x1 ||| r2)), (0, .ref (g (9 * j)))]) rfl ?_
      refine sa_goto C dX0_allSight_23 (tgt := 4) (by decide) ?_
      exact sa_sub [2, 1, 0] rfl (ih h)
theorem cc0_allSight {D : va_G} {cA : ClassId} {g : Nat → Nat} {A : Nat → Prop} {z : sl_K} {l : Launch} {j : Nat} (hj : j < 3) {M : sl_M} {r : Int32} (h : f0_allSight j M = some r) : sl_N sl_cl LX D cA g A z l yX0_allSight cX0_allSight 3 (some .int) 3 74 [.ref (g (9 * j))] M (some (.int r)) M := by
  refine sl_N.of (by decide) (Nat.le_of_ble_eq_true rfl) rfl ?_
  intro p e s m args below meth c C
  replace C : sl_C RX0 cX0_allSight 3 (some .int) sl_cl LX D cA g A z p s m meth c := C
  have hR : 3 ≤ (({ frames := 3, cells := 0, slots := 0, locals := 74 } : Room)).frames ∧ 74 ≤ (({ frames := 3, cells := 0, slots := 0, locals := 74 } : Room)).locals := ⟨Nat.le_refl _, Nat.le_refl _⟩
  rw [f0_allSight] at h
  refine sa_iconst C dX0_allSight_0 ic_0 ?_
  refine sa_istore_n C dX0_allSight_1 rfl (by decide) (lv2 := [(1, .int (0 : Int32)), (0, .ref (g (9 * j)))]) rfl ?_
  refine sa_iconst C dX0_allSight_2 ic_0 ?_
  refine sa_istore_n C dX0_allSight_3 rfl (by decide) (lv2 := [(2, .int (0 : Int32)), (1, .int (0 : Int32)), (0, .ref (g (9 * j)))]) rfl ?_
  exact sa_sub [2, 1, 0] rfl (w0_allSight_4 C hR hj 400 h)
/-! X0 worthSeenBy -/
def f0_worthSeenBy_22 (j : Nat) (M : sl_M) (x2 : Int32) : Nat → Int32 → Int32 → Option Int32
  | 0, _, _ => none
  | n + 1, x3, x4 => (if (24 : Int32) ≤ x4 then some x3 else (if (f0_isIn x4 x2) = 0 then f0_worthSeenBy_22 j M x2 n x3 (x4 + (1 : Int32)) else (f0_worthOf j x4 M).bind fun r3 => f0_worthSeenBy_22 j M x2 n (x3 + r3) (x4 + (1 : Int32))))
def f0_worthSeenBy (j : Nat) (x1 : Int32) (M : sl_M) : Option Int32 := (f0_sightOf j x1 M).bind fun r1 => (sl_ld (M (9 * j + 5)) 8 x1).bind fun v2 => f0_worthSeenBy_22 j M (r1 &&& (((1 : Int32) <<< (v2 &&& 31)) ^^^ (-1 : Int32))) 400 (0 : Int32) (0 : Int32)
theorem w0_worthSeenBy_22 {D : va_G} {cA : ClassId} {g : Nat → Nat} {A : Nat → Prop} {z : sl_K} {l : Launch} {p : Program} {e : Env} {R : Room} {s : State} {m : MethodId} {args : Array Value} {below : List Frame} {meth : Method} {c : Code} (C : sl_C RX0 cX0_worthSeenBy 5 (some .int) sl_cl LX D cA g A z p s m meth c) (hR : 3 ≤ R.frames ∧ 74 ≤ R.locals) {j : Nat} (hj : j < 3) {M : sl_M} {r : Int32} {x2 : Int32} : ∀ (n : Nat) {x3 : Int32} {x4 : Int32}, f0_worthSeenBy_22 j M x2 n x3 x4 = some r → sl_A sl_cl LX D cA g A p l e R s m args below meth c (MQ below (sl_Q sl_cl LX D cA g A (some (.int r)) M) args s 0 0 A) 5 22 [(0, .ref (g (9 * j))), (2, .int x2), (3, .int x3), (4, .int x4)] [] M := by
  intro n
  induction n with
  | zero =>
    intro x3 x4 h
    exact absurd h.symm (Option.some_ne_none _)
  | succ n ih =>
    intro x3 x4 h
    rw [f0_worthSeenBy_22] at h
    refine sa_iload C dX0_worthSeenBy_22 3 rfl ?_
    refine sa_bipush C dX0_worthSeenBy_24 bp_24 ?_
    refine sa_icmp_ge C dX0_worthSeenBy_26 (tgt := 53) (by decide) (fun c1 => ?_) (fun c1 => ?_)
    · replace h := sl_t c1 h
      refine sa_iload_n C dX0_worthSeenBy_53 rfl 2 rfl ?_
      exact sa_iret C dX0_worthSeenBy_54 (Option.some.inj h) rfl
    · replace h := sl_n c1 h
      refine sa_iload C dX0_worthSeenBy_29 3 rfl ?_
      refine sa_iload_n C dX0_worthSeenBy_31 rfl 1 rfl ?_
      refine sa_invSi C yy_X0_isIn q_396 q_395 dX0_worthSeenBy_32 (As := [.int x4, .int x2]) (rest := []) rfl ⟨Nat.le_trans (Nat.le_of_ble_eq_true rfl) hR.1, Nat.le_trans (Nat.le_of_ble_eq_true rfl) hR.2⟩ (Nat.le_of_ble_eq_true rfl) (cc0_isIn rfl) rfl ?_
      refine sa_if_eq C dX0_worthSeenBy_35 (tgt := 47) (by decide) (fun c2 => ?_) (fun c2 => ?_)
      · replace h := sl_t c2 h
        refine sa_iinc C dX0_worthSeenBy_47 3 rfl (v := (x4 + (1 : Int32))) (by rw [ic_1]) (by decide) (lv2 := [(4, .int (x4 + (1 : Int32))), (0, .ref (g (9 * j))), (2, .int x2), (3, .int x3)]) rfl ?_
        refine sa_goto C dX0_worthSeenBy_50 (tgt := 22) (by decide) ?_
        exact sa_sub [1, 2, 3, 0] rfl (ih h)
      · replace h := sl_n c2 h
        refine sa_iload_n C dX0_worthSeenBy_38 rfl 2 rfl ?_
        refine sa_aload_n C dX0_worthSeenBy_39 rfl 0 rfl ?_
        refine sa_iload C dX0_worthSeenBy_40 3 rfl ?_
        obtain ⟨r3, er3, h⟩ := sl_b h
        refine sa_invVi C yy_X0_worthOf ⟨q_310, q_5⟩ q_434 dX0_worthSeenBy_42 (As := [.int x4]) (rest := [.int x3]) rfl ⟨Nat.le_trans (Nat.le_of_ble_eq_true rfl) hR.1, Nat.le_trans (Nat.le_of_ble_eq_true rfl) hR.2⟩ (Nat.le_of_ble_eq_true rfl) hh_X0 (lx_o hj) (cc0_worthOf hj er3) rfl ?_
        refine sa_iadd C dX0_worthSeenBy_45 ?_
        refine sa_istore_n C dX0_worthSeenBy_46 rfl (by decide) (lv2 := [(3, .int (x3 + r3)), (0, .ref (g (9 * j))), (2, .int x2), (4, .int x4)]) rfl ?_
        refine sa_iinc C dX0_worthSeenBy_47 3 rfl (v := (x4 + (1 : Int32))) (by rw [ic_1]) (by decide) (lv2 := [(4, .int (x4 + (1 : Int32))), (3, .int (x3 + r3)), (0, .ref (g (9 * j))), (2, .int x2)]) rfl ?_
        refine sa_goto C dX0_worthSeenBy_50 (tgt := 22) (by decide) ?_
        exact sa_sub [2, 3, 1, 0] rfl (ih h)
theorem cc0_worthSeenBy {D : va_G} {cA : ClassId} {g : Nat → Nat} {A : Nat → Prop} {z : sl_K} {l : Launch} {j : Nat} {x1 : Int32} (hj : j < 3) {M : sl_M} {r : Int32} (h : f0_worthSeenBy j x1 M = some r) : sl_N sl_cl LX D cA g A z l yX0_worthSeenBy cX0_worthSeenBy 5 (some .int) 3 74 [.ref (g (9 * j)), .int x1] M (some (.int r)) M := by
  refine sl_N.of (by decide) (Nat.le_of_ble_eq_true rfl) rfl ?_
  intro p e s m args below meth c C
  replace C : sl_C RX0 cX0_worthSeenBy 5 (some .int) sl_cl LX D cA g A z p s m meth c := C
  have hR : 3 ≤ (({ frames := 3, cells := 0, slots := 0, locals := 74 } : Room)).frames ∧ 74 ≤ (({ frames := 3, cells := 0, slots := 0, locals := 74 } : Room)).locals := ⟨Nat.le_refl _, Nat.le_refl _⟩
  rw [f0_worthSeenBy] at h
  refine sa_aload_n C dX0_worthSeenBy_0 rfl 0 rfl ?_
  refine sa_iload_n C dX0_worthSeenBy_1 rfl 1 rfl ?_
  obtain ⟨r1, er1, h⟩ := sl_b h
  refine sa_invVi C yy_X0_sightOf ⟨q_379, q_12⟩ q_394 dX0_worthSeenBy_2 (As := [.int x1]) (rest := []) rfl ⟨Nat.le_trans (Nat.le_of_ble_eq_true rfl) hR.1, Nat.le_trans (Nat.le_of_ble_eq_true rfl) hR.2⟩ (Nat.le_of_ble_eq_true rfl) hh_X0 (lx_o hj) (cc0_sightOf hj er1) rfl ?_
  refine sa_iconst C dX0_worthSeenBy_5 ic_1 ?_
  refine sa_aload_n C dX0_worthSeenBy_6 rfl 0 rfl ?_
  refine sa_getR C hh_X0 (k := 4) dX0_worthSeenBy_7 q_129 (by decide) (lx_o hj) rfl ?_
  refine sa_iload_n C dX0_worthSeenBy_10 rfl 1 rfl ?_
  obtain ⟨v2, ev2, h⟩ := sl_b h
  refine sa_iald C dX0_worthSeenBy_11 (lx_a5 hj) ev2 ?_
  refine sa_ishl C dX0_worthSeenBy_12 ?_
  refine sa_iconst C dX0_worthSeenBy_13 ic_m1 ?_
  refine sa_ixor C dX0_worthSeenBy_14 ?_
  refine sa_iand C dX0_worthSeenBy_15 ?_
  refine sa_istore_n C dX0_worthSeenBy_16 rfl (by decide) (lv2 := [(2, .int (r1 &&& (((1 : Int32) <<< (v2 &&& 31)) ^^^ (-1 : Int32)))), (0, .ref (g (9 * j))), (1, .int x1)]) rfl ?_
  refine sa_iconst C dX0_worthSeenBy_17 ic_0 ?_
  refine sa_istore_n C dX0_worthSeenBy_18 rfl (by decide) (lv2 := [(3, .int (0 : Int32)), (2, .int (r1 &&& (((1 : Int32) <<< (v2 &&& 31)) ^^^ (-1 : Int32)))), (0, .ref (g (9 * j))), (1, .int x1)]) rfl ?_
  refine sa_iconst C dX0_worthSeenBy_19 ic_0 ?_
  refine sa_istore C dX0_worthSeenBy_20 (by decide) (lv2 := [(4, .int (0 : Int32)), (3, .int (0 : Int32)), (2, .int (r1 &&& (((1 : Int32) <<< (v2 &&& 31)) ^^^ (-1 : Int32)))), (0, .ref (g (9 * j))), (1, .int x1)]) rfl ?_
  exact sa_sub [3, 2, 1, 0] rfl (w0_worthSeenBy_22 C hR hj 400 h)
/-! X0 taxFor -/
def f0_taxFor (x0 : Int32) (x1 : Int32) : Int32 := ((x0 * x1) / (10 : Int32))
theorem cc0_taxFor {D : va_G} {cA : ClassId} {g : Nat → Nat} {A : Nat → Prop} {z : sl_K} {l : Launch} {x0 : Int32} {x1 : Int32} {M : sl_M} {r : Int32} (h : f0_taxFor x0 x1 = r) : sl_N sl_cl LX D cA g A z l yX0_taxFor cX0_taxFor 2 (some .int) 0 0 [.int x0, .int x1] M (some (.int r)) M := by
  refine sl_N.of (by decide) (Nat.le_of_ble_eq_true rfl) rfl ?_
  intro p e s m args below meth c C
  replace C : sl_C RX0 cX0_taxFor 2 (some .int) sl_cl LX D cA g A z p s m meth c := C
  have hR : 0 ≤ (({ frames := 0, cells := 0, slots := 0, locals := 0 } : Room)).frames ∧ 0 ≤ (({ frames := 0, cells := 0, slots := 0, locals := 0 } : Room)).locals := ⟨Nat.le_refl _, Nat.le_refl _⟩
  rw [f0_taxFor] at h
  refine sa_iload_n C dX0_taxFor_0 rfl 0 rfl ?_
  refine sa_iload_n C dX0_taxFor_1 rfl 1 rfl ?_
  refine sa_imul C dX0_taxFor_2 ?_
  refine sa_bipush C dX0_taxFor_3 bp_10 ?_
  refine sa_idivc C dX0_taxFor_5 (by decide) ?_
  exact sa_iret C dX0_taxFor_6 h rfl
/-! X0 taxOf -/
def f0_taxOf (j : Nat) (x1 : Int32) (M : sl_M) : Option Int32 := (f0_worthSeenBy j x1 M).bind fun r1 => some (f0_taxFor r1 (M (9 * j) 10))
theorem cc0_taxOf {D : va_G} {cA : ClassId} {g : Nat → Nat} {A : Nat → Prop} {z : sl_K} {l : Launch} {j : Nat} {x1 : Int32} (hj : j < 3) {M : sl_M} {r : Int32} (h : f0_taxOf j x1 M = some r) : sl_N sl_cl LX D cA g A z l yX0_taxOf cX0_taxOf 2 (some .int) 4 98 [.ref (g (9 * j)), .int x1] M (some (.int r)) M := by
  refine sl_N.of (by decide) (Nat.le_of_ble_eq_true rfl) rfl ?_
  intro p e s m args below meth c C
  replace C : sl_C RX0 cX0_taxOf 2 (some .int) sl_cl LX D cA g A z p s m meth c := C
  have hR : 4 ≤ (({ frames := 4, cells := 0, slots := 0, locals := 98 } : Room)).frames ∧ 98 ≤ (({ frames := 4, cells := 0, slots := 0, locals := 98 } : Room)).locals := ⟨Nat.le_refl _, Nat.le_refl _⟩
  rw [f0_taxOf] at h
  refine sa_aload_n C dX0_taxOf_0 rfl 0 rfl ?_
  refine sa_iload_n C dX0_taxOf_1 rfl 1 rfl ?_
  obtain ⟨r1, er1, h⟩ := sl_b h
  refine sa_invVi C yy_X0_worthSeenBy ⟨q_432, q_18⟩ q_430 dX0_taxOf_2 (As := [.int x1]) (rest := []) rfl ⟨Nat.le_trans (Nat.le_of_ble_eq_true rfl) hR.1, Nat.le_trans (Nat.le_of_ble_eq_true rfl) hR.2⟩ (Nat.le_of_ble_eq_true rfl) hh_X0 (lx_o hj) (cc0_worthSeenBy hj er1) rfl ?_
  refine sa_aload_n C dX0_taxOf_5 rfl 0 rfl ?_
  refine sa_getI C hh_X0 (k := 10) dX0_taxOf_6 q_142 (by decide) (lx_o hj) rfl ?_
  refine sa_invSi C yy_X0_taxFor q_436 q_435 dX0_taxOf_9 (As := [.int r1, .int (M (9 * j) 10)]) (rest := []) rfl ⟨Nat.le_trans (Nat.le_of_ble_eq_true rfl) hR.1, Nat.le_trans (Nat.le_of_ble_eq_true rfl) hR.2⟩ (Nat.le_of_ble_eq_true rfl) (cc0_taxFor rfl) rfl ?_
  exact sa_iret C dX0_taxOf_12 (Option.some.inj h) rfl
/-! X0 allTax -/
def f0_allTax_4 (j : Nat) (M : sl_M) : Nat → Int32 → Int32 → Option Int32
  | 0, _, _ => none
  | n + 1, x1, x2 => (if (M (9 * j) 8) ≤ x2 then some x1 else (f0_taxOf j x2 M).bind fun r2 => f0_allTax_4 j M n (x1 + r2) (x2 + (1 : Int32)))
def f0_allTax (j : Nat) (M : sl_M) : Option Int32 := f0_allTax_4 j M 400 (0 : Int32) (0 : Int32)
theorem w0_allTax_4 {D : va_G} {cA : ClassId} {g : Nat → Nat} {A : Nat → Prop} {z : sl_K} {l : Launch} {p : Program} {e : Env} {R : Room} {s : State} {m : MethodId} {args : Array Value} {below : List Frame} {meth : Method} {c : Code} (C : sl_C RX0 cX0_allTax 3 (some .int) sl_cl LX D cA g A z p s m meth c) (hR : 5 ≤ R.frames ∧ 119 ≤ R.locals) {j : Nat} (hj : j < 3) {M : sl_M} {r : Int32} : ∀ (n : Nat) {x1 : Int32} {x2 : Int32}, f0_allTax_4 j M n x1 x2 = some r → sl_A sl_cl LX D cA g A p l e R s m args below meth c (MQ below (sl_Q sl_cl LX D cA g A (some (.int r)) M) args s 0 0 A) 3 4 [(0, .ref (g (9 * j))), (1, .int x1), (2, .int x2)] [] M := by
  intro n
  induction n with
  | zero =>
    intro x1 x2 h
    exact absurd h.symm (Option.some_ne_none _)
  | succ n ih =>
    intro x1 x2 h
    rw [f0_allTax_4] at h
    refine sa_iload_n C dX0_allTax_4 rfl 2 rfl ?_
    refine sa_aload_n C dX0_allTax_5 rfl 0 rfl ?_
    refine sa_getI C hh_X0 (k := 8) dX0_allTax_6 q_137 (by decide) (lx_o hj) rfl ?_
    refine sa_icmp_ge C dX0_allTax_9 (tgt := 26) (by decide) (fun c1 => ?_) (fun c1 => ?_)
    · replace h := sl_t c1 h
      refine sa_iload_n C dX0_allTax_26 rfl 1 rfl ?_
      exact sa_iret C dX0_allTax_27 (Option.some.inj h) rfl
    · replace h := sl_n c1 h
      refine sa_iload_n C dX0_allTax_12 rfl 1 rfl ?_
      refine sa_aload_n C dX0_allTax_13 rfl 0 rfl ?_
      refine sa_iload_n C dX0_allTax_14 rfl 2 rfl ?_
      obtain ⟨r2, er2, h⟩ := sl_b h
      refine sa_invVi C yy_X0_taxOf ⟨q_428, q_17⟩ q_446 dX0_allTax_15 (As := [.int x2]) (rest := [.int x1]) rfl ⟨Nat.le_trans (Nat.le_of_ble_eq_true rfl) hR.1, Nat.le_trans (Nat.le_of_ble_eq_true rfl) hR.2⟩ (Nat.le_of_ble_eq_true rfl) hh_X0 (lx_o hj) (cc0_taxOf hj er2) rfl ?_
      refine sa_iadd C dX0_allTax_18 ?_
      refine sa_istore_n C dX0_allTax_19 rfl (by decide) (lv2 := [(1, .int (x1 + r2)), (0, .ref (g (9 * j))), (2, .int x2)]) rfl ?_
      refine sa_iinc C dX0_allTax_20 2 rfl (v := (x2 + (1 : Int32))) (by rw [ic_1]) (by decide) (lv2 := [(2, .int (x2 + (1 : Int32))), (1, .int (x1 + r2)), (0, .ref (g (9 * j)))]) rfl ?_
      refine sa_goto C dX0_allTax_23 (tgt := 4) (by decide) ?_
      exact sa_sub [2, 1, 0] rfl (ih h)
theorem cc0_allTax {D : va_G} {cA : ClassId} {g : Nat → Nat} {A : Nat → Prop} {z : sl_K} {l : Launch} {j : Nat} (hj : j < 3) {M : sl_M} {r : Int32} (h : f0_allTax j M = some r) : sl_N sl_cl LX D cA g A z l yX0_allTax cX0_allTax 3 (some .int) 5 119 [.ref (g (9 * j))] M (some (.int r)) M := by
  refine sl_N.of (by decide) (Nat.le_of_ble_eq_true rfl) rfl ?_
  intro p e s m args below meth c C
  replace C : sl_C RX0 cX0_allTax 3 (some .int) sl_cl LX D cA g A z p s m meth c := C
  have hR : 5 ≤ (({ frames := 5, cells := 0, slots := 0, locals := 119 } : Room)).frames ∧ 119 ≤ (({ frames := 5, cells := 0, slots := 0, locals := 119 } : Room)).locals := ⟨Nat.le_refl _, Nat.le_refl _⟩
  rw [f0_allTax] at h
  refine sa_iconst C dX0_allTax_0 ic_0 ?_
  refine sa_istore_n C dX0_allTax_1 rfl (by decide) (lv2 := [(1, .int (0 : Int32)), (0, .ref (g (9 * j)))]) rfl ?_
  refine sa_iconst C dX0_allTax_2 ic_0 ?_
  refine sa_istore_n C dX0_allTax_3 rfl (by decide) (lv2 := [(2, .int (0 : Int32)), (1, .int (0 : Int32)), (0, .ref (g (9 * j)))]) rfl ?_
  exact sa_sub [2, 1, 0] rfl (w0_allTax_4 C hR hj 400 h)
/-! X0 draw -/
def f0_draw (j : Nat) (M : sl_M) : Option (Int32 × sl_M) := some ((((sl_up M (9 * j) 12 (((M (9 * j) 12) * (1103515245 : Int32)) + (12345 : Int32))) (9 * j) 12).toUInt32 >>> ((8 : Int32).toUInt32 &&& Int32.toUInt32 31)).toInt32, (sl_up M (9 * j) 12 (((M (9 * j) 12) * (1103515245 : Int32)) + (12345 : Int32))))
theorem cc0_draw {D : va_G} {cA : ClassId} {g : Nat → Nat} {A : Nat → Prop} {z : sl_K} {l : Launch} {j : Nat} (hj : j < 3) {M : sl_M} {r : Int32 × sl_M} (h : f0_draw j M = some r) : sl_N sl_cl LX D cA g A z l yX0_draw cX0_draw 1 (some .int) 0 0 [.ref (g (9 * j))] M (some (.int r.1)) r.2 := by
  refine sl_N.of (by decide) (Nat.le_of_ble_eq_true rfl) rfl ?_
  intro p e s m args below meth c C
  replace C : sl_C RX0 cX0_draw 1 (some .int) sl_cl LX D cA g A z p s m meth c := C
  have hR : 0 ≤ (({ frames := 0, cells := 0, slots := 0, locals := 0 } : Room)).frames ∧ 0 ≤ (({ frames := 0, cells := 0, slots := 0, locals := 0 } : Room)).locals := ⟨Nat.le_refl _, Nat.le_refl _⟩
  rw [f0_draw] at h
  refine sa_aload_n C dX0_draw_0 rfl 0 rfl ?_
  refine sa_aload_n C dX0_draw_1 rfl 0 rfl ?_
  refine sa_getI C hh_X0 (k := 12) dX0_draw_2 q_147 (by decide) (lx_o hj) rfl ?_
  refine sa_ldc C dX0_draw_5 q_583 ?_
  refine sa_imul C dX0_draw_7 ?_
  refine sa_sipush C dX0_draw_8 sp_12345 ?_
  refine sa_iadd C dX0_draw_11 ?_
  refine sa_put C hh_X0 (k := 12) dX0_draw_12 q_147 (by decide) rfl (fty := .int) (by decide) rfl rfl (lx_o hj) rfl ?_
  refine sa_aload_n C dX0_draw_15 rfl 0 rfl ?_
  refine sa_getI C hh_X0 (k := 12) dX0_draw_16 q_147 (by decide) (lx_o hj) rfl ?_
  refine sa_bipush C dX0_draw_19 bp_8 ?_
  refine sa_iushr C dX0_draw_21 ?_
  exact sa_iret C dX0_draw_22 (sl_p1 h) (sl_p2 h)
/-! X0 spotsInUse -/
def f0_spotsInUse_4 (j : Nat) (M : sl_M) : Nat → Int32 → Int32 → Option Int32
  | 0, _, _ => none
  | n + 1, x1, x2 => (if (10 : Int32) ≤ x2 then some x1 else (sl_ld (M (9 * j + 8)) 10 x2).bind fun v2 => (if v2 = (-1 : Int32) then f0_spotsInUse_4 j M n x1 (x2 + (1 : Int32)) else f0_spotsInUse_4 j M n (x1 + (1 : Int32)) (x2 + (1 : Int32))))
def f0_spotsInUse (j : Nat) (M : sl_M) : Option Int32 := f0_spotsInUse_4 j M 400 (0 : Int32) (0 : Int32)
theorem w0_spotsInUse_4 {D : va_G} {cA : ClassId} {g : Nat → Nat} {A : Nat → Prop} {z : sl_K} {l : Launch} {p : Program} {e : Env} {R : Room} {s : State} {m : MethodId} {args : Array Value} {below : List Frame} {meth : Method} {c : Code} (C : sl_C RX0 cX0_spotsInUse 3 (some .int) sl_cl LX D cA g A z p s m meth c) (hR : 0 ≤ R.frames ∧ 0 ≤ R.locals) {j : Nat} (hj : j < 3) {M : sl_M} {r : Int32} : ∀ (n : Nat) {x1 : Int32} {x2 : Int32}, f0_spotsInUse_4 j M n x1 x2 = some r → sl_A sl_cl LX D cA g A p l e R s m args below meth c (MQ below (sl_Q sl_cl LX D cA g A (some (.int r)) M) args s 0 0 A) 3 4 [(0, .ref (g (9 * j))), (1, .int x1), (2, .int x2)] [] M := by
  intro n
  induction n with
  | zero =>
    intro x1 x2 h
    exact absurd h.symm (Option.some_ne_none _)
  | succ n ih =>
    intro x1 x2 h
    rw [f0_spotsInUse_4] at h
    refine sa_iload_n C dX0_spotsInUse_4 rfl 2 rfl ?_
    refine sa_bipush C dX0_spotsInUse_5 bp_10 ?_
    refine sa_icmp_ge C dX0_spotsInUse_7 (tgt := 29) (by decide) (fun c1 => ?_) (fun c1 => ?_)
    · replace h := sl_t c1 h
      refine sa_iload_n C dX0_spotsInUse_29 rfl 1 rfl ?_
      exact sa_iret C dX0_spotsInUse_30 (Option.some.inj h) rfl
    · replace h := sl_n c1 h
      refine sa_aload_n C dX0_spotsInUse_10 rfl 0 rfl ?_
      refine sa_getR C hh_X0 (k := 7) dX0_spotsInUse_11 q_135 (by decide) (lx_o hj) rfl ?_
      refine sa_iload_n C dX0_spotsInUse_14 rfl 2 rfl ?_
      obtain ⟨v2, ev2, h⟩ := sl_b h
      refine sa_iald C dX0_spotsInUse_15 (lx_a8 hj) ev2 ?_
      refine sa_iconst C dX0_spotsInUse_16 ic_m1 ?_
      refine sa_icmp_eq C dX0_spotsInUse_17 (tgt := 23) (by decide) (fun c3 => ?_) (fun c3 => ?_)
      · replace h := sl_t c3 h
        refine sa_iinc C dX0_spotsInUse_23 2 rfl (v := (x2 + (1 : Int32))) (by rw [ic_1]) (by decide) (lv2 := [(2, .int (x2 + (1 : Int32))), (0, .ref (g (9 * j))), (1, .int x1)]) rfl ?_
        refine sa_goto C dX0_spotsInUse_26 (tgt := 4) (by decide) ?_
        exact sa_sub [1, 2, 0] rfl (ih h)
      · replace h := sl_n c3 h
        refine sa_iinc C dX0_spotsInUse_20 1 rfl (v := (x1 + (1 : Int32))) (by rw [ic_1]) (by decide) (lv2 := [(1, .int (x1 + (1 : Int32))), (0, .ref (g (9 * j))), (2, .int x2)]) rfl ?_
        refine sa_iinc C dX0_spotsInUse_23 2 rfl (v := (x2 + (1 : Int32))) (by rw [ic_1]) (by decide) (lv2 := [(2, .int (x2 + (1 : Int32))), (1, .int (x1 + (1 : Int32))), (0, .ref (g (9 * j)))]) rfl ?_
        refine sa_goto C dX0_spotsInUse_26 (tgt := 4) (by decide) ?_
        exact sa_sub [2, 1, 0] rfl (ih h)
theorem cc0_spotsInUse {D : va_G} {cA : ClassId} {g : Nat → Nat} {A : Nat → Prop} {z : sl_K} {l : Launch} {j : Nat} (hj : j < 3) {M : sl_M} {r : Int32} (h : f0_spotsInUse j M = some r) : sl_N sl_cl LX D cA g A z l yX0_spotsInUse cX0_spotsInUse 3 (some .int) 0 0 [.ref (g (9 * j))] M (some (.int r)) M := by
  refine sl_N.of (by decide) (Nat.le_of_ble_eq_true rfl) rfl ?_
  intro p e s m args below meth c C
  replace C : sl_C RX0 cX0_spotsInUse 3 (some .int) sl_cl LX D cA g A z p s m meth c := C
  have hR : 0 ≤ (({ frames := 0, cells := 0, slots := 0, locals := 0 } : Room)).frames ∧ 0 ≤ (({ frames := 0, cells := 0, slots := 0, locals := 0 } : Room)).locals := ⟨Nat.le_refl _, Nat.le_refl _⟩
  rw [f0_spotsInUse] at h
  refine sa_iconst C dX0_spotsInUse_0 ic_0 ?_
  refine sa_istore_n C dX0_spotsInUse_1 rfl (by decide) (lv2 := [(1, .int (0 : Int32)), (0, .ref (g (9 * j)))]) rfl ?_
  refine sa_iconst C dX0_spotsInUse_2 ic_0 ?_
  refine sa_istore_n C dX0_spotsInUse_3 rfl (by decide) (lv2 := [(2, .int (0 : Int32)), (1, .int (0 : Int32)), (0, .ref (g (9 * j)))]) rfl ?_
  exact sa_sub [2, 1, 0] rfl (w0_spotsInUse_4 C hR hj 400 h)
/-! X1 isSheet -/
def f1_isSheet (x0 : Int32) : Int32 := (if x0 < 0 then (0 : Int32) else (if (4 : Int32) ≤ x0 then (0 : Int32) else (1 : Int32)))
theorem f1_isSheet_b {x0 : Int32} : f1_isSheet x0 = 0 ∨ f1_isSheet x0 = 1 := by
  rw [f1_isSheet]
  first | exact if_b | ((repeat' split) <;> first | exact Or.inl rfl | exact Or.inr rfl)
theorem cc1_isSheet {D : va_G} {cA : ClassId} {g : Nat → Nat} {A : Nat → Prop} {z : sl_K} {l : Launch} {x0 : Int32} {M : sl_M} {r : Int32} (h : f1_isSheet x0 = r) : sl_N sl_cl LX D cA g A z l yX1_isSheet cX1_isSheet 1 (some .boolean) 0 0 [.int x0] M (some (.int r)) M := by
  refine sl_N.of (by decide) (Nat.le_of_ble_eq_true rfl) rfl ?_
  intro p e s m args below meth c C
  replace C : sl_C RX1 cX1_isSheet 1 (some .boolean) sl_cl LX D cA g A z p s m meth c := C
  have hR : 0 ≤ (({ frames := 0, cells := 0, slots := 0, locals := 0 } : Room)).frames ∧ 0 ≤ (({ frames := 0, cells := 0, slots := 0, locals := 0 } : Room)).locals := ⟨Nat.le_refl _, Nat.le_refl _⟩
  rw [f1_isSheet] at h
  refine sa_iload_n C dX1_isSheet_0 rfl 0 rfl ?_
  refine sa_if_lt C dX1_isSheet_1 (tgt := 13) (by decide) (fun c1 => ?_) (fun c1 => ?_)
  · replace h := sl_t c1 h
    refine sa_iconst C dX1_isSheet_13 ic_0 ?_
    exact sa_zret C dX1_isSheet_14 (Or.inl rfl) h rfl
  · replace h := sl_n c1 h
    refine sa_iload_n C dX1_isSheet_4 rfl 0 rfl ?_
    refine sa_iconst C dX1_isSheet_5 ic_4 ?_
    refine sa_icmp_ge C dX1_isSheet_6 (tgt := 13) (by decide) (fun c2 => ?_) (fun c2 => ?_)
    · replace h := sl_t c2 h
      refine sa_iconst C dX1_isSheet_13 ic_0 ?_
      exact sa_zret C dX1_isSheet_14 (Or.inl rfl) h rfl
    · replace h := sl_n c2 h
      refine sa_iconst C dX1_isSheet_9 ic_1 ?_
      refine sa_goto C dX1_isSheet_10 (tgt := 14) (by decide) ?_
      exact sa_zret C dX1_isSheet_14 (Or.inr rfl) h rfl
/-! X1 isMissing -/
def f1_isMissing (x1 : Int32) (M : sl_M) : Option Int32 := (sl_ld (M 32) 4 x1).bind fun v1 => (if v1 = 0 then some (1 : Int32) else some (0 : Int32))
theorem cc1_isMissing {D : va_G} {cA : ClassId} {g : Nat → Nat} {A : Nat → Prop} {z : sl_K} {l : Launch} {x1 : Int32} {M : sl_M} {r : Int32} (h : f1_isMissing x1 M = some r) : sl_N sl_cl LX D cA g A z l yX1_isMissing cX1_isMissing 2 (some .boolean) 0 0 [.ref (g 31), .int x1] M (some (.int r)) M := by
  refine sl_N.of (by decide) (Nat.le_of_ble_eq_true rfl) rfl ?_
  intro p e s m args below meth c C
  replace C : sl_C RX1 cX1_isMissing 2 (some .boolean) sl_cl LX D cA g A z p s m meth c := C
  have hR : 0 ≤ (({ frames := 0, cells := 0, slots := 0, locals := 0 } : Room)).frames ∧ 0 ≤ (({ frames := 0, cells := 0, slots := 0, locals := 0 } : Room)).locals := ⟨Nat.le_refl _, Nat.le_refl _⟩
  rw [f1_isMissing] at h
  refine sa_aload_n C dX1_isMissing_0 rfl 0 rfl ?_
  refine sa_getR C hh_X1 (k := 0) dX1_isMissing_1 q_223 (by decide) lx_31 rfl ?_
  refine sa_iload_n C dX1_isMissing_4 rfl 1 rfl ?_
  obtain ⟨v1, ev1, h⟩ := sl_b h
  refine sa_iald C dX1_isMissing_5 lx_32 ev1 ?_
  refine sa_if_ne C dX1_isMissing_6 (tgt := 13) (by decide) (fun c2 => ?_) (fun c2 => ?_)
  · replace h := sl_n c2 h
    refine sa_iconst C dX1_isMissing_13 ic_0 ?_
    exact sa_zret C dX1_isMissing_14 (Or.inl rfl) (Option.some.inj h) rfl
  · replace h := sl_t c2 h
    refine sa_iconst C dX1_isMissing_9 ic_1 ?_
    refine sa_goto C dX1_isMissing_10 (tgt := 14) (by decide) ?_
    exact sa_zret C dX1_isMissing_14 (Or.inr rfl) (Option.some.inj h) rfl
/-! X1 make -/
def f1_make_17 (x1 : Int32) (x3 : Int32) : Nat → Int32 → sl_M → Option sl_M
  | 0, _, _ => none
  | n + 1, x4, M => (if x3 ≤ x4 then some M else (sl_st M 34 160 ((x1 * (40 : Int32)) + x4) (0 : Int32)).bind fun M2 => f1_make_17 x1 x3 n (x4 + (1 : Int32)) M2)
def f1_make (x1 : Int32) (x2 : Int32) (x3 : Int32) (M : sl_M) : Option sl_M := (sl_st M 32 4 x1 x2).bind fun M1 => (sl_st M1 33 4 x1 x3).bind fun M2 => f1_make_17 x1 x3 400 (0 : Int32) M2
theorem w1_make_17 {D : va_G} {cA : ClassId} {g : Nat → Nat} {A : Nat → Prop} {z : sl_K} {l : Launch} {p : Program} {e : Env} {R : Room} {s : State} {m : MethodId} {args : Array Value} {below : List Frame} {meth : Method} {c : Code} (C : sl_C RX1 cX1_make 5 none sl_cl LX D cA g A z p s m meth c) (hR : 0 ≤ R.frames ∧ 0 ≤ R.locals) {r : sl_M} {x1 : Int32} {x3 : Int32} : ∀ (n : Nat) {x4 : Int32} {M : sl_M}, f1_make_17 x1 x3 n x4 M = some r → sl_A sl_cl LX D cA g A p l e R s m args below meth c (MQ below (sl_Q sl_cl LX D cA g A none r) args s 0 0 A) 5 17 [(0, .ref (g 31)), (1, .int x1), (3, .int x3), (4, .int x4)] [] M := by
  intro n
  induction n with
  | zero =>
    intro x4 M h
    exact absurd h.symm (Option.some_ne_none _)
  | succ n ih =>
    intro x4 M h
    rw [f1_make_17] at h
    refine sa_iload C dX1_make_17 3 rfl ?_
    refine sa_iload_n C dX1_make_19 rfl 2 rfl ?_
    refine sa_icmp_ge C dX1_make_20 (tgt := 42) (by decide) (fun c1 => ?_) (fun c1 => ?_)
    · replace h := sl_t c1 h
      exact sa_vret C dX1_make_42 (Option.some.inj h)
    · replace h := sl_n c1 h
      refine sa_aload_n C dX1_make_23 rfl 0 rfl ?_
      refine sa_getR C hh_X1 (k := 2) dX1_make_24 q_227 (by decide) lx_31 rfl ?_
      refine sa_iload_n C dX1_make_27 rfl 1 rfl ?_
      refine sa_bipush C dX1_make_28 bp_40 ?_
      refine sa_imul C dX1_make_30 ?_
      refine sa_iload C dX1_make_31 3 rfl ?_
      refine sa_iadd C dX1_make_33 ?_
      refine sa_iconst C dX1_make_34 ic_0 ?_
      obtain ⟨M2, eM2, h⟩ := sl_b h
      refine sa_iast C dX1_make_35 lx_34 eM2 ?_
      refine sa_iinc C dX1_make_36 3 rfl (v := (x4 + (1 : Int32))) (by rw [ic_1]) (by decide) (lv2 := [(4, .int (x4 + (1 : Int32))), (0, .ref (g 31)), (1, .int x1), (3, .int x3)]) rfl ?_
      refine sa_goto C dX1_make_39 (tgt := 17) (by decide) ?_
      exact sa_sub [1, 2, 3, 0] rfl (ih h)
theorem cc1_make {D : va_G} {cA : ClassId} {g : Nat → Nat} {A : Nat → Prop} {z : sl_K} {l : Launch} {x1 : Int32} {x2 : Int32} {x3 : Int32} {M : sl_M} {r : sl_M} (h : f1_make x1 x2 x3 M = some r) : sl_N sl_cl LX D cA g A z l yX1_make cX1_make 5 none 0 0 [.ref (g 31), .int x1, .int x2, .int x3] M none r := by
  refine sl_N.of (by decide) (Nat.le_of_ble_eq_true rfl) rfl ?_
  intro p e s m args below meth c C
  replace C : sl_C RX1 cX1_make 5 none sl_cl LX D cA g A z p s m meth c := C
  have hR : 0 ≤ (({ frames := 0, cells := 0, slots := 0, locals := 0 } : Room)).frames ∧ 0 ≤ (({ frames := 0, cells := 0, slots := 0, locals := 0 } : Room)).locals := ⟨Nat.le_refl _, Nat.le_refl _⟩
  rw [f1_make] at h
  refine sa_aload_n C dX1_make_0 rfl 0 rfl ?_
  refine sa_getR C hh_X1 (k := 0) dX1_make_1 q_223 (by decide) lx_31 rfl ?_
  refine sa_iload_n C dX1_make_4 rfl 1 rfl ?_
  refine sa_iload_n C dX1_make_5 rfl 2 rfl ?_
  obtain ⟨M1, eM1, h⟩ := sl_b h
  refine sa_iast C dX1_make_6 lx_32 eM1 ?_
  refine sa_aload_n C dX1_make_7 rfl 0 rfl ?_
  refine sa_getR C hh_X1 (k := 1) dX1_make_8 q_225 (by decide) lx_31 rfl ?_
  refine sa_iload_n C dX1_make_11 rfl 1 rfl ?_
  refine sa_iload_n C dX1_make_12 rfl 3 rfl ?_
  obtain ⟨M2, eM2, h⟩ := sl_b h
  refine sa_iast C dX1_make_13 lx_33 eM2 ?_
  refine sa_iconst C dX1_make_14 ic_0 ?_
  refine sa_istore C dX1_make_15 (by decide) (lv2 := [(4, .int (0 : Int32)), (0, .ref (g 31)), (1, .int x1), (2, .int x2), (3, .int x3)]) rfl ?_
  exact sa_sub [1, 2, 4, 0] rfl (w1_make_17 C hR 400 h)
/-! X1 hasRun -/
def f1_hasRun (x1 : Int32) (x2 : Int32) (x3 : Int32) (M : sl_M) : Option Int32 := (if x2 < 0 then some (0 : Int32) else (if x3 < 0 then some (0 : Int32) else (sl_ld (M 33) 4 x1).bind fun v3 => (if v3 < x3 then some (0 : Int32) else (sl_ld (M 33) 4 x1).bind fun v5 => (if (v5 - x3) < x2 then some (0 : Int32) else some (1 : Int32)))))
theorem cc1_hasRun {D : va_G} {cA : ClassId} {g : Nat → Nat} {A : Nat → Prop} {z : sl_K} {l : Launch} {x1 : Int32} {x2 : Int32} {x3 : Int32} {M : sl_M} {r : Int32} (h : f1_hasRun x1 x2 x3 M = some r) : sl_N sl_cl LX D cA g A z l yX1_hasRun cX1_hasRun 4 (some .boolean) 0 0 [.ref (g 31), .int x1, .int x2, .int x3] M (some (.int r)) M := by
  refine sl_N.of (by decide) (Nat.le_of_ble_eq_true rfl) rfl ?_
  intro p e s m args below meth c C
  replace C : sl_C RX1 cX1_hasRun 4 (some .boolean) sl_cl LX D cA g A z p s m meth c := C
  have hR : 0 ≤ (({ frames := 0, cells := 0, slots := 0, locals := 0 } : Room)).frames ∧ 0 ≤ (({ frames := 0, cells := 0, slots := 0, locals := 0 } : Room)).locals := ⟨Nat.le_refl _, Nat.le_refl _⟩
  rw [f1_hasRun] at h
  refine sa_iload_n C dX1_hasRun_0 rfl 2 rfl ?_
  refine sa_if_lt C dX1_hasRun_1 (tgt := 34) (by decide) (fun c1 => ?_) (fun c1 => ?_)
  · replace h := sl_t c1 h
    refine sa_iconst C dX1_hasRun_34 ic_0 ?_
    exact sa_zret C dX1_hasRun_35 (Or.inl rfl) (Option.some.inj h) rfl
  · replace h := sl_n c1 h
    refine sa_iload_n C dX1_hasRun_4 rfl 3 rfl ?_
    refine sa_if_lt C dX1_hasRun_5 (tgt := 34) (by decide) (fun c2 => ?_) (fun c2 => ?_)
    · replace h := sl_t c2 h
      refine sa_iconst C dX1_hasRun_34 ic_0 ?_
      exact sa_zret C dX1_hasRun_35 (Or.inl rfl) (Option.some.inj h) rfl
    · replace h := sl_n c2 h
      refine sa_iload_n C dX1_hasRun_8 rfl 3 rfl ?_
      refine sa_aload_n C dX1_hasRun_9 rfl 0 rfl ?_
      refine sa_getR C hh_X1 (k := 1) dX1_hasRun_10 q_225 (by decide) lx_31 rfl ?_
      refine sa_iload_n C dX1_hasRun_13 rfl 1 rfl ?_
      obtain ⟨v3, ev3, h⟩ := sl_b h
      refine sa_iald C dX1_hasRun_14 lx_33 ev3 ?_
      refine sa_icmp_gt C dX1_hasRun_15 (tgt := 34) (by decide) (fun c4 => ?_) (fun c4 => ?_)
      · replace h := sl_t c4 h
        refine sa_iconst C dX1_hasRun_34 ic_0 ?_
        exact sa_zret C dX1_hasRun_35 (Or.inl rfl) (Option.some.inj h) rfl
      · replace h := sl_n c4 h
        refine sa_iload_n C dX1_hasRun_18 rfl 2 rfl ?_
        refine sa_aload_n C dX1_hasRun_19 rfl 0 rfl ?_
        refine sa_getR C hh_X1 (k := 1) dX1_hasRun_20 q_225 (by decide) lx_31 rfl ?_
        refine sa_iload_n C dX1_hasRun_23 rfl 1 rfl ?_
        obtain ⟨v5, ev5, h⟩ := sl_b h
        refine sa_iald C dX1_hasRun_24 lx_33 ev5 ?_
        refine sa_iload_n C dX1_hasRun_25 rfl 3 rfl ?_
        refine sa_isub C dX1_hasRun_26 ?_
        refine sa_icmp_gt C dX1_hasRun_27 (tgt := 34) (by decide) (fun c6 => ?_) (fun c6 => ?_)
        · replace h := sl_t c6 h
          refine sa_iconst C dX1_hasRun_34 ic_0 ?_
          exact sa_zret C dX1_hasRun_35 (Or.inl rfl) (Option.some.inj h) rfl
        · replace h := sl_n c6 h
          refine sa_iconst C dX1_hasRun_30 ic_1 ?_
          refine sa_goto C dX1_hasRun_31 (tgt := 35) (by decide) ?_
          exact sa_zret C dX1_hasRun_35 (Or.inr rfl) (Option.some.inj h) rfl
/-! X1 numberAt -/
def f1_numberAt (x1 : Int32) (x2 : Int32) (M : sl_M) : Option Int32 := (sl_ld (M 34) 160 ((x1 * (40 : Int32)) + x2)).bind fun v1 => some v1
theorem cc1_numberAt {D : va_G} {cA : ClassId} {g : Nat → Nat} {A : Nat → Prop} {z : sl_K} {l : Launch} {x1 : Int32} {x2 : Int32} {M : sl_M} {r : Int32} (h : f1_numberAt x1 x2 M = some r) : sl_N sl_cl LX D cA g A z l yX1_numberAt cX1_numberAt 3 (some .int) 0 0 [.ref (g 31), .int x1, .int x2] M (some (.int r)) M := by
  refine sl_N.of (by decide) (Nat.le_of_ble_eq_true rfl) rfl ?_
  intro p e s m args below meth c C
  replace C : sl_C RX1 cX1_numberAt 3 (some .int) sl_cl LX D cA g A z p s m meth c := C
  have hR : 0 ≤ (({ frames := 0, cells := 0, slots := 0, locals := 0 } : Room)).frames ∧ 0 ≤ (({ frames := 0, cells := 0, slots := 0, locals := 0 } : Room)).locals := ⟨Nat.le_refl _, Nat.le_refl _⟩
  rw [f1_numberAt] at h
  refine sa_aload_n C dX1_numberAt_0 rfl 0 rfl ?_
  refine sa_getR C hh_X1 (k := 2) dX1_numberAt_1 q_227 (by decide) lx_31 rfl ?_
  refine sa_iload_n C dX1_numberAt_4 rfl 1 rfl ?_
  refine sa_bipush C dX1_numberAt_5 bp_40 ?_
  refine sa_imul C dX1_numberAt_7 ?_
  refine sa_iload_n C dX1_numberAt_8 rfl 2 rfl ?_
  refine sa_iadd C dX1_numberAt_9 ?_
  obtain ⟨v1, ev1, h⟩ := sl_b h
  refine sa_iald C dX1_numberAt_10 lx_34 ev1 ?_
  exact sa_iret C dX1_numberAt_11 (Option.some.inj h) rfl
/-! X1 cutTo -/
def f1_cutTo (x0 : Int32) (x1 : Int32) : Int32 := (if x0 = (8 : Int32) then x1.toInt8.toInt32 else (if x0 = (16 : Int32) then x1.toInt16.toInt32 else x1))
theorem cc1_cutTo {D : va_G} {cA : ClassId} {g : Nat → Nat} {A : Nat → Prop} {z : sl_K} {l : Launch} {x0 : Int32} {x1 : Int32} {M : sl_M} {r : Int32} (h : f1_cutTo x0 x1 = r) : sl_N sl_cl LX D cA g A z l yX1_cutTo cX1_cutTo 2 (some .int) 0 0 [.int x0, .int x1] M (some (.int r)) M := by
  refine sl_N.of (by decide) (Nat.le_of_ble_eq_true rfl) rfl ?_
  intro p e s m args below meth c C
  replace C : sl_C RX1 cX1_cutTo 2 (some .int) sl_cl LX D cA g A z p s m meth c := C
  have hR : 0 ≤ (({ frames := 0, cells := 0, slots := 0, locals := 0 } : Room)).frames ∧ 0 ≤ (({ frames := 0, cells := 0, slots := 0, locals := 0 } : Room)).locals := ⟨Nat.le_refl _, Nat.le_refl _⟩
  rw [f1_cutTo] at h
  refine sa_iload_n C dX1_cutTo_0 rfl 0 rfl ?_
  refine sa_bipush C dX1_cutTo_1 bp_8 ?_
  refine sa_icmp_ne C dX1_cutTo_3 (tgt := 9) (by decide) (fun c1 => ?_) (fun c1 => ?_)
  · replace h := sl_n c1 h
    refine sa_iload_n C dX1_cutTo_9 rfl 0 rfl ?_
    refine sa_bipush C dX1_cutTo_10 bp_16 ?_
    refine sa_icmp_ne C dX1_cutTo_12 (tgt := 20) (by decide) (fun c2 => ?_) (fun c2 => ?_)
    · replace h := sl_n c2 h
      refine sa_iload_n C dX1_cutTo_20 rfl 1 rfl ?_
      exact sa_iret C dX1_cutTo_21 h rfl
    · replace h := sl_t c2 h
      refine sa_iload_n C dX1_cutTo_15 rfl 1 rfl ?_
      refine sa_i2s C dX1_cutTo_16 ?_
      refine sa_goto C dX1_cutTo_17 (tgt := 21) (by decide) ?_
      exact sa_iret C dX1_cutTo_21 h rfl
  · replace h := sl_t c1 h
    refine sa_iload_n C dX1_cutTo_6 rfl 1 rfl ?_
    refine sa_i2b C dX1_cutTo_7 ?_
    exact sa_iret C dX1_cutTo_8 h rfl
/-! X1 put -/
def f1_put (x1 : Int32) (x2 : Int32) (x3 : Int32) (M : sl_M) : Option sl_M := (sl_ld (M 32) 4 x1).bind fun v1 => (sl_st M 34 160 ((x1 * (40 : Int32)) + x2) (f1_cutTo v1 x3)).bind fun M2 => some M2
theorem cc1_put {D : va_G} {cA : ClassId} {g : Nat → Nat} {A : Nat → Prop} {z : sl_K} {l : Launch} {x1 : Int32} {x2 : Int32} {x3 : Int32} {M : sl_M} {r : sl_M} (h : f1_put x1 x2 x3 M = some r) : sl_N sl_cl LX D cA g A z l yX1_put cX1_put 4 none 1 21 [.ref (g 31), .int x1, .int x2, .int x3] M none r := by
  refine sl_N.of (by decide) (Nat.le_of_ble_eq_true rfl) rfl ?_
  intro p e s m args below meth c C
  replace C : sl_C RX1 cX1_put 4 none sl_cl LX D cA g A z p s m meth c := C
  have hR : 1 ≤ (({ frames := 1, cells := 0, slots := 0, locals := 21 } : Room)).frames ∧ 21 ≤ (({ frames := 1, cells := 0, slots := 0, locals := 21 } : Room)).locals := ⟨Nat.le_refl _, Nat.le_refl _⟩
  rw [f1_put] at h
  refine sa_aload_n C dX1_put_0 rfl 0 rfl ?_
  refine sa_getR C hh_X1 (k := 2) dX1_put_1 q_227 (by decide) lx_31 rfl ?_
  refine sa_iload_n C dX1_put_4 rfl 1 rfl ?_
  refine sa_bipush C dX1_put_5 bp_40 ?_
  refine sa_imul C dX1_put_7 ?_
  refine sa_iload_n C dX1_put_8 rfl 2 rfl ?_
  refine sa_iadd C dX1_put_9 ?_
  refine sa_aload_n C dX1_put_10 rfl 0 rfl ?_
  refine sa_getR C hh_X1 (k := 0) dX1_put_11 q_223 (by decide) lx_31 rfl ?_
  refine sa_iload_n C dX1_put_14 rfl 1 rfl ?_
  obtain ⟨v1, ev1, h⟩ := sl_b h
  refine sa_iald C dX1_put_15 lx_32 ev1 ?_
  refine sa_iload_n C dX1_put_16 rfl 3 rfl ?_
  refine sa_invSi C yy_X1_cutTo q_784 q_783 dX1_put_17 (As := [.int v1, .int x3]) (rest := [.int ((x1 * (40 : Int32)) + x2), .ref (g 34)]) rfl ⟨Nat.le_trans (Nat.le_of_ble_eq_true rfl) hR.1, Nat.le_trans (Nat.le_of_ble_eq_true rfl) hR.2⟩ (Nat.le_of_ble_eq_true rfl) (cc1_cutTo rfl) rfl ?_
  obtain ⟨M2, eM2, h⟩ := sl_b h
  refine sa_iast C dX1_put_20 lx_34 eM2 ?_
  exact sa_vret C dX1_put_21 (Option.some.inj h)
/-! X1 move -/
def f1_move (x1 : Int32) (x2 : Int32) (x3 : Int32) (x4 : Int32) (x5 : Int32) (M : sl_M) : Option sl_M := (sl_cp M 34 160 34 160 ((x1 * (40 : Int32)) + x2) ((x3 * (40 : Int32)) + x4) x5).bind fun M1 => some M1
theorem cc1_move {D : va_G} {cA : ClassId} {g : Nat → Nat} {A : Nat → Prop} {z : sl_K} {l : Launch} {x1 : Int32} {x2 : Int32} {x3 : Int32} {x4 : Int32} {x5 : Int32} {M : sl_M} {r : sl_M} (h : f1_move x1 x2 x3 x4 x5 M = some r) : sl_N sl_cl LX D cA g A z l yX1_move cX1_move 6 none 1 40 [.ref (g 31), .int x1, .int x2, .int x3, .int x4, .int x5] M none r := by
  refine sl_N.of (by decide) (Nat.le_of_ble_eq_true rfl) rfl ?_
  intro p e s m args below meth c C
  replace C : sl_C RX1 cX1_move 6 none sl_cl LX D cA g A z p s m meth c := C
  have hR : 1 ≤ (({ frames := 1, cells := 0, slots := 0, locals := 40 } : Room)).frames ∧ 40 ≤ (({ frames := 1, cells := 0, slots := 0, locals := 40 } : Room)).locals := ⟨Nat.le_refl _, Nat.le_refl _⟩
  rw [f1_move] at h
  refine sa_aload_n C dX1_move_0 rfl 0 rfl ?_
  refine sa_getR C hh_X1 (k := 2) dX1_move_1 q_227 (by decide) lx_31 rfl ?_
  refine sa_iload_n C dX1_move_4 rfl 1 rfl ?_
  refine sa_bipush C dX1_move_5 bp_40 ?_
  refine sa_imul C dX1_move_7 ?_
  refine sa_iload_n C dX1_move_8 rfl 2 rfl ?_
  refine sa_iadd C dX1_move_9 ?_
  refine sa_aload_n C dX1_move_10 rfl 0 rfl ?_
  refine sa_getR C hh_X1 (k := 2) dX1_move_11 q_227 (by decide) lx_31 rfl ?_
  refine sa_iload_n C dX1_move_14 rfl 3 rfl ?_
  refine sa_bipush C dX1_move_15 bp_40 ?_
  refine sa_imul C dX1_move_17 ?_
  refine sa_iload C dX1_move_18 4 rfl ?_
  refine sa_iadd C dX1_move_20 ?_
  refine sa_iload C dX1_move_21 5 rfl ?_
  obtain ⟨M1, eM1, h⟩ := sl_b h
  refine sa_copy C dX1_move_23 q_794 q_461 q_460 q_101 lx_34 lx_34 (Nat.le_of_ble_eq_true rfl) ⟨Nat.le_trans (Nat.le_of_ble_eq_true rfl) hR.1, Nat.le_trans (Nat.le_of_ble_eq_true rfl) hR.2⟩ eM1 ?_
  exact sa_vret C dX1_move_26 (Option.some.inj h)
/-! J6 bitCount_0f7a4 -/
def fJ6_bitCount_0f7a4 (x0 : Int32) : Int32 := ((((((((x0 - ((x0.toUInt32 >>> ((1 : Int32).toUInt32 &&& Int32.toUInt32 31)).toInt32 &&& (1431655765 : Int32))) &&& (858993459 : Int32)) + (((x0 - ((x0.toUInt32 >>> ((1 : Int32).toUInt32 &&& Int32.toUInt32 31)).toInt32 &&& (1431655765 : Int32))).toUInt32 >>> ((2 : Int32).toUInt32 &&& Int32.toUInt32 31)).toInt32 &&& (858993459 : Int32))) + ((((x0 - ((x0.toUInt32 >>> ((1 : Int32).toUInt32 &&& Int32.toUInt32 31)).toInt32 &&& (1431655765 : Int32))) &&& (858993459 : Int32)) + (((x0 - ((x0.toUInt32 >>> ((1 : Int32).toUInt32 &&& Int32.toUInt32 31)).toInt32 &&& (1431655765 : Int32))).toUInt32 >>> ((2 : Int32).toUInt32 &&& Int32.toUInt32 31)).toInt32 &&& (858993459 : Int32))).toUInt32 >>> ((4 : Int32).toUInt32 &&& Int32.toUInt32 31)).toInt32) &&& (252645135 : Int32)) + ((((((x0 - ((x0.toUInt32 >>> ((1 : Int32).toUInt32 &&& Int32.toUInt32 31)).toInt32 &&& (1431655765 : Int32))) &&& (858993459 : Int32)) + (((x0 - ((x0.toUInt32 >>> ((1 : Int32).toUInt32 &&& Int32.toUInt32 31)).toInt32 &&& (1431655765 : Int32))).toUInt32 >>> ((2 : Int32).toUInt32 &&& Int32.toUInt32 31)).toInt32 &&& (858993459 : Int32))) + ((((x0 - ((x0.toUInt32 >>> ((1 : Int32).toUInt32 &&& Int32.toUInt32 31)).toInt32 &&& (1431655765 : Int32))) &&& (858993459 : Int32)) + (((x0 - ((x0.toUInt32 >>> ((1 : Int32).toUInt32 &&& Int32.toUInt32 31)).toInt32 &&& (1431655765 : Int32))).toUInt32 >>> ((2 : Int32).toUInt32 &&& Int32.toUInt32 31)).toInt32 &&& (858993459 : Int32))).toUInt32 >>> ((4 : Int32).toUInt32 &&& Int32.toUInt32 31)).toInt32) &&& (252645135 : Int32)).toUInt32 >>> ((8 : Int32).toUInt32 &&& Int32.toUInt32 31)).toInt32) + (((((((x0 - ((x0.toUInt32 >>> ((1 : Int32).toUInt32 &&& Int32.toUInt32 31)).toInt32 &&& (1431655765 : Int32))) &&& (858993459 : Int32)) + (((x0 - ((x0.toUInt32 >>> ((1 : Int32).toUInt32 &&& Int32.toUInt32 31)).toInt32 &&& (1431655765 : Int32))).toUInt32 >>> ((2 : Int32).toUInt32 &&& Int32.toUInt32 31)).toInt32 &&& (858993459 : Int32))) + ((((x0 - ((x0.toUInt32 >>> ((1 : Int32).toUInt32 &&& Int32.toUInt32 31)).toInt32 &&& (1431655765 : Int32))) &&& (858993459 : Int32)) + (((x0 - ((x0.toUInt32 >>> ((1 : Int32).toUInt32 &&& Int32.toUInt32 31)).toInt32 &&& (1431655765 : Int32))).toUInt32 >>> ((2 : Int32).toUInt32 &&& Int32.toUInt32 31)).toInt32 &&& (858993459 : Int32))).toUInt32 >>> ((4 : Int32).toUInt32 &&& Int32.toUInt32 31)).toInt32) &&& (252645135 : Int32)) + ((((((x0 - ((x0.toUInt32 >>> ((1 : Int32).toUInt32 &&& Int32.toUInt32 31)).toInt32 &&& (1431655765 : Int32))) &&& (858993459 : Int32)) + (((x0 - ((x0.toUInt32 >>> ((1 : Int32).toUInt32 &&& Int32.toUInt32 31)).toInt32 &&& (1431655765 : Int32))).toUInt32 >>> ((2 : Int32).toUInt32 &&& Int32.toUInt32 31)).toInt32 &&& (858993459 : Int32))) + ((((x0 - ((x0.toUInt32 >>> ((1 : Int32).toUInt32 &&& Int32.toUInt32 31)).toInt32 &&& (1431655765 : Int32))) &&& (858993459 : Int32)) + (((x0 - ((x0.toUInt32 >>> ((1 : Int32).toUInt32 &&& Int32.toUInt32 31)).toInt32 &&& (1431655765 : Int32))).toUInt32 >>> ((2 : Int32).toUInt32 &&& Int32.toUInt32 31)).toInt32 &&& (858993459 : Int32))).toUInt32 >>> ((4 : Int32).toUInt32 &&& Int32.toUInt32 31)).toInt32) &&& (252645135 : Int32)).toUInt32 >>> ((8 : Int32).toUInt32 &&& Int32.toUInt32 31)).toInt32).toUInt32 >>> ((16 : Int32).toUInt32 &&& Int32.toUInt32 31)).toInt32) &&& (63 : Int32))
theorem ccJ6_bitCount_0f7a4 {D : va_G} {cA : ClassId} {g : Nat → Nat} {A : Nat → Prop} {z : sl_K} {l : Launch} {x0 : Int32} {M : sl_M} {r : Int32} (h : fJ6_bitCount_0f7a4 x0 = r) : sl_N sl_cl LX D cA g A z l yJ6_bitCount_0f7a4 cJ6_bitCount_0f7a4 1 (some .int) 0 0 [.int x0] M (some (.int r)) M := by
  refine sl_N.of (by decide) (Nat.le_of_ble_eq_true rfl) rfl ?_
  intro p e s m args below meth c C
  replace C : sl_C RJ6 cJ6_bitCount_0f7a4 1 (some .int) sl_cl LX D cA g A z p s m meth c := C
  have hR : 0 ≤ (({ frames := 0, cells := 0, slots := 0, locals := 0 } : Room)).frames ∧ 0 ≤ (({ frames := 0, cells := 0, slots := 0, locals := 0 } : Room)).locals := ⟨Nat.le_refl _, Nat.le_refl _⟩
  rw [fJ6_bitCount_0f7a4] at h
  refine sa_iload_n C dJ6_bitCount_0f7a4_0 rfl 0 rfl ?_
  refine sa_iload_n C dJ6_bitCount_0f7a4_1 rfl 0 rfl ?_
  refine sa_iconst C dJ6_bitCount_0f7a4_2 ic_1 ?_
  refine sa_iushr C dJ6_bitCount_0f7a4_3 ?_
  refine sa_ldcw C dJ6_bitCount_0f7a4_4 q_469 ?_
  refine sa_iand C dJ6_bitCount_0f7a4_7 ?_
  refine sa_isub C dJ6_bitCount_0f7a4_8 ?_
  refine sa_istore_n C dJ6_bitCount_0f7a4_9 rfl (by decide) (lv2 := [(0, .int (x0 - ((x0.toUInt32 >>> ((1 : Int32).toUInt32 &&& Int32.toUInt32 31)).toInt32 &&& (1431655765 : Int32))))]) rfl ?_
  refine sa_iload_n C dJ6_bitCount_0f7a4_10 rfl 0 rfl ?_
  refine sa_ldcw C dJ6_bitCount_0f7a4_11 q_470 ?_
  refine sa_iand C dJ6_bitCount_0f7a4_14 ?_
  refine sa_iload_n C dJ6_bitCount_0f7a4_15 rfl 0 rfl ?_
  refine sa_iconst C dJ6_bitCount_0f7a4_16 ic_2 ?_
  refine sa_iushr C dJ6_bitCount_0f7a4_17 ?_
  refine sa_ldcw C dJ6_bitCount_0f7a4_18 q_470 ?_
  refine sa_iand C dJ6_bitCount_0f7a4_21 ?_
  refine sa_iadd C dJ6_bitCount_0f7a4_22 ?_
  refine sa_istore_n C dJ6_bitCount_0f7a4_23 rfl (by decide) (lv2 := [(0, .int (((x0 - ((x0.toUInt32 >>> ((1 : Int32).toUInt32 &&& Int32.toUInt32 31)).toInt32 &&& (1431655765 : Int32))) &&& (858993459 : Int32)) + (((x0 - ((x0.toUInt32 >>> ((1 : Int32).toUInt32 &&& Int32.toUInt32 31)).toInt32 &&& (1431655765 : Int32))).toUInt32 >>> ((2 : Int32).toUInt32 &&& Int32.toUInt32 31)).toInt32 &&& (858993459 : Int32))))]) rfl ?_
  refine sa_iload_n C dJ6_bitCount_0f7a4_24 rfl 0 rfl ?_
  refine sa_iload_n C dJ6_bitCount_0f7a4_25 rfl 0 rfl ?_
  refine sa_iconst C dJ6_bitCount_0f7a4_26 ic_4 ?_
  refine sa_iushr C dJ6_bitCount_0f7a4_27 ?_
  refine sa_iadd C dJ6_bitCount_0f7a4_28 ?_
  refine sa_ldcw C dJ6_bitCount_0f7a4_29 q_471 ?_
  refine sa_iand C dJ6_bitCount_0f7a4_32 ?_
  refine sa_istore_n C dJ6_bitCount_0f7a4_33 rfl (by decide) (lv2 := [(0, .int (((((x0 - ((x0.toUInt32 >>> ((1 : Int32).toUInt32 &&& Int32.toUInt32 31)).toInt32 &&& (1431655765 : Int32))) &&& (858993459 : Int32)) + (((x0 - ((x0.toUInt32 >>> ((1 : Int32).toUInt32 &&& Int32.toUInt32 31)).toInt32 &&& (1431655765 : Int32))).toUInt32 >>> ((2 : Int32).toUInt32 &&& Int32.toUInt32 31)).toInt32 &&& (858993459 : Int32))) + ((((x0 - ((x0.toUInt32 >>> ((1 : Int32).toUInt32 &&& Int32.toUInt32 31)).toInt32 &&& (1431655765 : Int32))) &&& (858993459 : Int32)) + (((x0 - ((x0.toUInt32 >>> ((1 : Int32).toUInt32 &&& Int32.toUInt32 31)).toInt32 &&& (1431655765 : Int32))).toUInt32 >>> ((2 : Int32).toUInt32 &&& Int32.toUInt32 31)).toInt32 &&& (858993459 : Int32))).toUInt32 >>> ((4 : Int32).toUInt32 &&& Int32.toUInt32 31)).toInt32) &&& (252645135 : Int32)))]) rfl ?_
  refine sa_iload_n C dJ6_bitCount_0f7a4_34 rfl 0 rfl ?_
  refine sa_iload_n C dJ6_bitCount_0f7a4_35 rfl 0 rfl ?_
  refine sa_bipush C dJ6_bitCount_0f7a4_36 bp_8 ?_
  refine sa_iushr C dJ6_bitCount_0f7a4_38 ?_
  refine sa_iadd C dJ6_bitCount_0f7a4_39 ?_
  refine sa_istore_n C dJ6_bitCount_0f7a4_40 rfl (by decide) (lv2 := [(0, .int ((((((x0 - ((x0.toUInt32 >>> ((1 : Int32).toUInt32 &&& Int32.toUInt32 31)).toInt32 &&& (1431655765 : Int32))) &&& (858993459 : Int32)) + (((x0 - ((x0.toUInt32 >>> ((1 : Int32).toUInt32 &&& Int32.toUInt32 31)).toInt32 &&& (1431655765 : Int32))).toUInt32 >>> ((2 : Int32).toUInt32 &&& Int32.toUInt32 31)).toInt32 &&& (858993459 : Int32))) + ((((x0 - ((x0.toUInt32 >>> ((1 : Int32).toUInt32 &&& Int32.toUInt32 31)).toInt32 &&& (1431655765 : Int32))) &&& (858993459 : Int32)) + (((x0 - ((x0.toUInt32 >>> ((1 : Int32).toUInt32 &&& Int32.toUInt32 31)).toInt32 &&& (1431655765 : Int32))).toUInt32 >>> ((2 : Int32).toUInt32 &&& Int32.toUInt32 31)).toInt32 &&& (858993459 : Int32))).toUInt32 >>> ((4 : Int32).toUInt32 &&& Int32.toUInt32 31)).toInt32) &&& (252645135 : Int32)) + ((((((x0 - ((x0.toUInt32 >>> ((1 : Int32).toUInt32 &&& Int32.toUInt32 31)).toInt32 &&& (1431655765 : Int32))) &&& (858993459 : Int32)) + (((x0 - ((x0.toUInt32 >>> ((1 : Int32).toUInt32 &&& Int32.toUInt32 31)).toInt32 &&& (1431655765 : Int32))).toUInt32 >>> ((2 : Int32).toUInt32 &&& Int32.toUInt32 31)).toInt32 &&& (858993459 : Int32))) + ((((x0 - ((x0.toUInt32 >>> ((1 : Int32).toUInt32 &&& Int32.toUInt32 31)).toInt32 &&& (1431655765 : Int32))) &&& (858993459 : Int32)) + (((x0 - ((x0.toUInt32 >>> ((1 : Int32).toUInt32 &&& Int32.toUInt32 31)).toInt32 &&& (1431655765 : Int32))).toUInt32 >>> ((2 : Int32).toUInt32 &&& Int32.toUInt32 31)).toInt32 &&& (858993459 : Int32))).toUInt32 >>> ((4 : Int32).toUInt32 &&& Int32.toUInt32 31)).toInt32) &&& (252645135 : Int32)).toUInt32 >>> ((8 : Int32).toUInt32 &&& Int32.toUInt32 31)).toInt32))]) rfl ?_
  refine sa_iload_n C dJ6_bitCount_0f7a4_41 rfl 0 rfl ?_
  refine sa_iload_n C dJ6_bitCount_0f7a4_42 rfl 0 rfl ?_
  refine sa_bipush C dJ6_bitCount_0f7a4_43 bp_16 ?_
  refine sa_iushr C dJ6_bitCount_0f7a4_45 ?_
  refine sa_iadd C dJ6_bitCount_0f7a4_46 ?_
  refine sa_istore_n C dJ6_bitCount_0f7a4_47 rfl (by decide) (lv2 := [(0, .int (((((((x0 - ((x0.toUInt32 >>> ((1 : Int32).toUInt32 &&& Int32.toUInt32 31)).toInt32 &&& (1431655765 : Int32))) &&& (858993459 : Int32)) + (((x0 - ((x0.toUInt32 >>> ((1 : Int32).toUInt32 &&& Int32.toUInt32 31)).toInt32 &&& (1431655765 : Int32))).toUInt32 >>> ((2 : Int32).toUInt32 &&& Int32.toUInt32 31)).toInt32 &&& (858993459 : Int32))) + ((((x0 - ((x0.toUInt32 >>> ((1 : Int32).toUInt32 &&& Int32.toUInt32 31)).toInt32 &&& (1431655765 : Int32))) &&& (858993459 : Int32)) + (((x0 - ((x0.toUInt32 >>> ((1 : Int32).toUInt32 &&& Int32.toUInt32 31)).toInt32 &&& (1431655765 : Int32))).toUInt32 >>> ((2 : Int32).toUInt32 &&& Int32.toUInt32 31)).toInt32 &&& (858993459 : Int32))).toUInt32 >>> ((4 : Int32).toUInt32 &&& Int32.toUInt32 31)).toInt32) &&& (252645135 : Int32)) + ((((((x0 - ((x0.toUInt32 >>> ((1 : Int32).toUInt32 &&& Int32.toUInt32 31)).toInt32 &&& (1431655765 : Int32))) &&& (858993459 : Int32)) + (((x0 - ((x0.toUInt32 >>> ((1 : Int32).toUInt32 &&& Int32.toUInt32 31)).toInt32 &&& (1431655765 : Int32))).toUInt32 >>> ((2 : Int32).toUInt32 &&& Int32.toUInt32 31)).toInt32 &&& (858993459 : Int32))) + ((((x0 - ((x0.toUInt32 >>> ((1 : Int32).toUInt32 &&& Int32.toUInt32 31)).toInt32 &&& (1431655765 : Int32))) &&& (858993459 : Int32)) + (((x0 - ((x0.toUInt32 >>> ((1 : Int32).toUInt32 &&& Int32.toUInt32 31)).toInt32 &&& (1431655765 : Int32))).toUInt32 >>> ((2 : Int32).toUInt32 &&& Int32.toUInt32 31)).toInt32 &&& (858993459 : Int32))).toUInt32 >>> ((4 : Int32).toUInt32 &&& Int32.toUInt32 31)).toInt32) &&& (252645135 : Int32)).toUInt32 >>> ((8 : Int32).toUInt32 &&& Int32.toUInt32 31)).toInt32) + (((((((x0 - ((x0.toUInt32 >>> ((1 : Int32).toUInt32 &&& Int32.toUInt32 31)).toInt32 &&& (1431655765 : Int32))) &&& (858993459 : Int32)) + (((x0 - ((x0.toUInt32 >>> ((1 : Int32).toUInt32 &&& Int32.toUInt32 31)).toInt32 &&& (1431655765 : Int32))).toUInt32 >>> ((2 : Int32).toUInt32 &&& Int32.toUInt32 31)).toInt32 &&& (858993459 : Int32))) + ((((x0 - ((x0.toUInt32 >>> ((1 : Int32).toUInt32 &&& Int32.toUInt32 31)).toInt32 &&& (1431655765 : Int32))) &&& (858993459 : Int32)) + (((x0 - ((x0.toUInt32 >>> ((1 : Int32).toUInt32 &&& Int32.toUInt32 31)).toInt32 &&& (1431655765 : Int32))).toUInt32 >>> ((2 : Int32).toUInt32 &&& Int32.toUInt32 31)).toInt32 &&& (858993459 : Int32))).toUInt32 >>> ((4 : Int32).toUInt32 &&& Int32.toUInt32 31)).toInt32) &&& (252645135 : Int32)) + ((((((x0 - ((x0.toUInt32 >>> ((1 : Int32).toUInt32 &&& Int32.toUInt32 31)).toInt32 &&& (1431655765 : Int32))) &&& (858993459 : Int32)) + (((x0 - ((x0.toUInt32 >>> ((1 : Int32).toUInt32 &&& Int32.toUInt32 31)).toInt32 &&& (1431655765 : Int32))).toUInt32 >>> ((2 : Int32).toUInt32 &&& Int32.toUInt32 31)).toInt32 &&& (858993459 : Int32))) + ((((x0 - ((x0.toUInt32 >>> ((1 : Int32).toUInt32 &&& Int32.toUInt32 31)).toInt32 &&& (1431655765 : Int32))) &&& (858993459 : Int32)) + (((x0 - ((x0.toUInt32 >>> ((1 : Int32).toUInt32 &&& Int32.toUInt32 31)).toInt32 &&& (1431655765 : Int32))).toUInt32 >>> ((2 : Int32).toUInt32 &&& Int32.toUInt32 31)).toInt32 &&& (858993459 : Int32))).toUInt32 >>> ((4 : Int32).toUInt32 &&& Int32.toUInt32 31)).toInt32) &&& (252645135 : Int32)).toUInt32 >>> ((8 : Int32).toUInt32 &&& Int32.toUInt32 31)).toInt32).toUInt32 >>> ((16 : Int32).toUInt32 &&& Int32.toUInt32 31)).toInt32))]) rfl ?_
  refine sa_iload_n C dJ6_bitCount_0f7a4_48 rfl 0 rfl ?_
  refine sa_bipush C dJ6_bitCount_0f7a4_49 bp_63 ?_
  refine sa_iand C dJ6_bitCount_0f7a4_51 ?_
  exact sa_iret C dJ6_bitCount_0f7a4_52 h rfl
