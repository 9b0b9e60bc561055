/-! what holds where the law begins -/
section ST
variable {s : State} {b : Nat}
theorem b_T (hts : ∀ w ∈ lw_tbl, w.before #[Value.ref b] s = true) : sl_T s :=
  ⟨fun w hw hg a => word_at (State.WarmedH.refl s) (good_of_word hg) (hts w hw), fun o i b n d h hw => va_Nw.of rfl (hts _ hw), fun o i y h hw => va_Nw.of rfl (hts _ hw)⟩
theorem b_K (hts : ∀ w ∈ lw_tbl, w.before #[Value.ref b] s = true) : ∃ (D : va_G) (cA : ClassId), va_K D sl_cl [(cA, .int)] s := by
  obtain ⟨c0, i0, h0⟩ := u_known (C := RX0) (T := TX0) (N := 13) (n := 13) hts hh_X0.2.1 (hts _ q_116)
  obtain ⟨c1, i1, h1⟩ := u_known (C := RX1) (T := TX1) (N := 3) (n := 3) hts hh_X1.2.1 (hts _ q_218)
  obtain ⟨c2, i2, h2⟩ := u_known (C := RX2) (T := TX2) (N := 6) (n := 6) hts hh_X2.2.1 (hts _ q_184)
  obtain ⟨c3, i3, h3⟩ := u_known (C := RX3) (T := TX3) (N := 1) (n := 1) hts hh_X3.2.1 (hts _ q_178)
  obtain ⟨c4, i4, h4⟩ := u_known (C := RX4) (T := TX4) (N := 8) (n := 8) hts hh_X4.2.1 (hts _ (List.mem_of_getElem? (i := 108) (by decide +kernel)))
  obtain ⟨c5, i5, h5⟩ := u_known (C := RX5) (T := TX5) (N := 20) (n := 20) hts hh_X5.2.1 (hts _ (List.mem_of_getElem? (i := 832) (by decide +kernel)))
  obtain ⟨cA, kA, comp, e1, e2, e3⟩ := Cond.arrayClass_spec (hts _ q_176)
  refine ⟨(fun k => [c0, c1, c2, c3, c4, c5].getD k c0, fun k => [i0, i1, i2, i3, i4, i5].getD k i0), cA, fun k q hq => ?_, fun k q hq => ?_⟩
  · match k, hq with
    | 0, hq => cases hq; exact h0
    | 1, hq => cases hq; exact h1
    | 2, hq => cases hq; exact h2
    | 3, hq => cases hq; exact h3
    | 4, hq => cases hq; exact h4
    | 5, hq => cases hq; exact h5
    | k + 6, hq => simp [sl_cl] at hq
  · match k, hq with
    | 0, hq => cases hq; exact ⟨fun n z => ⟨fun k h => (by cases h), kA, e2, comp, e3⟩, e1⟩
    | k + 1, hq => simp at hq
def b_tm (i : Nat) : Term := .string "SeenLand$TextReader" (sl_tx.getD i (0, "")).1
abbrev b_fl : List Cond := flatC (Jvm.Cond.and given_1 narrow_1)
theorem b_w1 : ∀ j, j < 7 → Cond.eq (.elem (.static "SeenLand$Land" "WORTHS" "[I") (.int (Int32.ofNat j))) (.int (sl_wo.getD j 0)) ∈ b_fl := by decide +kernel
theorem b_w2 : ∀ j, j < 7 → Cond.eq (.elem (.static "SeenLand$Land" "KIND_ABOVE" "[I") (.int (Int32.ofNat j))) (.int (sl_ka.getD j 0)) ∈ b_fl := by decide +kernel
theorem b_t1 : ∀ i, i < 17 → Cond.exactly (b_tm i) "java/lang/String" ∈ b_fl := by decide +kernel
theorem b_t2 : ∀ i, i < 17 → Cond.eq (.field (b_tm i) "java/lang/String" "coder" "B") (.int 0) ∈ b_fl := by decide +kernel
theorem b_t3 : ∀ i, i < 17 → Cond.arrayOf (.field (b_tm i) "java/lang/String" "value" "[B") .byte ∈ b_fl := by decide +kernel
theorem b_t4 : ∀ i, i < 17 → Cond.eq (.length (.field (b_tm i) "java/lang/String" "value" "[B")) (.int (Int32.ofNat (sl_ln.getD i 0))) ∈ b_fl := by decide +kernel
theorem b_t5 : ∀ i, i < 17 → ∀ j, j < sl_ln.getD i 0 → Cond.eq (.elem (.field (b_tm i) "java/lang/String" "value" "[B") (.int (Int32.ofNat j))) (.int ((sl_by.getD i []).getD j 0)) ∈ b_fl := by decide +kernel
theorem b_t6 : ∀ i, i < 17 → ∀ j, j < i → Cond.not (Cond.eq (b_tm j) (b_tm i)) ∈ b_fl := by decide +kernel
theorem b_t7 : ∀ i, i < 17 → Cond.stringRef "SeenLand$TextReader" (sl_tx.getD i (0, "")).1 (sl_tx.getD i (0, "")).2 ∈ lw_tbl := by decide +kernel
theorem b_Z (hts : ∀ w ∈ lw_tbl, w.before #[Value.ref b] s = true) (hgv : (Jvm.Cond.and given_1 narrow_1).before #[Value.ref b] s = true) : ∃ z : sl_K, sl_Z (fun q : Nat => s.heap.size ≤ q) z s := by
  have hs := flat_of_before _ hgv
  have hA : ∀ a : Nat, a < s.heap.size → ¬ (fun q : Nat => s.heap.size ≤ q) a := fun a h => Nat.not_le.mpr h
  obtain ⟨t1, e1, T1⟩ := va_Tof (tm := .static "SeenLand$Land" "WORTHS" "[I") (ty := .int) (N := 7) (f := fun j => .int (sl_wo.getD j 0)) (by decide) (hs _ (by decide +kernel)) (va_eqt (hs _ (show Cond.eq (.length (.static "SeenLand$Land" "WORTHS" "[I")) (.int (Int32.ofNat 7)) ∈ b_fl by decide +kernel))) (fun j hj => va_eqt (hs _ (b_w1 j hj))) hA
  obtain ⟨t2, e2, T2⟩ := va_Tof (tm := .static "SeenLand$Land" "KIND_ABOVE" "[I") (ty := .int) (N := 7) (f := fun j => .int (sl_ka.getD j 0)) (by decide) (hs _ (by decide +kernel)) (va_eqt (hs _ (show Cond.eq (.length (.static "SeenLand$Land" "KIND_ABOVE" "[I")) (.int (Int32.ofNat 7)) ∈ b_fl by decide +kernel))) (fun j hj => va_eqt (hs _ (b_w2 j hj))) hA
  obtain ⟨aK, aV, S1, S2⟩ := vk_Sof (N := 17) (tm := b_tm) (len := sl_ln) (byt := sl_by) (by decide) (fun i hi => hs _ (b_t1 i hi)) (fun i hi => hs _ (b_t2 i hi)) (fun i hi => hs _ (b_t3 i hi)) (fun i hi => hs _ (b_t4 i hi)) (fun i hi j hj => hs _ (b_t5 i hi j hj)) (fun i j hi hj hij => by
    rcases Nat.lt_or_gt_of_ne hij with q | q
    · exact Or.inl (hs _ (b_t6 j hj i q))
    · exact Or.inr (hs _ (b_t6 i hi j q))) hA
  refine ⟨((t1, t2), aK, aV), ?_, T1, ?_, T2, ?_, S1, fun i q hi => ?_, ?_⟩
  · exact va_Zof (hts _ (List.mem_of_getElem? (i := 313) (by decide +kernel))) (hts _ (List.mem_of_getElem? (i := 95) (by decide +kernel))) e1 hA
  · exact va_Zof (hts _ (List.mem_of_getElem? (i := 755) (by decide +kernel))) (hts _ (List.mem_of_getElem? (i := 95) (by decide +kernel))) e2 hA
  · exact va_Zof (hts _ (List.mem_of_getElem? (i := 646) (by decide +kernel))) (hts _ (List.mem_of_getElem? (i := 103) (by decide +kernel))) (va_eqi (hs _ (by decide +kernel))) hA
  · have hl : i < 17 := (List.getElem?_eq_some_iff.mp hi).1
    have eq : q = sl_tx.getD i (0, "") := by rw [List.getD_eq_getElem?_getD, hi]; rfl
    subst eq
    exact vk_R.of (hts _ (b_t7 i hl)) (S2 i hl)
  · exact va_Zqof (hts _ (List.mem_of_getElem? (i := 662) (by decide +kernel))) (hts _ (List.mem_of_getElem? (i := 105) (by decide +kernel))) (hs _ (by decide +kernel)) hA
theorem sl_Z.nar {A B : Nat → Prop} {z : sl_K} {U : State} (h : sl_Z A z U) (hAB : ∀ q, B q → A q) : sl_Z B z U := by
  obtain ⟨h1, h2, h3, h4, h5, h6, h7, h8⟩ := h
  refine ⟨h1.narrow hAB, h2.narrow hAB, h3.narrow hAB, h4.narrow hAB, h5.narrow hAB, h6.narrow hAB, h7, ?_⟩
  rcases h8 with h | ⟨t, h⟩
  · exact Or.inl (h.narrow hAB)
  · exact Or.inr ⟨t, h.narrow hAB⟩
end ST
/-! the two systems, new -/
def lf0 : Nat → Int32 := fun k => [(0 : Int32), 0, 0, 0, 0, 0, 0, 0, 0, 23, 10, 0, 1].getD k 0
def mX0 : sl_M := fun r => [lf0, zz, zz, zz, zz, zz, zz, zz, spx 10, lf0, zz, zz, zz, zz, zz, zz, zz, spx 10, lf0, zz, zz, zz, zz, zz, zz, zz, spx 10].getD r zz
def mR0 : sl_M := fun r => [zz, spr 10].getD r zz
theorem r0_all : ∀ i, i < 111 → spr 10 i = if i = 2 then 23 else if i = 3 then 10 else if i = 4 then 1 else if 101 ≤ i then -1 else 0 := by decide +kernel
theorem rel0 : Rel mX0 mR0 := by
  have hr : mR0 1 = spr 10 := rfl
  have z : ∀ i, 5 ≤ i → i < 101 → spr 10 i = 0 := fun i h1 h2 => by rw [r0_all i (by omega), if_neg (by omega), if_neg (by omega), if_neg (by omega), if_neg (by omega)]
  have x8 : ∀ k, k < 10 → spx 10 k = -1 := by decide +kernel
  have rl : RL mX0 0 (spr 10) := by
    refine ⟨fun c hc => ⟨(z _ (by omega) (by omega)).symm, (z _ (by omega) (by omega)).symm, (z _ (by omega) (by omega)).symm, ?_⟩, fun c hc => ⟨(z _ (by omega) (by omega)).symm, (z _ (by omega) (by omega)).symm, (z _ (by omega) (by omega)).symm⟩, fun c hc => ?_, by decide +kernel, by decide +kernel, by decide +kernel, by decide +kernel, by decide +kernel⟩
    · show (0 : Int32) = Stop (spr 10) c
      unfold Stop
      rw [z _ (by omega) (by omega), z _ (by omega) (by omega), z _ (by omega) (by omega)]
      decide
    · show spx 10 c = spr 10 (101 + c)
      rw [x8 c hc, r0_all _ (by omega), if_neg (by omega), if_neg (by omega), if_neg (by omega), if_pos (by omega)]
  have okk : ok (spr 10) := by
    refine ⟨⟨0, by omega, by decide +kernel⟩, ⟨0, by omega, by decide +kernel⟩, ⟨23, by omega, by omega, by decide +kernel⟩, ⟨10, by omega, by decide +kernel⟩, fun c hc => ⟨⟨0, by omega, z _ (by omega) (by omega)⟩, ⟨0, by omega, z _ (by omega) (by omega)⟩, ⟨0, by omega, z _ (by omega) (by omega)⟩⟩, fun c hc => ⟨⟨0, by omega, z _ (by omega) (by omega)⟩, ⟨0, by omega, z _ (by omega) (by omega)⟩, ⟨0, by omega, z _ (by omega) (by omega)⟩⟩, fun k hk => Or.inl ?_⟩
    rw [r0_all _ (by omega), if_neg (by omega), if_neg (by omega), if_neg (by omega), if_pos (by omega)]
  refine ⟨rl, okk, ⟨false, rfl, rfl, fun h => by cases h⟩, fun k hk => rfl, ⟨0, by omega, rfl, rfl, fun i hi => by omega⟩, fun t ht => ⟨rfl, rfl, 0, by omega, rfl, fun i hi => by omega⟩⟩
