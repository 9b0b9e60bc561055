/-! the law's loop -/
section LL
variable {D : va_G} {cA : ClassId} {gX gR : Nat → Nat} {z : sl_K} {p : Program} {l : Launch} {e : Env} {s : State} {m : MethodId} {below : List Frame} {meth : Method} {c : Code} {b L : Nat} {xs : Nat → Int32}
theorem law_sw (C : lj_C D cA gX gR z p s m meth c b L xs) {i : Nat} {MX MR : sl_M} (hi : i + 6 ≤ L) (h : Rel MX MR) (kk : ∀ MX2 MR2, Rel MX2 MR2 → lj_A D cA gX gR p l e s m below meth c b 1752 (lj_v gX gR b i) [] MX2 MR2) : lj_A D cA gX gR p l e s m below meth c b 33 (lj_v gX gR b i) [.int (xs i &&& 63)] MX MR := by
  obtain ⟨j, hj, ej⟩ := pk_andE (xs i) (m := 63) 6 (by decide +kernel)
  rcases (show j = 0 ∨ j = 1 ∨ j = 2 ∨ j = 3 ∨ j = 4 ∨ j = 5 ∨ j = 6 ∨ j = 7 ∨ j = 8 ∨ j = 9 ∨ j = 10 ∨ j = 11 ∨ j = 12 ∨ j = 13 ∨ j = 14 ∨ j = 15 ∨ j = 16 ∨ j = 17 ∨ j = 18 ∨ j = 19 ∨ j = 20 ∨ j = 21 ∨ j = 22 ∨ j = 23 ∨ j = 24 ∨ j = 25 ∨ j = 26 ∨ j = 27 ∨ j = 28 ∨ j = 29 ∨ j = 30 ∨ j = 31 ∨ j = 32 ∨ j = 33 ∨ j = 34 ∨ j = 35 ∨ j = 36 ∨ j = 37 ∨ j = 38 ∨ j = 39 ∨ j = 40 ∨ j = 41 ∨ j = 42 ∨ j = 43 ∨ j = 44 ∨ j = 45 ∨ j = 46 ∨ j = 47 ∨ j = 48 ∨ j = 49 ∨ j = 50 ∨ j = 51 ∨ 52 ≤ j by omega) with rfl | rfl | rfl | rfl | rfl | rfl | rfl | rfl | rfl | rfl | rfl | rfl | rfl | rfl | rfl | rfl | rfl | rfl | rfl | rfl | rfl | rfl | rfl | rfl | rfl | rfl | rfl | rfl | rfl | rfl | rfl | rfl | rfl | rfl | rfl | rfl | rfl | rfl | rfl | rfl | rfl | rfl | rfl | rfl | rfl | rfl | rfl | rfl | rfl | rfl | rfl | rfl | hj2
  · exact lj_swIn C (tgt := 256) dL_33 ej ⟨by decide, by decide, rfl⟩ (by decide) (law_c0 C hi h kk)
  · exact lj_swIn C (tgt := 299) dL_33 ej ⟨by decide, by decide, rfl⟩ (by decide) (law_c1 C hi h kk)
  · exact lj_swIn C (tgt := 332) dL_33 ej ⟨by decide, by decide, rfl⟩ (by decide) (law_c2 C hi h kk)
  · exact lj_swIn C (tgt := 365) dL_33 ej ⟨by decide, by decide, rfl⟩ (by decide) (law_c3 C hi h kk)
  · exact lj_swIn C (tgt := 398) dL_33 ej ⟨by decide, by decide, rfl⟩ (by decide) (law_c4 C hi h kk)
  · exact lj_swIn C (tgt := 431) dL_33 ej ⟨by decide, by decide, rfl⟩ (by decide) (law_c5 C hi h kk)
  · exact lj_swIn C (tgt := 464) dL_33 ej ⟨by decide, by decide, rfl⟩ (by decide) (law_c6 C hi h kk)
  · exact lj_swIn C (tgt := 497) dL_33 ej ⟨by decide, by decide, rfl⟩ (by decide) (law_c7 C hi h kk)
  · exact lj_swIn C (tgt := 530) dL_33 ej ⟨by decide, by decide, rfl⟩ (by decide) (law_c8 C hi h kk)
  · exact lj_swIn C (tgt := 573) dL_33 ej ⟨by decide, by decide, rfl⟩ (by decide) (law_c9 C hi h kk)
  · exact lj_swIn C (tgt := 596) dL_33 ej ⟨by decide, by decide, rfl⟩ (by decide) (law_c10 C hi h kk)
  · exact lj_swIn C (tgt := 619) dL_33 ej ⟨by decide, by decide, rfl⟩ (by decide) (law_c11 C hi h kk)
  · exact lj_swIn C (tgt := 652) dL_33 ej ⟨by decide, by decide, rfl⟩ (by decide) (law_c12 C hi h kk)
  · exact lj_swIn C (tgt := 675) dL_33 ej ⟨by decide, by decide, rfl⟩ (by decide) (law_c13 C hi h kk)
  · exact lj_swIn C (tgt := 698) dL_33 ej ⟨by decide, by decide, rfl⟩ (by decide) (law_c14 C hi h kk)
  · exact lj_swIn C (tgt := 731) dL_33 ej ⟨by decide, by decide, rfl⟩ (by decide) (law_c15 C hi h kk)
  · exact lj_swIn C (tgt := 754) dL_33 ej ⟨by decide, by decide, rfl⟩ (by decide) (law_c16 C hi h kk)
  · exact lj_swIn C (tgt := 767) dL_33 ej ⟨by decide, by decide, rfl⟩ (by decide) (law_c17 C hi h kk)
  · exact lj_swIn C (tgt := 790) dL_33 ej ⟨by decide, by decide, rfl⟩ (by decide) (law_c18 C hi h kk)
  · exact lj_swIn C (tgt := 813) dL_33 ej ⟨by decide, by decide, rfl⟩ (by decide) (law_c19 C hi h kk)
  · exact lj_swIn C (tgt := 846) dL_33 ej ⟨by decide, by decide, rfl⟩ (by decide) (law_c20 C hi h kk)
  · exact lj_swIn C (tgt := 869) dL_33 ej ⟨by decide, by decide, rfl⟩ (by decide) (law_c21 C hi h kk)
  · exact lj_swIn C (tgt := 912) dL_33 ej ⟨by decide, by decide, rfl⟩ (by decide) (law_c22 C hi h kk)
  · exact lj_swIn C (tgt := 955) dL_33 ej ⟨by decide, by decide, rfl⟩ (by decide) (law_c23 C hi h kk)
  · exact lj_swIn C (tgt := 978) dL_33 ej ⟨by decide, by decide, rfl⟩ (by decide) (law_c24 C hi h kk)
  · exact lj_swIn C (tgt := 1001) dL_33 ej ⟨by decide, by decide, rfl⟩ (by decide) (law_c25 C hi h kk)
  · exact lj_swIn C (tgt := 1014) dL_33 ej ⟨by decide, by decide, rfl⟩ (by decide) (law_c26 C hi h kk)
  · exact lj_swIn C (tgt := 1027) dL_33 ej ⟨by decide, by decide, rfl⟩ (by decide) (law_c27 C hi h kk)
  · exact lj_swIn C (tgt := 1040) dL_33 ej ⟨by decide, by decide, rfl⟩ (by decide) (law_c28 C hi h kk)
  · exact lj_swIn C (tgt := 1083) dL_33 ej ⟨by decide, by decide, rfl⟩ (by decide) (law_c29 C hi h kk)
  · exact lj_swIn C (tgt := 1136) dL_33 ej ⟨by decide, by decide, rfl⟩ (by decide) (law_c30 C hi h kk)
  · exact lj_swIn C (tgt := 1169) dL_33 ej ⟨by decide, by decide, rfl⟩ (by decide) (law_c31 C hi h kk)
  · exact lj_swIn C (tgt := 1192) dL_33 ej ⟨by decide, by decide, rfl⟩ (by decide) (law_c32 C hi h kk)
  · exact lj_swIn C (tgt := 1225) dL_33 ej ⟨by decide, by decide, rfl⟩ (by decide) (law_c33 C hi h kk)
  · exact lj_swIn C (tgt := 1258) dL_33 ej ⟨by decide, by decide, rfl⟩ (by decide) (law_c34 C hi h kk)
  · exact lj_swIn C (tgt := 1281) dL_33 ej ⟨by decide, by decide, rfl⟩ (by decide) (law_c35 C hi h kk)
  · exact lj_swIn C (tgt := 1304) dL_33 ej ⟨by decide, by decide, rfl⟩ (by decide) (law_c36 C hi h kk)
  · exact lj_swIn C (tgt := 1327) dL_33 ej ⟨by decide, by decide, rfl⟩ (by decide) (law_c37 C hi h kk)
  · exact lj_swIn C (tgt := 1360) dL_33 ej ⟨by decide, by decide, rfl⟩ (by decide) (law_c38 C hi h kk)
  · exact lj_swIn C (tgt := 1373) dL_33 ej ⟨by decide, by decide, rfl⟩ (by decide) (law_c39 C hi h kk)
  · exact lj_swIn C (tgt := 1386) dL_33 ej ⟨by decide, by decide, rfl⟩ (by decide) (law_c40 C hi h kk)
  · exact lj_swIn C (tgt := 1419) dL_33 ej ⟨by decide, by decide, rfl⟩ (by decide) (law_c41 C hi h kk)
  · exact lj_swIn C (tgt := 1452) dL_33 ej ⟨by decide, by decide, rfl⟩ (by decide) (law_c42 C hi h kk)
  · exact lj_swIn C (tgt := 1495) dL_33 ej ⟨by decide, by decide, rfl⟩ (by decide) (law_c43 C hi h kk)
  · exact lj_swIn C (tgt := 1538) dL_33 ej ⟨by decide, by decide, rfl⟩ (by decide) (law_c44 C hi h kk)
  · exact lj_swIn C (tgt := 1601) dL_33 ej ⟨by decide, by decide, rfl⟩ (by decide) (law_c45 C hi h kk)
  · exact lj_swIn C (tgt := 1634) dL_33 ej ⟨by decide, by decide, rfl⟩ (by decide) (law_c46 C hi h kk)
  · exact lj_swIn C (tgt := 1667) dL_33 ej ⟨by decide, by decide, rfl⟩ (by decide) (law_c47 C hi h kk)
  · exact lj_swIn C (tgt := 1680) dL_33 ej ⟨by decide, by decide, rfl⟩ (by decide) (law_c48 C hi h kk)
  · exact lj_swIn C (tgt := 1693) dL_33 ej ⟨by decide, by decide, rfl⟩ (by decide) (law_c49 C hi h kk)
  · exact lj_swIn C (tgt := 1706) dL_33 ej ⟨by decide, by decide, rfl⟩ (by decide) (law_c50 C hi h kk)
  · exact lj_swIn C (tgt := 1729) dL_33 ej ⟨by decide, by decide, rfl⟩ (by decide) (law_c51 C hi h kk)
  · refine lj_swOut C (tgt := 1752) dL_33 (Or.inr ?_) (by decide) (kk MX MR h)
    rw [ej, nI_toInt (by omega)]
    omega
theorem law_loop (C : lj_C D cA gX gR z p s m meth c b L xs) : ∀ (n i : Nat) (MX MR : sl_M), L < i + 6 * n + 6 → i ≤ 1000 → Rel MX MR → lj_A D cA gX gR p l e s m below meth c b 18 (lj_v gX gR b i) [] MX MR := by
  have hL := C.2.2.2.2.2.2.2.2.2.2.2.2.1
  intro n
  induction n with
  | zero =>
    intro i MX MR hn hi h
    refine lj_iload C dL_18 rfl 3 rfl ?_
    refine lj_aload C dL_19 rfl 0 rfl ?_
    refine lj_slen C dL_20 ?_
    refine lj_bipush (v := 6) C dL_21 (by decide) ?_
    refine lj_isub C dL_23 ?_
    refine lj_gt C (tgt := 1758) dL_24 (by decide) (fun q => ?_) (fun q => ?_)
    · refine lj_iconst (v := 1) C dL_1758 (by decide) ?_
      exact lj_end C dL_1759
    · exfalso
      rw [Int32.lt_iff_toInt_lt, show nI L - 6 = nI L - nI 6 from rfl, pk_sub_toInt (by omega) (by omega), nI_toInt (by omega)] at q
      omega
  | succ n ih =>
    intro i MX MR hn hi h
    refine lj_iload C dL_18 rfl 3 rfl ?_
    refine lj_aload C dL_19 rfl 0 rfl ?_
    refine lj_slen C dL_20 ?_
    refine lj_bipush (v := 6) C dL_21 (by decide) ?_
    refine lj_isub C dL_23 ?_
    refine lj_gt C (tgt := 1758) dL_24 (by decide) (fun q => ?_) (fun q => ?_)
    · refine lj_iconst (v := 1) C dL_1758 (by decide) ?_
      exact lj_end C dL_1759
    · have hi6 : i + 6 ≤ L := by
        rw [Int32.lt_iff_toInt_lt, show nI L - 6 = nI L - nI 6 from rfl, pk_sub_toInt (by omega) (by omega), nI_toInt (by omega)] at q
        omega
      refine lj_aload C dL_27 rfl 0 rfl ?_
      refine lj_iload C dL_28 rfl 3 rfl ?_
      refine lj_sld C rfl (by omega) dL_29 ?_
      refine lj_bipush (v := 63) C dL_30 (by decide) ?_
      refine lj_iand C dL_32 ?_
      refine law_sw C hi6 h (fun MX2 MR2 h2 => ?_)
      refine lj_iinc C (v := nI (i + 6)) (lv2 := [(3, .int (nI (i + 6))), (0, .ref b), (1, .ref (gX 27)), (2, .ref (gR 0))]) dL_1752 3 rfl (nI_add i 6) (by decide) rfl ?_
      refine lj_goto C (tgt := 18) dL_1755 (by decide) ?_
      refine lj_pick [1, 2, 3, 0] rfl ?_
      exact ih (i + 6) MX2 MR2 (by omega) (by omega) h2
end LL
theorem sl_D.of {L : List sl_E} {cA : ClassId} {g : Nat → Nat} {M : sl_M} {A : Nat → Prop} (h : va_D A (sl_w L cA g M)) : sl_D L g A :=
  ⟨fun i j hi hj e => h.1 i j _ _ (sl_w_get (List.getElem?_eq_getElem hi)) (sl_w_get (List.getElem?_eq_getElem hj)) e, fun r hr => h.2 r _ (sl_w_get (List.getElem?_eq_getElem hr))⟩
