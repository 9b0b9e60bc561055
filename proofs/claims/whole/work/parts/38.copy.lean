/-! copying from sheet to sheet -/
section CK
variable {X R : sl_M}
theorem toI_sub {n : Nat} (hn : n ≤ 40) {x : Int32} (hx : 0 ≤ x.toInt) : (nI n - x).toInt = n - x.toInt := by
  have h1 := Int32.toInt_lt x
  rw [Int32.toInt_sub, nI_toInt (by omega)]
  apply Int.bmod_eq_of_le <;> omega
/-- the class's test of a run is the reference's -/
theorem x_run {s n : Nat} (hs : s < 4) (hn : n ≤ 40) (e : X 33 s = nI n) (x y : Int32) : f1_hasRun (nI s) x y X = some (if x < 0 then 0 else if y < 0 then 0 else if nI n - x < y then 0 else 1) := by
  rw [f1_hasRun, pu_ld rfl hs (by omega), pu_b, pu_b, e]
  by_cases q : x < 0
  · rw [if_pos q, if_pos q]
  rw [if_neg q, if_neg q]
  by_cases q2 : y < 0
  · rw [if_pos q2, if_pos q2]
  rw [if_neg q2, if_neg q2]
  have x0 : 0 ≤ x.toInt := by rw [Int32.lt_iff_toInt_lt, show (0 : Int32).toInt = 0 by decide] at q; omega
  have y0 : 0 ≤ y.toInt := by rw [Int32.lt_iff_toInt_lt, show (0 : Int32).toInt = 0 by decide] at q2; omega
  have a1 : nI n < y ↔ (n : Int) < y.toInt := by rw [Int32.lt_iff_toInt_lt, nI_toInt (by omega)]
  have a2 : nI n - y < x ↔ (n : Int) - y.toInt < x.toInt := by rw [Int32.lt_iff_toInt_lt, toI_sub hn y0]
  have a3 : nI n - x < y ↔ (n : Int) - x.toInt < y.toInt := by rw [Int32.lt_iff_toInt_lt, toI_sub hn x0]
  by_cases z1 : nI n < y
  · rw [if_pos z1, if_pos (a3.mpr (by have := a1.mp z1; omega))]
  · rw [if_neg z1]
    by_cases z2 : nI n - y < x
    · rw [if_pos z2, if_pos (a3.mpr (by have := a2.mp z2; omega))]
    · rw [if_neg z2, if_neg (fun z => z2 (a2.mpr (by have := a3.mp z; omega)))]
theorem pu_cpg {M : sl_M} {a b n : Nat} {x y z : Int32} (ea : x = nI a) (eb : y = nI b) (en : z = nI n) (ha : a + n ≤ 160) (hb : b + n ≤ 160) : sl_cp M 34 160 34 160 x y z = some (fun r => if r = 34 then va_cpy (M 34) (M 34) a b n else M r) := by
  subst ea; subst eb; subst en
  unfold sl_cp
  rw [nI_clamp (by omega), nI_clamp (by omega), nI_clamp (by omega), if_neg]
  rintro (q | q | q | q | q)
  · exact nI_pos (by omega) q
  · exact nI_pos (by omega) q
  · exact nI_pos (by omega) q
  · omega
  · omega
theorem r_copy {M : sl_M} {s a t b n : Nat} (hs : s < 4) (ht : t < 4) (ha : a + n ≤ 40) (hb : b + n ≤ 40) : ∃ M2, f5_copy_121 (nI s) (nI a) (nI t) (nI b) (nI n) 400 0 M = some (nI n, M2) ∧ (∀ r, r ≠ 10 → r ≠ 11 → M2 r = M r) ∧ ∀ k, M2 10 k = if 40 * t + b ≤ k ∧ k < 40 * t + b + n then M 10 (40 * s + a + (k - (40 * t + b))) else M 10 k := by
  obtain ⟨M1, f2, ⟨m1, m2⟩, e1⟩ := pu_1 (F := fun f i (M : sl_M) => f5_copy_121 (nI s) (nI a) (nI t) (nI b) (nI n) f (nI i) M) (N := n) (fun i N => (∀ r, r ≠ 11 → N r = M r) ∧ ∀ k, k < i → N 11 k = M 10 (40 * s + a + k)) (by
    rintro i N hi ⟨m1, m2⟩
    refine ⟨sl_up N 11 i (M 10 (40 * s + a + i)), ⟨fun r hr => by rw [pu_upn hr]; exact m1 r hr, fun k hk => ?_⟩, fun f => ?_⟩
    · rw [pu_ups]
      by_cases q : k = i
      · subst q; exact pu_us
      · rw [pu_un q]; exact m2 k (by omega)
    · rw [f5_copy_121, if_neg (nI_ge hi (by omega)), pu_ld (k := 40 * s + a + i) (by rw [ixB, nI_add]) (by omega) (by omega), pu_b, m1 10 (by omega), pu_st rfl (show i < 40 by omega) (by omega), pu_b, nI_1]) n 0 M (by omega) ⟨fun _ _ => rfl, fun k hk => by omega⟩ (f := 400) (by omega)
  obtain ⟨M2, f3, ⟨k1, k2⟩, e2⟩ := pu_1 (F := fun f i (M : sl_M) => f5_copy_158 (nI t) (nI b) (nI n) f (nI i) M) (N := n) (fun i N => (∀ r, r ≠ 10 → N r = M1 r) ∧ ∀ k, N 10 k = if 40 * t + b ≤ k ∧ k < 40 * t + b + i then M 10 (40 * s + a + (k - (40 * t + b))) else M 10 k) (by
    rintro i N hi ⟨k1, k2⟩
    refine ⟨sl_up N 10 (40 * t + b + i) (M 10 (40 * s + a + i)), ⟨fun r hr => by rw [pu_upn hr]; exact k1 r hr, fun k => ?_⟩, fun f => ?_⟩
    · rw [pu_ups]
      by_cases q : k = 40 * t + b + i
      · subst q; rw [pu_us, if_pos (by omega), show 40 * t + b + i - (40 * t + b) = i by omega]
      · rw [pu_un q, k2 k]
        by_cases z : 40 * t + b ≤ k ∧ k < 40 * t + b + i
        · rw [if_pos z, if_pos (by omega)]
        · rw [if_neg z, if_neg (by omega)]
    · rw [f5_copy_158, if_neg (nI_ge hi (by omega)), pu_ld rfl (show i < 40 by omega) (by omega), pu_b, k1 11 (by omega), m2 i hi, pu_st (k := 40 * t + b + i) (by rw [ixB, nI_add]) (by omega) (by omega), pu_b, nI_1]) n 0 M1 (by omega) ⟨fun _ _ => rfl, fun k => by rw [if_neg (by omega), m1 10 (by omega)]⟩ (f := 400) (by omega)
  refine ⟨M2, ?_, fun r r1 r2 => by rw [k1 r r1, m1 r r2], k2⟩
  rw [show f5_copy_121 (nI s) (nI a) (nI t) (nI b) (nI n) 400 0 M = _ from e1, f5_copy_121, if_pos (nI_le (Nat.le_refl _) (by omega)), show f5_copy_158 (nI t) (nI b) (nI n) 400 0 M1 = _ from e2, f5_copy_158, if_pos (nI_le (Nat.le_refl _) (by omega))]
theorem st_copy (h : Rel X R) (x1 x2 x3 x4 x5 : Int32) : Stq (f4_copy x1 x2 x3 x4 x5 X) (f5_copy x1 x2 x3 x4 x5 R) := by
  rw [f4_copy, f5_copy, e_sheet, e_one, e_sheet, e_one]
  by_cases h1 : f4_isWithin x1 0 3 = 0
  · rw [if_pos h1, if_pos h1]; exact t0 h
  rw [if_neg h1, if_neg h1]
  by_cases h2 : f4_isWithin x3 0 3 = 0
  · rw [if_pos h2, if_pos h2]; exact t0 h
  rw [if_neg h2, if_neg h2]
  obtain ⟨s, hs, rfl⟩ := wi_n (n := 3) (b := 3) rfl h1
  obtain ⟨t, ht, rfl⟩ := wi_n (n := 3) (b := 3) rfl h2
  obtain ⟨c1, c2, n, c3, c4, c5⟩ := h.2.2.2.2.2 s (by omega)
  obtain ⟨d1, d2, m, d3, d4, d5⟩ := h.2.2.2.2.2 t (by omega)
  rw [f1_isMissing, f1_isMissing, pu_ld rfl (show s < 4 by omega) (by omega), pu_b, pu_b, pu_ld rfl (show t < 4 by omega) (by omega), pu_b, pu_b, pu_ld rfl (show s < 4 by omega) (by omega), pu_b, pu_b, pu_ld rfl (show t < 4 by omega) (by omega), pu_b, pu_b, pu_ld rfl (show s < 4 by omega) (by omega), pu_b, pu_ld rfl (show t < 4 by omega) (by omega), pu_b, c1, d1, c4, d4, x_run (by omega) c3 (c2.trans c4), pu_b, x_run (by omega) d3 (d2.trans d4), pu_b]
  by_cases q1 : R 8 s = 0
  · rw [if_pos q1, if_pos q1, pu_b, if_neg (by decide)]; exact t5 h
  rw [if_neg q1, if_neg q1, pu_b, if_pos rfl]
  by_cases q2 : R 8 t = 0
  · rw [if_pos q2, if_pos q2, pu_b, if_neg (by decide)]; exact t5 h
  rw [if_neg q2, if_neg q2, pu_b, if_pos rfl]
  by_cases q3 : R 8 s = R 8 t
  · rw [if_pos q3, if_pos q3]
    by_cases z1 : x2 < 0
    · rw [if_pos z1, if_pos z1, if_pos rfl]; exact t0 h
    rw [if_neg z1, if_neg z1]
    by_cases z3 : x5 < 0
    · simp only [if_pos z3, if_pos, ite_self]; exact t0 h
    simp only [if_neg z3]
    by_cases z4 : nI n - x2 < x5
    · simp only [if_pos z4, if_pos, ite_self]; exact t0 h
    simp only [if_neg z4]
    rw [if_neg (show ¬ (1 : Int32) = 0 by decide)]
    by_cases z2 : x4 < 0
    · rw [if_pos z2, if_pos z2, if_pos rfl]; exact t0 h
    rw [if_neg z2, if_neg z2]
    by_cases z5 : nI m - x4 < x5
    · rw [if_pos z5, if_pos rfl, if_neg (not_le32.mpr z5)]; exact t0 h
    rw [if_neg z5, if_neg (show ¬ (1 : Int32) = 0 by decide), if_pos (not_lt32.mp z5)]
    obtain ⟨a, ha, rfl⟩ := nI_of z1
    obtain ⟨k, hk, rfl⟩ := nI_of z3
    obtain ⟨b, hb, rfl⟩ := nI_of z2
    have l1 : a + k ≤ n := by
      rw [Int32.lt_iff_toInt_lt, toI_sub c3 (by rw [nI_toInt ha]; omega), nI_toInt ha, nI_toInt hk] at z4
      omega
    have l2 : b + k ≤ m := by
      rw [Int32.lt_iff_toInt_lt, toI_sub d3 (by rw [nI_toInt hb]; omega), nI_toInt hb, nI_toInt hk] at z5
      omega
    obtain ⟨R2, r1, r2, r3⟩ := r_copy (M := R) (s := s) (a := a) (t := t) (b := b) (n := k) (by omega) (by omega) (by omega) (by omega)
    rw [f1_move, pu_cpg (ixA s a) (ixA t b) rfl (by omega) (by omega), pu_b, pu_b, r1]
    refine Stq.of (h.sh (fun r _ _ w => if_neg w) (fun r _ _ w1 w2 => r2 r w1 w2) (fun u hu => ?_))
    obtain ⟨g1, g2, p, g3, g4, g5⟩ := h.2.2.2.2.2 u hu
    rw [if_neg (by omega), if_neg (by omega), if_pos rfl, r2 8 (by omega) (by omega), r2 9 (by omega) (by omega)]
    refine ⟨g1, g2, p, g3, g4, fun i hi => ?_⟩
    rw [r3]
    by_cases w : 40 * t + b ≤ 40 * u + i ∧ 40 * u + i < 40 * t + b + k
    · rw [pk_cpy_in w.1 w.2, if_pos w]
      have := c5 (a + (40 * u + i - (40 * t + b))) (by omega)
      rw [show 40 * s + (a + (40 * u + i - (40 * t + b))) = 40 * s + a + (40 * u + i - (40 * t + b)) by omega] at this
      exact this
    · rw [pk_cpy_out (by omega), if_neg w]; exact g5 i hi
  · rw [if_neg q3, if_neg q3]; exact t2 h
end CK
