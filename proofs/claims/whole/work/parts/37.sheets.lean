/-! the sheets -/
section CJ
variable {X R : sl_M}
theorem e_sheet (x : Int32) : f1_isSheet x = f4_isWithin x 0 3 := by
  have : (4 : Int32) ≤ x ↔ (3 : Int32) < x := by
    rw [Int32.le_iff_toInt_le, Int32.lt_iff_toInt_lt]
    have e1 : (4 : Int32).toInt = 4 := by decide
    have e0 : (3 : Int32).toInt = 3 := by decide
    rw [e1, e0]
    omega
  unfold f1_isSheet f4_isWithin
  by_cases q : (3 : Int32) < x
  · rw [if_pos q, if_pos (this.mpr q)]
  · rw [if_neg q, if_neg (fun z => q (this.mp z))]
theorem e_one (x : Int32) : f5_isOne x = f4_isWithin x 0 3 := in_w x 0 3
theorem ixA (s i : Nat) : nI s * (40 : Int32) + nI i = nI (40 * s + i) := by
  rw [show (40 : Int32) = nI 40 from rfl, pk_mul, nI_add, Nat.mul_comm]
theorem ixB (s i : Nat) : (40 : Int32) * nI s + nI i = nI (40 * s + i) := by
  rw [show (40 : Int32) = nI 40 from rfl, pk_mul, nI_add]
theorem x_zero {M : sl_M} {s n : Nat} (hs : s < 4) (hn : n ≤ 40) : ∃ M2, f1_make_17 (nI s) (nI n) 400 0 M = some M2 ∧ (∀ r, r ≠ 34 → M2 r = M r) ∧ ∀ k, M2 34 k = if 40 * s ≤ k ∧ k < 40 * s + n then 0 else M 34 k := by
  obtain ⟨M2, f2, ⟨m1, m2⟩, e⟩ := pu_1 (F := fun f i (M : sl_M) => f1_make_17 (nI s) (nI n) f (nI i) M) (N := n) (fun i N => (∀ r, r ≠ 34 → N r = M r) ∧ ∀ k, N 34 k = if 40 * s ≤ k ∧ k < 40 * s + i then 0 else M 34 k) (by
    rintro i N hi ⟨m1, m2⟩
    refine ⟨sl_up N 34 (40 * s + i) 0, ⟨fun r hr => by rw [pu_upn hr]; exact m1 r hr, fun k => ?_⟩, fun f => ?_⟩
    · rw [pu_ups]
      by_cases q : k = 40 * s + i
      · subst q; rw [pu_us, if_pos (by omega)]
      · rw [pu_un q, m2 k]
        by_cases z : 40 * s ≤ k ∧ k < 40 * s + i
        · rw [if_pos z, if_pos (by omega)]
        · rw [if_neg z, if_neg (by omega)]
    · rw [f1_make_17, if_neg (nI_ge hi (by omega)), pu_st (ixA s i) (by omega) (by omega), pu_b, nI_1]) n 0 M (by omega) ⟨fun _ _ => rfl, fun k => by rw [if_neg (by omega)]⟩ (f := 400) (by omega)
  refine ⟨M2, ?_, m1, m2⟩
  rw [show f1_make_17 (nI s) (nI n) 400 0 M = _ from e, f1_make_17, if_pos (nI_le (Nat.le_refl _) (by omega))]
theorem r_zero {M : sl_M} {s : Nat} (hs : s < 4) : ∃ M2, f5_sheet_86 (nI s) 400 0 M = some (M 9 s, M2) ∧ (∀ r, r ≠ 10 → M2 r = M r) ∧ ∀ k, M2 10 k = if 40 * s ≤ k ∧ k < 40 * s + 40 then 0 else M 10 k := by
  obtain ⟨M2, f2, ⟨m1, m2⟩, e⟩ := pu_1 (F := fun f i (M : sl_M) => f5_sheet_86 (nI s) f (nI i) M) (N := 40) (fun i N => (∀ r, r ≠ 10 → N r = M r) ∧ ∀ k, N 10 k = if 40 * s ≤ k ∧ k < 40 * s + i then 0 else M 10 k) (by
    rintro i N hi ⟨m1, m2⟩
    refine ⟨sl_up N 10 (40 * s + i) 0, ⟨fun r hr => by rw [pu_upn hr]; exact m1 r hr, fun k => ?_⟩, fun f => ?_⟩
    · rw [pu_ups]
      by_cases q : k = 40 * s + i
      · subst q; rw [pu_us, if_pos (by omega)]
      · rw [pu_un q, m2 k]
        by_cases z : 40 * s ≤ k ∧ k < 40 * s + i
        · rw [if_pos z, if_pos (by omega)]
        · rw [if_neg z, if_neg (by omega)]
    · rw [f5_sheet_86, if_neg (lge (x := 40) (N := 40) rfl hi (by omega)), pu_st (ixB s i) (by omega) (by omega), pu_b, nI_1]) 40 0 M (by omega) ⟨fun _ _ => rfl, fun k => by rw [if_neg (by omega)]⟩ (f := 400) (by omega)
  refine ⟨M2, ?_, m1, m2⟩
  rw [show f5_sheet_86 (nI s) 400 0 M = _ from e, f5_sheet_86, if_pos (by decide), pu_ld rfl hs (by omega), pu_b, m1 9 (by omega)]
theorem s_make (h : Rel X R) {s n : Nat} (hs : s < 4) (hn : n ≤ 40) (w : Int32) : Stq (f4_sheet_73 (nI s) (nI n) w (nI s) X) ((sl_st (sl_up R 8 s w) 9 4 (nI s) (nI n)).bind fun M5 => f5_sheet_86 (nI s) 400 (0 : Int32) M5) := by
  obtain ⟨X2, a1, a2, a3⟩ := x_zero (M := sl_up (sl_up X 32 s w) 33 s (nI n)) hs hn
  obtain ⟨R2, b1', b2, b3⟩ := r_zero (M := sl_up (sl_up R 8 s w) 9 s (nI n)) hs
  rw [f4_sheet_73, f1_make, pu_st rfl hs (by omega), pu_b, pu_st rfl hs (by omega), pu_b, a1, pu_b, pu_ld rfl hs (by omega), pu_b, pu_st rfl hs (by omega), pu_b, b1', a2 33 (by omega), pu_ups, pu_us, pu_ups, pu_us]
  refine Stq.of (h.sh (fun r r1 r2 r3 => by rw [a2 r r3, pu_upn r2, pu_upn r1]) (fun r r1 r2 r3 r4 => by rw [b2 r r3, pu_upn r2, pu_upn r1]) (fun t ht => ?_))
  obtain ⟨c1, c2, m, c3, c4, c5⟩ := h.2.2.2.2.2 t ht
  rw [a2 32 (by omega), a2 33 (by omega), b2 8 (by omega), b2 9 (by omega), pu_upn (show 32 ≠ 33 by omega), pu_upn (show 8 ≠ 9 by omega), pu_ups, pu_ups, pu_ups, pu_ups, pu_upn (show 33 ≠ 32 by omega), pu_upn (show 9 ≠ 8 by omega)]
  by_cases q : t = s
  · subst q
    rw [pu_us, pu_us, pu_us, pu_us]
    refine ⟨rfl, rfl, n, hn, rfl, fun i hi => ?_⟩
    rw [a3, b3, if_pos (by omega), if_pos (by omega)]
  · rw [pu_un q, pu_un q, pu_un q, pu_un q]
    refine ⟨c1, c2, m, c3, c4, fun i hi => ?_⟩
    rw [a3, b3, if_neg (by omega), if_neg (by omega), pu_upn (by omega), pu_upn (by omega), pu_upn (by omega), pu_upn (by omega)]
    exact c5 i hi
theorem s_sh35 (h : Rel X R) {s : Nat} (hs : s < 4) (w x3 : Int32) : Stq (f4_sheet_35 (nI s) w x3 X) (f5_sheet_36 (nI s) w x3 R) := by
  rw [f4_sheet_35, f5_sheet_36]
  by_cases h1 : 0 ≤ x3
  · rw [if_pos h1, if_pos h1]
    by_cases h2 : x3 ≤ 40
    · rw [if_pos h2, if_pos h2, pu_st rfl hs (by omega), pu_b]
      obtain ⟨n, hn, rfl⟩ := nI_of2 (x := x3) (M := 40) (n := 40) rfl (not_lt32.mpr h1) h2
      by_cases q : w = 0
      · rw [if_pos q, if_pos q]; exact s_make h hs (n := 0) (by omega) w
      · rw [if_neg q, if_neg q]; exact s_make h hs hn w
    · rw [if_neg h2, if_neg h2]; exact t0 h
  · rw [if_neg h1, if_neg h1]; exact t6 h
theorem st_sheet (h : Rel X R) (x1 x2 x3 : Int32) : Stq (f4_sheet x1 x2 x3 X) (f5_sheet x1 x2 x3 R) := by
  rw [f4_sheet, f5_sheet, e_sheet, e_one]
  by_cases h1 : f4_isWithin x1 0 3 = 0
  · rw [if_pos h1, if_pos h1]; exact t0 h
  · rw [if_neg h1, if_neg h1]
    obtain ⟨s, hs, rfl⟩ := wi_n (n := 3) (b := 3) rfl h1
    have m := s_sh35 h (s := s) (by omega) x2 x3
    by_cases q0 : x2 = 0
    · rw [if_pos q0, if_pos q0]; exact m
    rw [if_neg q0, if_neg q0]
    by_cases q1 : x2 = 8
    · rw [if_pos q1, if_pos q1]; exact m
    rw [if_neg q1, if_neg q1]
    by_cases q2 : x2 = 16
    · rw [if_pos q2, if_pos q2]; exact m
    rw [if_neg q2, if_neg q2]
    by_cases q3 : x2 = 32
    · rw [if_pos q3, if_pos q3]; exact m
    rw [if_neg q3, if_neg q3]
    exact t0 h
/-- a sheet that is there, or what is told -/
theorem s_there (h : Rel X R) (x1 : Int32) {A B : Option (Int32 × sl_M)} (hm : ∀ s, s < 4 → x1 = nI s → ¬ R 8 s = 0 → Stq A B) :
    Stq (if f1_isSheet x1 = 0 then ((f4_tell (0 : Int32) X).bind fun r7 => some (r7.1, r7.2)) else (f1_isMissing x1 X).bind fun r2 => if r2 = 0 then A else (f4_tell (5 : Int32) X).bind fun r6 => some (r6.1, r6.2))
      ((f5_wrong x1 R).bind fun r1 => if r1 = 0 then B else (f5_finds r1 R).bind fun r5 => some (r5.1, r5.2)) := by
  rw [f5_wrong, e_sheet, e_one]
  by_cases h1 : f4_isWithin x1 0 3 = 0
  · rw [if_pos h1, if_pos h1, pu_b, if_neg (by decide)]; exact t0 h
  · rw [if_neg h1, if_neg h1]
    obtain ⟨s, hs, rfl⟩ := wi_n (n := 3) (b := 3) rfl h1
    rw [f1_isMissing, pu_ld rfl (show s < 4 by omega) (by omega), pu_b, pu_ld rfl (show s < 4 by omega) (by omega), pu_b, (h.2.2.2.2.2 s (by omega)).1]
    by_cases q : R 8 s = 0
    · rw [if_pos q, if_pos q, pu_b, pu_b, if_neg (by decide), if_neg (by decide)]; exact t5 h
    · rw [if_neg q, if_neg q, pu_b, pu_b, if_pos rfl, if_pos rfl]; exact hm s (by omega) rfl q
theorem x_run1 (h : Rel X R) {s : Nat} (hs : s < 4) (x : Int32) : f1_hasRun (nI s) x 1 X = some (f4_isWithin x 0 (R 9 s - 1)) := by
  obtain ⟨c1, c2, n, c3, c4, -⟩ := h.2.2.2.2.2 s hs
  rw [f1_hasRun, f4_isWithin, pu_ld rfl hs (by omega), pu_b, pu_b, c2, c4]
  by_cases q : x < 0
  · rw [if_pos q, if_pos q]
  · rw [if_neg q, if_neg q, if_neg (show ¬ (1 : Int32) < 0 by decide)]
    by_cases z : n = 0
    · subst z
      rw [if_pos (show nI 0 < 1 by decide), if_pos (show nI 0 - 1 < x from ?_)]
      obtain ⟨j, hj, rfl⟩ := nI_of q
      rw [Int32.lt_iff_toInt_lt, nI_toInt hj, show (nI 0 - 1).toInt = -1 by decide]
      omega
    · rw [if_neg (lnt (x := 1) (N := 1) rfl (show 1 ≤ n by omega) (by omega))]
      by_cases w : nI n - 1 < x
      · rw [if_pos w, if_pos w]
      · rw [if_neg w, if_neg w]
theorem st_write (h : Rel X R) (x1 x2 x3 : Int32) : Stq (f4_write x1 x2 x3 X) (f5_write x1 x2 x3 R) := by
  rw [f4_write, f5_write]
  refine s_there h x1 (fun s hs e q => ?_)
  subst e
  obtain ⟨c1, c2, n, c3, c4, c5⟩ := h.2.2.2.2.2 s hs
  rw [x_run1 h hs, pu_b, pu_ld rfl hs (by omega), pu_b, in_w' x2 (R 9 s - 1)]
  by_cases h1 : f4_isWithin x2 0 (R 9 s - 1) = 0
  · rw [if_pos h1, if_pos h1]; exact t0 h
  · rw [if_neg h1, if_neg h1]
    have hn : ∃ i, i < n ∧ x2 = nI i := by
      rw [c4] at h1
      obtain ⟨g1, g2⟩ := wi_yes h1
      obtain ⟨j, hj, rfl⟩ := nI_of g1
      refine ⟨j, ?_, rfl⟩
      rcases Nat.eq_zero_or_pos n with z | z
      · subst z
        exfalso
        apply g2
        rw [Int32.lt_iff_toInt_lt, nI_toInt hj, show (nI 0 - 1).toInt = -1 by decide]
        omega
      · rw [show nI n - 1 = nI (n - 1) from pk_sub (b := 1) z, Int32.lt_iff_toInt_lt, nI_toInt hj, nI_toInt (by omega)] at g2
        omega
    obtain ⟨i, hi, rfl⟩ := hn
    rw [f1_put, pu_ld rfl hs (by omega), pu_b, pu_st (ixA s i) (by omega) (by omega), pu_b, pu_b, pu_ld rfl hs (by omega), pu_b, pu_st (ixB s i) (by omega) (by omega), pu_b, c1, show f1_cutTo (R 8 s) x3 = f5_narrowed (R 8 s) x3 from rfl]
    refine Stq.of (h.sh (fun r r1 r2 r3 => by rw [pu_upn r3]) (fun r r1 r2 r3 r4 => by rw [pu_upn r3]) (fun t ht => ?_))
    obtain ⟨d1, d2, m, d3, d4, d5⟩ := h.2.2.2.2.2 t ht
    rw [pu_upn (show 32 ≠ 34 by omega), pu_upn (show 33 ≠ 34 by omega), pu_upn (show 8 ≠ 10 by omega), pu_upn (show 9 ≠ 10 by omega)]
    refine ⟨d1, d2, m, d3, d4, fun k hk => ?_⟩
    rw [pu_ups, pu_ups]
    by_cases z : 40 * t + k = 40 * s + i
    · rw [z, pu_us, pu_us]
    · rw [pu_un z, pu_un z]; exact d5 k hk
theorem st_load (h : Rel X R) (x1 x2 : Int32) : Stq (f4_load x1 x2 X) (f5_load x1 x2 R) := by
  rw [f4_load, f5_load]
  refine s_there h x1 (fun s hs e q => ?_)
  subst e
  rw [e_cell]
  by_cases h1 : f4_isCell x2 = 0
  · rw [if_pos h1, if_pos h1]; exact t0 h
  · rw [if_neg h1, if_neg h1]
    obtain ⟨a, ha, rfl⟩ := cellN h1
    have main : ∀ (k i f : Nat) (X R : sl_M), Rel X R → i + k = 40 → k < f → Stq (f4_load_45 (nI s) (nI a) f (nI i) X) (f5_load_33 (nI s) (nI a) f (nI i) R) := by
      intro k
      induction k with
      | zero =>
        intro i f X R h hi hf
        obtain ⟨f, rfl⟩ : ∃ z, f = z + 1 := ⟨f - 1, by omega⟩
        obtain ⟨c1, c2, n, c3, c4, c5⟩ := h.2.2.2.2.2 s hs
        rw [f4_load_45, f5_load_33, pu_ld rfl hs (by omega), pu_b, pu_ld rfl hs (by omega), pu_b, c2, c4, if_pos (nI_le (show n ≤ i by omega) (by omega)), if_pos (nI_le (show n ≤ i by omega) (by omega))]
        exact Stq.of h
      | succ k ih =>
        intro i f X R h hi hf
        obtain ⟨f, rfl⟩ : ∃ z, f = z + 1 := ⟨f - 1, by omega⟩
        obtain ⟨c1, c2, n, c3, c4, c5⟩ := h.2.2.2.2.2 s hs
        rw [f4_load_45, f5_load_33, pu_ld rfl hs (by omega), pu_b, pu_ld rfl hs (by omega), pu_b, c2, c4]
        by_cases z : n ≤ i
        · rw [if_pos (nI_le z (by omega)), if_pos (nI_le z (by omega))]; exact Stq.of h
        · rw [if_neg (nI_ge (show i < n by omega) (by omega)), if_neg (nI_ge (show i < n by omega) (by omega)), nI_add]
          by_cases z2 : 24 ≤ a + i
          · have e : f4_isCell (nI (a + i)) = 0 := by
              rw [show f4_isCell (nI (a + i)) = f4_isWithin (nI (a + i)) 0 23 from rfl, f4_isWithin, if_neg (nI_pos (by omega)), if_pos (lgt (x := 23) (N := 23) rfl (by omega) (by omega))]
            rw [if_pos e, if_pos (lle (x := 24) (N := 24) rfl z2 (by omega))]; exact Stq.of h
          · have e : ¬ f4_isCell (nI (a + i)) = 0 := by
              rw [show f4_isCell (nI (a + i)) = f4_isWithin (nI (a + i)) 0 23 from rfl, f4_isWithin, if_neg (nI_pos (by omega)), if_neg (lnl (x := 23) (N := 23) rfl (by omega) (by omega))]
              decide
            rw [if_neg e, if_neg (lge (x := 24) (N := 24) rfl (by omega) (by omega)), f1_numberAt, pu_ld (ixA s i) (by omega) (by omega), pu_b, pu_b, pu_b, pu_ld (ixB s i) (by omega) (by omega), pu_b, pu_b, c5 i (by omega), e_in (R 10 (40 * s + i)) 0 99 (a2 := 0) (b2 := 99) rfl rfl]
            by_cases z3 : f4_isWithin (R 10 (40 * s + i)) 0 99 = 0
            · rw [if_pos z3, if_pos z3]; exact Stq.of h
            · rw [if_neg z3, if_neg z3]
              obtain ⟨v, hv, ev⟩ := wi_n (n := 99) (b := 99) rfl z3
              obtain ⟨M2, g1, g2, g3⟩ := x_raise (j := 0) h.1 (show a + i < 24 by omega) (nI v)
              rw [ev, g1, pu_b, pu_stM (ix51 (a + i)) (by omega), pu_b, nI_1]
              exact ih (i + 1) f _ _ (h.land g2 (h.2.1.u (oa_high (by omega) hv)) g3) (by omega) (by omega)
    exact main 40 0 400 X R h (by omega) (by omega)
theorem st_judge (h : Rel X R) (x1 x2 : Int32) : Stq (f4_judge x1 x2 X) (f5_judge x1 x2 R) := by
  rw [f4_judge, f5_judge]
  refine s_there h x1 (fun s hs e q => ?_)
  subst e
  rw [e_ahead]
  by_cases h2 : f4_isSpan x2 = 0
  · rw [if_pos h2, if_pos h2]; exact t0 h
  rw [if_neg h2, if_neg h2, r_far h, pu_b]
  by_cases h3 : f4_isTooLate x2 X = 0
  · rw [if_pos h3, if_pos h3]
    obtain ⟨n, hn, rfl⟩ := spanN h2
    obtain ⟨y, ey, hy⟩ := lateN h hn h3
    obtain ⟨X2, a1, a2, a3⟩ := s_tryY h n
    have og : ok (Sgrow (R 1) n) := h.2.1.grow hn ey hy
    have o1 : oM R 1 = R 1 := oM_n R (by omega)
    obtain ⟨c1, c2, m, c3, c4, c5⟩ := h.2.2.2.2.2 s hs
    obtain ⟨n1, n2⟩ := h.2.1.nh
    have g1 : Sgrow (R 1) n 1 = nI (nh (R 1)) := by rw [Sg_n _ _ (by omega) (by omega), n2]
    have x9 : X2 9 8 = nI (nh (R 1)) := by rw [show X2 9 8 = Sgrow (R 1) n 1 from a2.2.2.2.1, g1]
    have xs : X2 33 s = nI m := by rw [a3 33 (by omega), c2, c4]
    have rs : sM (oM R) (Sgrow (R 1) n) 9 s = nI m := by rw [sM_n _ _ (by omega), oM_n R (by omega), c4]
    have back : f5_putsBack (sM (oM R) (Sgrow (R 1) n)) = some (oM R) := r_tried (fun k hk => hi_grow k hk)
    rw [a1, pu_b, r_puts, pu_b, r_years (by rw [o1]; exact h.2.1.2.2.2.2.1) (by omega), pu_b, o1]
    have fin : ∀ i, i ≤ 40 → Stq (f4_judge_114 (nI s) (nI i) X2) (f5_judge_106 (nI s) (nI i) (sM (oM R) (Sgrow (R 1) n))) := by
      intro i hi
      rw [f4_judge_114, f5_judge_106, back, pu_b, pu_ld rfl hs (by omega), pu_b, pu_ld rfl hs (by omega), pu_b, xs, x9, oM_n R (show 9 ≠ 3 by omega), c4, f4_judge_142, f4_judge_143, f4_judge_143, if_pos (show (0 : Int32) = 0 from rfl), if_neg (show ¬ (1 : Int32) = 0 by decide), o1, pu_ld (x := (1 : Int32)) (k := 1) rfl (by omega) (by omega), pu_b, n2]
      have hr : Rel X2 (oM R) := (h.trial a3).o
      by_cases z1 : nI i = nI m
      · rw [if_pos z1, if_pos z1]
        by_cases z2 : nI i = nI (nh (R 1))
        · rw [if_pos z2, if_pos z2]; exact Stq.of hr
        · rw [if_neg z2, if_neg z2]; exact Stq.of hr
      · rw [if_neg z1, if_neg z1]; exact Stq.of hr
    have main : ∀ (k i f : Nat), i + k = 40 → k < f → Stq (f4_judge_64 (nI s) f (nI i) X2) (f5_judge_57 (nI s) f (nI i) (sM (oM R) (Sgrow (R 1) n))) := by
      intro k
      induction k with
      | zero =>
        intro i f hi hf
        obtain ⟨f, rfl⟩ : ∃ z, f = z + 1 := ⟨f - 1, by omega⟩
        rw [f4_judge_64, f5_judge_57, pu_ld rfl hs (by omega), pu_b, pu_ld rfl hs (by omega), pu_b, xs, rs, if_pos (nI_le (show m ≤ i by omega) (by omega)), if_pos (nI_le (show m ≤ i by omega) (by omega))]
        exact fin i (by omega)
      | succ k ih =>
        intro i f hi hf
        obtain ⟨f, rfl⟩ : ∃ z, f = z + 1 := ⟨f - 1, by omega⟩
        rw [f4_judge_64, f5_judge_57, pu_ld rfl hs (by omega), pu_b, pu_ld rfl hs (by omega), pu_b, xs, rs]
        by_cases z : m ≤ i
        · rw [if_pos (nI_le z (by omega)), if_pos (nI_le z (by omega))]; exact fin i (by omega)
        · rw [if_neg (nI_ge (show i < m by omega) (by omega)), if_neg (nI_ge (show i < m by omega) (by omega)), x9, sM_1, pu_ld (x := (1 : Int32)) (k := 1) rfl (by omega) (by omega), pu_b, g1]
          by_cases z2 : nh (R 1) ≤ i
          · rw [if_pos (nI_le z2 (by omega)), if_pos (nI_le z2 (by omega))]; exact fin i (by omega)
          · rw [if_neg (nI_ge (show i < nh (R 1) by omega) (by omega)), if_neg (nI_ge (show i < nh (R 1) by omega) (by omega)), f1_numberAt, pu_ld (ixA s i) (by omega) (by omega), pu_b, pu_b, x_tax a2 og (by omega), pu_b, pu_ld (ixB s i) (by omega) (by omega), pu_b, r_tax (by omega) (by rw [sM_1]; exact og), pu_b, sM_1, a3 34 (by omega), c5 i (by omega), sM_n _ _ (show 10 ≠ 1 by omega), oM_n R (show 10 ≠ 3 by omega), nI_1]
            by_cases z3 : R 10 (40 * s + i) = Stax (Sgrow (R 1) n) i
            · rw [if_pos z3, if_pos z3]; exact ih (i + 1) f (by omega) (by omega)
            · rw [if_neg z3, if_neg z3]; exact fin i (by omega)
    exact main 40 0 400 (by omega) (by omega)
  · rw [if_neg h3, if_neg h3]; exact t4 h
end CJ
