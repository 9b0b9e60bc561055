/-! the calls, one by one -/
theorem lnl {N k : Nat} {x : Int32} (e : x = nI N) (h : k ≤ N) (hN : N < 2 ^ 31) : ¬ x < nI k := by subst e; exact nI_nlt h hN
theorem llt {N k : Nat} {x : Int32} (e : x = nI N) (h : k < N) (hN : N < 2 ^ 31) : nI k < x := by subst e; exact nI_lt h hN
theorem lnt {N k : Nat} {x : Int32} (e : x = nI N) (h : N ≤ k) (hk : k < 2 ^ 31) : ¬ nI k < x := by subst e; exact nI_nlt h hk
theorem lgt {N k : Nat} {x : Int32} (e : x = nI N) (h : N < k) (hk : k < 2 ^ 31) : x < nI k := by subst e; exact nI_lt h hk
theorem lne {N k : Nat} {x : Int32} (e : x = nI N) (h : k ≠ N) (hN : N < 2 ^ 31) (hk : k < 2 ^ 31) : ¬ nI k = x := by subst e; exact fun z => h ((nI_eq hk hN).mp z)
section CA
variable {X R : sl_M}
theorem x0_1 (h : Rel X R) {c : Nat} (hc : c < 24) : sl_ld (X 1) 24 (nI c) = some (R 1 (5 + 3 * c)) := x_ld1 (j := 0) h.1 hc
theorem x0_2 (h : Rel X R) {c : Nat} (hc : c < 24) : sl_ld (X 2) 24 (nI c) = some (R 1 (5 + 3 * c + 1)) := x_ld2 (j := 0) h.1 hc
theorem x0_3 (h : Rel X R) {c : Nat} (hc : c < 24) : sl_ld (X 3) 24 (nI c) = some (R 1 (5 + 3 * c + 2)) := x_ld3 (j := 0) h.1 hc
theorem x0_4 (h : Rel X R) {c : Nat} (hc : c < 24) : sl_ld (X 4) 24 (nI c) = some (Stop (R 1) c) := x_ld4 (j := 0) h.1 hc
theorem x0_5 (h : Rel X R) {c : Nat} (hc : c < 8) : sl_ld (X 5) 8 (nI c) = some (R 1 (77 + 3 * c)) := x_ld5 (j := 0) h.1 hc
theorem x0_6 (h : Rel X R) {c : Nat} (hc : c < 8) : sl_ld (X 6) 8 (nI c) = some (R 1 (77 + 3 * c + 1)) := x_ld6 (j := 0) h.1 hc
theorem x0_7 (h : Rel X R) {c : Nat} (hc : c < 8) : sl_ld (X 7) 8 (nI c) = some (R 1 (77 + 3 * c + 2)) := x_ld7 (j := 0) h.1 hc
theorem x0_8 (h : Rel X R) {c : Nat} (hc : c < 10) : sl_ld (X 8) 10 (nI c) = some (R 1 (101 + c)) := x_ld8 (j := 0) h.1 hc
theorem st_cell (h : Rel X R) (x1 x2 x3 : Int32) : Stq (f4_cell x1 x2 x3 X) (f5_cell x1 x2 x3 R) := by
  rw [f4_cell, f5_cell, e_cell, e_in x2 0 1 (a2 := 0) (b2 := 1) rfl rfl, e_in x3 0 99 (a2 := 0) (b2 := 99) rfl rfl]
  by_cases h1 : f4_isCell x1 = 0
  · rw [if_pos h1, if_pos h1]; exact t0 h
  · rw [if_neg h1, if_neg h1]
    by_cases h2 : f4_isWithin x2 0 1 = 0
    · rw [if_pos h2, if_pos h2]; exact t0 h
    · rw [if_neg h2, if_neg h2]
      by_cases h3 : f4_isWithin x3 0 99 = 0
      · rw [if_pos h3, if_pos h3]; exact t0 h
      · rw [if_neg h3, if_neg h3]
        obtain ⟨c, hc, rfl⟩ := cellN h1
        obtain ⟨w, hw, rfl⟩ := wi_n (n := 1) (b := 1) rfl h2
        obtain ⟨v, hv, rfl⟩ := wi_n (n := 99) (b := 99) rfl h3
        have ix : ((5 : Int32) + (3 : Int32) * nI c + (1 : Int32)) + nI w = nI (5 + 3 * c + 1 + w) := by rw [ix51, nI_add]
        rw [pu_ld ix (by omega) (by omega), pu_b, pu_stM ix (by omega), pu_b]
        rcases (show w = 0 ∨ w = 1 by omega) with rfl | rfl
        · rw [if_pos (by decide), x0_2 h hc, pu_b]
          obtain ⟨M2, g1, g2, g3⟩ := x_raise (j := 0) h.1 hc (nI v)
          rw [g1, pu_b]
          exact Stq.of (h.land g2 (h.2.1.u (oa_high hc hv)) g3)
        · rw [if_neg (by decide), x0_3 h hc, pu_b]
          obtain ⟨M2, g1, g2, g3⟩ := x_ageTo (j := 0) h.1 hc (nI v)
          rw [g1, pu_b]
          exact Stq.of (h.land g2 (h.2.1.u (oa_age hc hv)) g3)
theorem st_set (h : Rel X R) (x1 x2 : Int32) : Stq (f4_set x1 x2 X) (f5_set x1 x2 R) := by
  rw [f4_set, f5_set, e_cell, e_kind]
  by_cases h1 : f4_isCell x1 = 0
  · rw [if_pos h1, if_pos h1]; exact t0 h
  · rw [if_neg h1, if_neg h1]
    by_cases h2 : f4_isKind x2 = 0
    · rw [if_pos h2, if_pos h2]; exact t0 h
    · rw [if_neg h2, if_neg h2]
      obtain ⟨c, hc, rfl⟩ := cellN h1
      obtain ⟨k, hk, rfl⟩ := kindN h2
      obtain ⟨M2, g1, g2, g3⟩ := x_place (j := 0) h.1 hc (nI k)
      rw [x0_1 h hc, pu_b, g1, pu_b, r_kind hc, pu_b, r_sets hc, pu_b]
      exact Stq.of (h.land g2 (h.2.1.set hc hk) g3)
theorem st_cellOf (h : Rel X R) (x1 x2 : Int32) : Stq (f4_cellOf x1 x2 X) (f5_cellOf x1 x2 R) := by
  rw [f4_cellOf, f5_cellOf, e_cell, e_in x2 0 4 (a2 := 0) (b2 := 4) rfl rfl]
  by_cases h1 : f4_isCell x1 = 0
  · rw [if_pos h1, if_pos h1]; exact t0 h
  · rw [if_neg h1, if_neg h1]
    obtain ⟨c, hc, rfl⟩ := cellN h1
    by_cases h2 : f4_isWithin x2 0 4 = 0
    · rw [if_pos h2]
      have q : ∀ k, k ≤ 4 → ¬ x2 = nI k := by
        rintro k hk rfl
        have e : f4_isWithin (nI k) 0 4 = 1 := by
          rw [f4_isWithin, if_neg (nI_pos (by omega)), if_neg (lnl (x := 4) (N := 4) rfl (by omega) (by omega))]
        rw [e] at h2; exact absurd h2 (by decide)
      rw [if_neg (show ¬ x2 = 0 from q 0 (by omega)), if_neg (show ¬ x2 = 1 from q 1 (by omega)), if_neg (show ¬ x2 = 2 from q 2 (by omega)), if_neg (show ¬ x2 = 3 from q 3 (by omega)), if_neg (show ¬ x2 = 4 from q 4 (by omega))]
      exact t0 h
    · rw [if_neg h2]
      obtain ⟨w, hw, rfl⟩ := wi_n (n := 4) (b := 4) rfl h2
      rcases (show w = 0 ∨ w = 1 ∨ w = 2 ∨ w = 3 ∨ w = 4 by omega) with rfl | rfl | rfl | rfl | rfl
      · rw [if_pos (by decide), x0_1 h hc, pu_b, if_neg (by decide), pu_ld (k := 5 + 3 * c) (by rw [ix5, nI_add]; rfl) (by omega) (by omega), pu_b]; exact Stq.of h
      · rw [if_neg (by decide), if_pos (by decide), x0_2 h hc, pu_b, if_neg (by decide), pu_ld (k := 5 + 3 * c + 1) (by rw [ix5, nI_add]) (by omega) (by omega), pu_b]; exact Stq.of h
      · rw [if_neg (by decide), if_neg (by decide), if_pos (by decide), x0_3 h hc, pu_b, if_neg (by decide), pu_ld (k := 5 + 3 * c + 2) (by rw [ix5, nI_add]) (by omega) (by omega), pu_b]; exact Stq.of h
      · rw [if_neg (by decide), if_neg (by decide), if_neg (by decide), if_pos (by decide), x0_4 h hc, pu_b, if_pos (by decide), if_pos (by decide), r_top hc, pu_b]; exact Stq.of h
      · rw [if_neg (by decide), if_neg (by decide), if_neg (by decide), if_neg (by decide), if_pos (by decide), x_worth (j := 0) h.1 h.2.1 hc, pu_b, if_pos (by decide), if_neg (by decide), r_worth hc, pu_b]; exact Stq.of h
theorem x_build {M : sl_M} {j : Nat} {σ : Nat → Int32} (r : RL M j σ) (o : ok σ) (hn : nh σ < 8) (v1 v2 v3 : Int32) : ∃ M2, f0_build j v1 v2 v3 M = some M2 ∧ RL M2 j (upd (upd (upd (upd σ (77 + 3 * nh σ) v1) (77 + 3 * nh σ + 1) v2) (77 + 3 * nh σ + 2) v3) 1 (nI (nh σ + 1))) ∧ Fr j M M2 ∧ M2 (9 * j) 8 = nI (nh σ + 1) := by
  obtain ⟨n1, n2⟩ := o.nh
  have e8 : M (9 * j) 8 = nI (nh σ) := by rw [r.2.2.2.1, n2]
  refine ⟨sl_up (sl_up (sl_up (sl_up M (9 * j + 5) (nh σ) v1) (9 * j + 6) (nh σ) v2) (9 * j + 7) (nh σ) v3) (9 * j) 8 (nI (nh σ + 1)), ?_, x_num (x_open (x_floor (x_home r hn v1) hn v2) hn v3) _ (by omega), (((Fr.up (by omega)).tr (Fr.up (by omega))).tr (Fr.up (by omega))).tr Fr.up0, by rw [pu_ups, pu_us]⟩
  rw [f0_build, e8, pu_st rfl hn (by omega), pu_b, pu_upn (by omega), e8, pu_st rfl hn (by omega), pu_b, pu_upn (by omega), pu_upn (by omega), e8, pu_st rfl hn (by omega), pu_b, pu_upn (by omega), pu_upn (by omega), pu_upn (by omega), e8, nI_1]
theorem r_newHouse {M : sl_M} (o : ok (M 1)) (hn : nh (M 1) < 8) (v1 v2 v3 : Int32) : f5_newHouse v1 v2 v3 M = some (nI (nh (M 1)), sM M (upd (upd (upd (upd (M 1) (77 + 3 * nh (M 1)) v1) (77 + 3 * nh (M 1) + 1) v2) (77 + 3 * nh (M 1) + 2) v3) 1 (nI (nh (M 1) + 1)))) := by
  obtain ⟨n1, n2⟩ := o.nh
  rw [f5_newHouse, pu_ld (x := (1 : Int32)) (k := 1) rfl (by omega) (by omega), pu_b, n2, pu_stM (ix7 _) (by omega), pu_b, pu_stM (ix71 _) (by omega), pu_b, sM_s, sM_1, pu_stM (ix72 _) (by omega), pu_b, sM_s, sM_1, pu_ld (x := (1 : Int32)) (k := 1) rfl (by omega) (by omega), pu_b, sM_1, pu_un (by omega), pu_un (by omega), pu_un (by omega), n2, pu_stM (x := (1 : Int32)) (k := 1) rfl (by omega), pu_b, sM_s, sM_1, pu_ld (x := (1 : Int32)) (k := 1) rfl (by omega) (by omega), pu_b, sM_1, pu_us, nI_1, nI_pred]
theorem ok_newHouse {σ : Nat → Int32} (o : ok σ) (hn : nh σ < 8) {a b d : Nat} (ha : a < 24) (hb : b ≤ 40) (hd : d < 4) : ok (upd (upd (upd (upd σ (77 + 3 * nh σ) (nI a)) (77 + 3 * nh σ + 1) (nI b)) (77 + 3 * nh σ + 2) (nI d)) 1 (nI (nh σ + 1))) :=
  (((o.u (oa_home hn ha)).u (oa_floor hn hb)).u (oa_open hn hd)).u (oa_houses (by omega))
theorem st_house (h : Rel X R) (x1 x2 : Int32) : Stq (f4_house x1 x2 X) (f5_house x1 x2 R) := by
  obtain ⟨n1, n2⟩ := h.2.1.nh
  rw [f4_house, f5_house, e_cell, e_floor]
  by_cases h1 : f4_isCell x1 = 0
  · rw [if_pos h1, if_pos h1]; exact t0 h
  · rw [if_neg h1, if_neg h1]
    by_cases h2 : f4_isFloor x2 = 0
    · rw [if_pos h2, if_pos h2]; exact t0 h
    · rw [if_neg h2, if_neg h2, pu_ld (x := (1 : Int32)) (k := 1) rfl (by omega) (by omega), pu_b, n2, f0_isBuiltUp, show X (9 * 0) 8 = R 1 1 from h.1.2.2.2.1, n2]
      obtain ⟨c, hc, rfl⟩ := cellN h1
      obtain ⟨f, hf1, hf2, rfl⟩ := floorN h2
      by_cases q : nh (R 1) < 8
      · rw [if_pos (llt (x := 8) (N := 8) rfl q (by omega)), if_pos rfl, if_neg (lne (x := 8) (N := 8) rfl (by omega) (by omega) (by omega))]
        obtain ⟨M2, g1, g2, g3, g4⟩ := x_build (j := 0) h.1 h.2.1 q (nI c) (nI f) 3
        rw [g1, pu_b, r_newHouse h.2.1 q, pu_b, show M2 0 8 = nI (nh (R 1) + 1) from g4, nI_pred]
        exact Stq.of (h.land g2 (ok_newHouse h.2.1 q hc hf2 (d := 3) (by omega)) g3)
      · have e : nh (R 1) = 8 := by omega
        rw [e, if_neg (show ¬ nI 8 < 8 by decide), if_neg (by decide), if_pos (show nI 8 = 8 from rfl)]
        exact t1 h
theorem st_houseOf (h : Rel X R) (x1 x2 : Int32) : Stq (f4_houseOf x1 x2 X) (f5_houseOf x1 x2 R) := by
  rw [f4_houseOf, f5_houseOf, r_isHouse, pu_b, h.house, e_in x2 0 3 (a2 := 0) (b2 := 3) rfl rfl]
  by_cases h1 : f4_isWithin x1 0 (R 1 1 - 1) = 0
  · rw [if_pos h1, if_pos h1]; exact t0 h
  · rw [if_neg h1, if_neg h1]
    obtain ⟨a, -, ha, rfl⟩ := houseN h.2.1 h1
    by_cases h2 : f4_isWithin x2 0 3 = 0
    · rw [if_pos h2]
      have q : ∀ k, k ≤ 3 → ¬ x2 = nI k := by
        rintro k hk rfl
        have e : f4_isWithin (nI k) 0 3 = 1 := by
          rw [f4_isWithin, if_neg (nI_pos (by omega)), if_neg (lnl (x := 3) (N := 3) rfl (by omega) (by omega))]
        rw [e] at h2; exact absurd h2 (by decide)
      rw [if_neg (show ¬ x2 = 0 from q 0 (by omega)), if_neg (show ¬ x2 = 1 from q 1 (by omega)), if_neg (show ¬ x2 = 2 from q 2 (by omega)), if_neg (show ¬ x2 = 3 from q 3 (by omega))]
      exact t0 h
    · rw [if_neg h2]
      obtain ⟨w, hw, rfl⟩ := wi_n (n := 3) (b := 3) rfl h2
      rcases (show w = 0 ∨ w = 1 ∨ w = 2 ∨ w = 3 by omega) with rfl | rfl | rfl | rfl
      · rw [if_pos (by decide), x0_5 h ha, pu_b, if_neg (by decide), pu_ld (k := 77 + 3 * a) (by rw [ix7, nI_add]; rfl) (by omega) (by omega), pu_b]; exact Stq.of h
      · rw [if_neg (by decide), if_pos (by decide), x0_6 h ha, pu_b, if_neg (by decide), pu_ld (k := 77 + 3 * a + 1) (by rw [ix7, nI_add]) (by omega) (by omega), pu_b]; exact Stq.of h
      · rw [if_neg (by decide), if_neg (by decide), if_pos (by decide), x_eye (j := 0) h.1 h.2.1 ha, pu_b, if_pos (by decide), if_pos (by decide), r_eye ha h.2.1, pu_b]; exact Stq.of h
      · rw [if_neg (by decide), if_neg (by decide), if_neg (by decide), if_pos (by decide), x0_7 h ha, pu_b, if_pos (by decide), if_neg (by decide), r_open ha, pu_b]; exact Stq.of h
theorem st_floor (h : Rel X R) (x1 x2 : Int32) : Stq (f4_floor x1 x2 X) (f5_floor x1 x2 R) := by
  rw [f4_floor, f5_floor, r_isHouse, pu_b, h.house, e_floor]
  by_cases h1 : f4_isWithin x1 0 (R 1 1 - 1) = 0
  · rw [if_pos h1, if_pos h1]; exact t0 h
  · rw [if_neg h1, if_neg h1]
    obtain ⟨a, -, ha, rfl⟩ := houseN h.2.1 h1
    by_cases h2 : f4_isFloor x2 = 0
    · rw [if_pos h2, if_pos h2]; exact t0 h
    · rw [if_neg h2, if_neg h2]
      obtain ⟨f, hf1, hf2, rfl⟩ := floorN h2
      rw [x0_6 h ha, pu_b, pu_st rfl ha (by omega), pu_b, pu_ld (ix71 a) (by omega) (by omega), pu_b, pu_stM (ix71 a) (by omega), pu_b]
      exact Stq.of (h.land (x_floor (j := 0) h.1 ha _) (h.2.1.u (oa_floor ha hf2)) (Fr.up (j := 0) (k := 6) (by omega)))
theorem st_windows (h : Rel X R) (x1 x2 : Int32) : Stq (f4_windows x1 x2 X) (f5_windows x1 x2 R) := by
  rw [f4_windows, f5_windows, r_isHouse, pu_b, h.house, e_in x2 0 3 (a2 := 0) (b2 := 3) rfl rfl]
  by_cases h1 : f4_isWithin x1 0 (R 1 1 - 1) = 0
  · rw [if_pos h1, if_pos h1]; exact t0 h
  · rw [if_neg h1, if_neg h1]
    obtain ⟨a, -, ha, rfl⟩ := houseN h.2.1 h1
    by_cases h2 : f4_isWithin x2 0 3 = 0
    · rw [if_pos h2, if_pos h2]; exact t0 h
    · rw [if_neg h2, if_neg h2]
      obtain ⟨w, hw, rfl⟩ := wi_n (n := 3) (b := 3) rfl h2
      rw [x0_7 h ha, pu_b, pu_st rfl ha (by omega), pu_b, r_open ha, pu_b, pu_stM (ix72 a) (by omega), pu_b]
      exact Stq.of (h.land (x_open (j := 0) h.1 ha _) (h.2.1.u (oa_open ha (by omega))) (Fr.up (j := 0) (k := 7) (by omega)))
theorem st_law (h : Rel X R) (x1 x2 : Int32) : Stq (f4_law x1 x2 X) (f5_law x1 x2 R) := by
  have e0 : X 0 9 = R 1 2 := h.1.2.2.2.2.1
  have e1 : X 0 10 = R 1 3 := h.1.2.2.2.2.2.1
  rw [f4_law, f5_law, e_in x1 0 1 (a2 := 0) (b2 := 1) rfl rfl]
  by_cases h1 : f4_isWithin x1 0 1 = 0
  · have q : ∀ k, k ≤ 1 → ¬ x1 = nI k := by
      rintro k hk rfl
      have e : f4_isWithin (nI k) 0 1 = 1 := by
        rw [f4_isWithin, if_neg (nI_pos (by omega)), if_neg (lnl (x := 1) (N := 1) rfl (by omega) (by omega))]
      rw [e] at h1; exact absurd h1 (by decide)
    rw [if_pos h1, if_neg (show ¬ x1 = 0 from q 0 (by omega)), f4_law_32, if_neg (show ¬ x1 = 1 from q 1 (by omega))]
    exact t0 h
  · rw [if_neg h1]
    obtain ⟨w, hw, rfl⟩ := wi_n (n := 1) (b := 1) rfl h1
    rcases (show w = 0 ∨ w = 1 by omega) with rfl | rfl
    · rw [if_pos (show nI 0 = 0 from rfl), if_pos (show nI 0 = 0 from rfl), f5_law_29, e_in x2 1 23 (a2 := ((1 : Int32) - nI 0).toInt64) (b2 := 23) rfl rfl]
      by_cases h2 : f4_isWithin x2 1 23 = 0
      · rw [if_pos h2, if_pos h2, f4_law_32, if_neg (by decide)]; exact t0 h
      · rw [if_neg h2, if_neg h2]
        obtain ⟨v, hv1, hv2, rfl⟩ := wi_n1 (m := 1) (n := 23) rfl rfl h2
        rw [pu_ld (x := (2 : Int32) + nI 0) (k := 2) rfl (by omega) (by omega), pu_b, pu_stM (x := (2 : Int32) + nI 0) (k := 2) rfl (by omega), pu_b, e0]
        exact Stq.of (h.land (x_num (j := 0) h.1 _ (by omega)) (h.2.1.u (oa_haze hv1 hv2)) Fr.up0)
    · rw [if_neg (show ¬ nI 1 = 0 by decide), if_neg (show ¬ nI 1 = 0 by decide), f4_law_32, if_pos (show nI 1 = 1 from rfl), f5_law_29, e_in x2 0 99 (a2 := ((1 : Int32) - nI 1).toInt64) (b2 := 99) rfl rfl]
      by_cases h2 : f4_isWithin x2 0 99 = 0
      · rw [if_pos h2, if_pos h2]; exact t0 h
      · rw [if_neg h2, if_neg h2]
        obtain ⟨v, hv, rfl⟩ := wi_n (n := 99) (b := 99) rfl h2
        rw [pu_ld (x := (2 : Int32) + nI 1) (k := 3) rfl (by omega) (by omega), pu_b, pu_stM (x := (2 : Int32) + nI 1) (k := 3) rfl (by omega), pu_b, e1]
        exact Stq.of (h.land (x_num (j := 0) h.1 _ (by omega)) (h.2.1.u (oa_rate hv)) Fr.up0)
end CA
