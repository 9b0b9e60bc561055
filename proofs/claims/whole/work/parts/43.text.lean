/-! texts -/
theorem wco_inj : ∀ w, w < 17 → ∀ v, v < 17 → wco w = wco v → w = v := by decide +kernel
section TX
variable {X0 R0 X R : sl_M} {t f e g : Nat} {σ : Nat → Int32}
theorem isw_u (T : T0 X0 R0 t) (h : PS X0 R0 t X R σ f e) {w v : Nat} (hw : w < 17) (hv : v < 17) (a : isw (R0 7) t f e w) (b : isw (R0 7) t f e v) : w = v :=
  wco_inj w hw v hv (((cR_w T h.2.2.2.2.2.1 hw).mpr a).symm.trans ((cR_w T h.2.2.2.2.2.1 hv).mpr b))
theorem IR.nrm {x : Option (Int32 × sl_M)} {y : Option sl_M} (h : IR X0 R0 t g x y) : IR X0 R0 t g (x.bind fun r => if r.1 = 0 then some ((0 : Int32), r.2) else some ((1 : Int32), r.2)) y := by
  rcases h with ⟨X', R', σ', f', e', a, b, c, d⟩ | ⟨X', R', p, a, b, c, d⟩
  · rw [a, pu_b, if1]; exact Or.inl ⟨X', R', σ', f', e', rfl, b, c, d⟩
  · rw [a, pu_b, if0]; exact Or.inr ⟨X', R', p, rfl, b, c, d⟩
theorem IR.bo {x : Option (Int32 × sl_M)} {y : Option sl_M} (h : IR X0 R0 t g x y) : IR X0 R0 t g (x.bind fun r => (sl_bo r.1).bind fun v => some (v, r.2)) y := by
  rcases h with ⟨X', R', σ', f', e', a, b, c, d⟩ | ⟨X', R', p, a, b, c, d⟩
  · rw [a, pu_b]; exact Or.inl ⟨X', R', σ', f', e', rfl, b, c, d⟩
  · rw [a, pu_b]; exact Or.inr ⟨X', R', p, rfl, b, c, d⟩
theorem bind_some' {y : Option sl_M} : (y.bind fun r => some r) = y := by cases y <;> rfl
theorem p_haze (T : T0 X0 R0 t) (h : PS X0 R0 t X R σ f e) (hg : g < f) : IR X0 R0 t g (f3_readHaze 1 X) ((f5_number (1 : Int32) (23 : Int32) R).bind fun r => (sl_st r 1 111 (2 : Int32) (r 0 14)).bind fun M3 => some M3) := by
  rw [f3_readHaze]
  rcases p_num T h (a := 1) (b := 23) (by omega) (by omega) (lo := 1) (hi := 23) rfl rfl with ⟨v, f1, e1, X1, R1, v0, v1, g1, g2, g3, g4, g5⟩ | ⟨g1, R1, g2, g3⟩
  · rw [g1, g2, pu_b, pu_b, ifn (by omega), g3, pu_stM (x := 2) (k := 2) rfl (by omega), pu_b, show R1 1 = σ from g4.2.2.2.2.2.2.2.1]
    exact Or.inl ⟨_, _, _, f1, e1, rfl, rfl, g4.land (x_num (j := 1) (k := 9) (s := 2) g4.2.2.2.2.2.2.1 _ (by omega)) Fr.up0 (g4.ok.u (oa_haze v0 v1)), by omega⟩
  · rw [g1, g2, pu_b, pu_b, ifm, pu_stM (x := 2) (k := 2) rfl (by omega), pu_b]
    exact Or.inr ⟨X, _, f, rfl, rfl, h.wx, g3.sM _⟩
theorem p_rate (T : T0 X0 R0 t) (h : PS X0 R0 t X R σ f e) (hg : g < f) : IR X0 R0 t g (f3_readRate 1 X) ((f5_number (0 : Int32) (99 : Int32) R).bind fun r => (sl_st r 1 111 (3 : Int32) (r 0 14)).bind fun M3 => some M3) := by
  rw [f3_readRate]
  rcases p_num T h (a := 0) (b := 99) (by omega) (by omega) (lo := 0) (hi := 99) rfl rfl with ⟨v, f1, e1, X1, R1, v0, v1, g1, g2, g3, g4, g5⟩ | ⟨g1, R1, g2, g3⟩
  · rw [g1, g2, pu_b, pu_b, ifn (by omega), g3, pu_stM (x := 3) (k := 3) rfl (by omega), pu_b, show R1 1 = σ from g4.2.2.2.2.2.2.2.1]
    exact Or.inl ⟨_, _, _, f1, e1, rfl, rfl, g4.land (x_num (j := 1) (k := 10) (s := 3) g4.2.2.2.2.2.2.1 _ (by omega)) Fr.up0 (g4.ok.u (oa_rate v1)), by omega⟩
  · rw [g1, g2, pu_b, pu_b, ifm, pu_stM (x := 3) (k := 3) rfl (by omega), pu_b]
    exact Or.inr ⟨X, _, f, rfl, rfl, h.wx, g3.sM _⟩
theorem isw_lt {w : Nat} (h : isw (R0 7) t f e w) : f < t := by
  have := h.1
  rcases Nat.lt_or_ge f t with z | z
  · exact z
  · rw [sr, if_neg (by omega)] at this; omega
theorem p_item (T : T0 X0 R0 t) (h : PS X0 R0 t X R σ f e) : IR X0 R0 t f (f3_readItem 1 X) (f5_item R) := by
  have o := h.ok
  obtain ⟨n1, n2⟩ := o.nh
  have hR1 : R 1 = σ := h.2.2.2.2.2.2.2.1
  have wd := p_word T h
  have c7 := p_cmp T h (w := 7) (by omega) (C := 394692) (by decide +kernel)
  have c8 := p_cmp T h (w := 8) (by omega) (C := 24170674) (by decide +kernel)
  have c9 := p_cmp T h (w := 9) (by omega) (C := 6591876) (by decide +kernel)
  have c10 := p_cmp T h (w := 10) (by omega) (C := 19617) (by decide +kernel)
  have c11 := p_cmp T h (w := 11) (by omega) (C := 605670) (by decide +kernel)
  have c12 := p_cmp T h (w := 12) (by omega) (C := 769508) (by decide +kernel)
  have c13 := p_cmp T h (w := 13) (by omega) (C := 5517) (by decide +kernel)
  have c0 := p_cmp T h (w := 0) (by omega) (C := 8902245) (by decide +kernel)
  have c5 := p_cmp T h (w := 5) (by omega) (C := 264005) (by decide +kernel)
  have c6 := p_cmp T h (w := 6) (by omega) (C := 591493) (by decide +kernel)
  have kn : (∀ w, 7 ≤ w → w < 14 → ¬ isw (R0 7) t f e w) → f5_kindHere R = some (-1) := fun z => by
    rw [f5_kindHere, wd, pu_b, if_neg (fun q => z 7 (by omega) (by omega) (c7.mp q)), if_neg (fun q => z 8 (by omega) (by omega) (c8.mp q)), if_neg (fun q => z 9 (by omega) (by omega) (c9.mp q)), if_neg (fun q => z 10 (by omega) (by omega) (c10.mp q)), if_neg (fun q => z 11 (by omega) (by omega) (c11.mp q)), if_neg (fun q => z 12 (by omega) (by omega) (c12.mp q)), if_neg (fun q => z 13 (by omega) (by omega) (c13.mp q))]
  rw [f3_readItem, x_word T h.2.2.2.2.2.1 h.1 (w := 0) (by omega), pu_b]
  by_cases q0 : isw (R0 7) t f e 0
  · rw [if_pos (iswb_t.mpr q0), if_neg (show ¬ (1 : Int32) = 0 by decide), f5_item, kn (fun w w1 w2 z => by have := isw_u T h (by omega) (by omega) q0 z; omega), pu_b, if_pos (show (-1 : Int32) < 0 by decide), wd, pu_b, if_pos (c0.mpr q0), bind_some', f5_houseItem, hR1, pu_ld (x := 1) (k := 1) rfl (by omega) (by omega), pu_b, n2, f0_isBuiltUp, show X (9 * 1) 8 = σ 1 from h.2.2.2.2.2.2.1.2.2.2.1, n2]
    by_cases z : nh σ < 8
    · rw [if_pos (llt (x := 8) (N := 8) rfl z (by omega)), if_pos rfl, if_neg (lge (x := 8) (N := 8) rfl z (by omega))]
      exact (p_house T h (isw_lt q0) z).nrm
    · obtain ⟨R1, k1, k2⟩ := p_no T h
      rw [if_neg (lnt (x := 8) (N := 8) rfl (by omega) (by omega)), if_neg (by decide), if_pos (lle (x := 8) (N := 8) rfl (by omega) (by omega)), f5_houseItem_17, k1, pu_b, w_num k2, pu_b, w_wd T k2, pu_b, w_h49 T k2, w_h49 T k2, ite_self]
      exact Or.inr ⟨X, R1, f, rfl, rfl, h.wx, k2⟩
  · rw [if_neg (fun z => q0 (iswb_t.mp z)), if_pos rfl]
    have k0 : ¬ lg_cmp (lN (cR (R0 7) t f e)) 8902245 = 0 := fun z => q0 (c0.mp z)
    rcases p_pass T h (w := 5) (by omega) with ⟨q5, f1, e1, X1, R1, g1, -, g3, g4, g5⟩ | ⟨q5, g1⟩
    · rw [g1, pu_b, if1, f5_item, kn (fun w w1 w2 z => by have := isw_u T h (by omega) (by omega) q5 z; omega), pu_b, if_pos (show (-1 : Int32) < 0 by decide), wd, pu_b, if_neg k0, pu_b, if_pos (c5.mpr q5), per1, g3, pu_b]
      have := (p_haze T g4 g5).bo
      cases hy : f5_number 1 23 R1
      · rw [hy] at this; exact this
      · rw [hy] at this; exact this
    · have k5 : ¬ lg_cmp (lN (cR (R0 7) t f e)) 264005 = 0 := fun z => q5 (c5.mp z)
      rw [g1, pu_b, if0]
      dsimp only
      rcases p_pass T h (w := 6) (by omega) with ⟨q6, f1, e1, X1, R1, g1, -, g3, g4, g5⟩ | ⟨q6, g1⟩
      · rw [g1, pu_b, if1, f5_item, kn (fun w w1 w2 z => by have := isw_u T h (by omega) (by omega) q6 z; omega), pu_b, if_pos (show (-1 : Int32) < 0 by decide), wd, pu_b, if_neg k0, pu_b, if_neg k5, pu_b, if_pos (c6.mpr q6), f5_item_81, g3, pu_b]
        exact (p_rate T g4 g5).bo
      · have k6 : ¬ lg_cmp (lN (cR (R0 7) t f e)) 591493 = 0 := fun z => q6 (c6.mp z)
        rw [g1, pu_b, if0]
        dsimp only
        have np : ∀ w, w < 17 → ¬ isw (R0 7) t f e w → f3_passes w X = some (0, X) := fun w hw z => by
          rcases p_pass T h hw with ⟨y, -⟩ | ⟨-, y⟩
          · exact absurd y z
          · exact y
        by_cases qk : ∃ w, 7 ≤ w ∧ w < 14 ∧ isw (R0 7) t f e w
        · obtain ⟨w, w1, w2, qw⟩ := qk
          have nq : ∀ v, v < 17 → v ≠ w → ¬ isw (R0 7) t f e v := fun v hv hn z => hn (isw_u T h hv (by omega) z qw)
          rcases p_pass T h (w := w) (by omega) with ⟨-, f1, e1, X1, R1, g1, -, g3, g4, g5⟩ | ⟨y, -⟩
          · have main : f3_readKind X = some (nI (w - 7), X1) ∧ f5_kindHere R = some (nI (w - 7)) := by
              rcases (show w = 7 ∨ w = 8 ∨ w = 9 ∨ w = 10 ∨ w = 11 ∨ w = 12 ∨ w = 13 by omega) with rfl | rfl | rfl | rfl | rfl | rfl | rfl
              · refine ⟨?_, ?_⟩
                · rw [f3_readKind, g1, pu_b, if1]; rfl
                · rw [f5_kindHere, wd, pu_b, if_pos (c7.mpr qw)]; rfl
              · refine ⟨?_, ?_⟩
                · rw [f3_readKind, np 7 (by omega) (nq 7 (by omega) (by omega)), pu_b, if0, g1, pu_b, if1]; rfl
                · rw [f5_kindHere, wd, pu_b, if_neg (fun q => nq 7 (by omega) (by omega) (c7.mp q)), if_pos (c8.mpr qw)]; rfl
              · refine ⟨?_, ?_⟩
                · rw [f3_readKind, np 7 (by omega) (nq 7 (by omega) (by omega)), pu_b, if0, np 8 (by omega) (nq 8 (by omega) (by omega)), pu_b, if0, g1, pu_b, if1]; rfl
                · rw [f5_kindHere, wd, pu_b, if_neg (fun q => nq 7 (by omega) (by omega) (c7.mp q)), if_neg (fun q => nq 8 (by omega) (by omega) (c8.mp q)), if_pos (c9.mpr qw)]; rfl
              · refine ⟨?_, ?_⟩
                · rw [f3_readKind, np 7 (by omega) (nq 7 (by omega) (by omega)), pu_b, if0, np 8 (by omega) (nq 8 (by omega) (by omega)), pu_b, if0, np 9 (by omega) (nq 9 (by omega) (by omega)), pu_b, if0, g1, pu_b, if1]; rfl
                · rw [f5_kindHere, wd, pu_b, if_neg (fun q => nq 7 (by omega) (by omega) (c7.mp q)), if_neg (fun q => nq 8 (by omega) (by omega) (c8.mp q)), if_neg (fun q => nq 9 (by omega) (by omega) (c9.mp q)), if_pos (c10.mpr qw)]; rfl
              · refine ⟨?_, ?_⟩
                · rw [f3_readKind, np 7 (by omega) (nq 7 (by omega) (by omega)), pu_b, if0, np 8 (by omega) (nq 8 (by omega) (by omega)), pu_b, if0, np 9 (by omega) (nq 9 (by omega) (by omega)), pu_b, if0, np 10 (by omega) (nq 10 (by omega) (by omega)), pu_b, if0, g1, pu_b, if1]; rfl
                · rw [f5_kindHere, wd, pu_b, if_neg (fun q => nq 7 (by omega) (by omega) (c7.mp q)), if_neg (fun q => nq 8 (by omega) (by omega) (c8.mp q)), if_neg (fun q => nq 9 (by omega) (by omega) (c9.mp q)), if_neg (fun q => nq 10 (by omega) (by omega) (c10.mp q)), if_pos (c11.mpr qw)]; rfl
              · refine ⟨?_, ?_⟩
                · rw [f3_readKind, np 7 (by omega) (nq 7 (by omega) (by omega)), pu_b, if0, np 8 (by omega) (nq 8 (by omega) (by omega)), pu_b, if0, np 9 (by omega) (nq 9 (by omega) (by omega)), pu_b, if0, np 10 (by omega) (nq 10 (by omega) (by omega)), pu_b, if0, np 11 (by omega) (nq 11 (by omega) (by omega)), pu_b, if0, g1, pu_b, if1]; rfl
                · rw [f5_kindHere, wd, pu_b, if_neg (fun q => nq 7 (by omega) (by omega) (c7.mp q)), if_neg (fun q => nq 8 (by omega) (by omega) (c8.mp q)), if_neg (fun q => nq 9 (by omega) (by omega) (c9.mp q)), if_neg (fun q => nq 10 (by omega) (by omega) (c10.mp q)), if_neg (fun q => nq 11 (by omega) (by omega) (c11.mp q)), if_pos (c12.mpr qw)]; rfl
              · refine ⟨?_, ?_⟩
                · rw [f3_readKind, np 7 (by omega) (nq 7 (by omega) (by omega)), pu_b, if0, np 8 (by omega) (nq 8 (by omega) (by omega)), pu_b, if0, np 9 (by omega) (nq 9 (by omega) (by omega)), pu_b, if0, np 10 (by omega) (nq 10 (by omega) (by omega)), pu_b, if0, np 11 (by omega) (nq 11 (by omega) (by omega)), pu_b, if0, np 12 (by omega) (nq 12 (by omega) (by omega)), pu_b, if0, g1, pu_b, if1]; rfl
                · rw [f5_kindHere, wd, pu_b, if_neg (fun q => nq 7 (by omega) (by omega) (c7.mp q)), if_neg (fun q => nq 8 (by omega) (by omega) (c8.mp q)), if_neg (fun q => nq 9 (by omega) (by omega) (c9.mp q)), if_neg (fun q => nq 10 (by omega) (by omega) (c10.mp q)), if_neg (fun q => nq 11 (by omega) (by omega) (c11.mp q)), if_neg (fun q => nq 12 (by omega) (by omega) (c12.mp q)), if_pos (c13.mpr qw)]; rfl
            rw [main.1, pu_b, ifn (by omega), f5_item, main.2, pu_b, if_neg (nI_pos (by omega)), bind_some', f5_cellItem, g3, pu_b]
            have := (p_thing T g4 (k := w - 7) (by omega)).nrm
            rcases this with ⟨X', R', σ', f', e', a, b, c, d⟩ | y
            · exact Or.inl ⟨X', R', σ', f', e', a, b, c, by omega⟩
            · exact Or.inr y
          · exact absurd qw y
        · have nk : ∀ w, 7 ≤ w → w < 14 → ¬ isw (R0 7) t f e w := fun w w1 w2 z => qk ⟨w, w1, w2, z⟩
          obtain ⟨R1, k1, k2⟩ := p_no T h
          have main : f3_readKind X = some (-2, X) := by
            rw [f3_readKind, np 7 (by omega) (nk 7 (by omega) (by omega)), pu_b, if0, np 8 (by omega) (nk 8 (by omega) (by omega)), pu_b, if0, np 9 (by omega) (nk 9 (by omega) (by omega)), pu_b, if0, np 10 (by omega) (nk 10 (by omega) (by omega)), pu_b, if0, np 11 (by omega) (nk 11 (by omega) (by omega)), pu_b, if0, np 12 (by omega) (nk 12 (by omega) (by omega)), pu_b, if0, np 13 (by omega) (nk 13 (by omega) (by omega)), pu_b, if0]
          rw [main, pu_b, ifm, f5_item, kn nk, pu_b, if_pos (show (-1 : Int32) < 0 by decide), wd, pu_b, if_neg k0, pu_b, if_neg k5, pu_b, if_neg k6, f5_item_81, k1, pu_b, w_num k2, pu_b, pu_stM (x := 3) (k := 3) rfl (by omega), pu_b]
          exact Or.inr ⟨X, _, f, rfl, rfl, h.wx, k2.sM _⟩
/-- how a text ends -/
def ZR (X0 R0 : sl_M) (t : Nat) (a b : Option (Int32 × sl_M)) : Prop :=
  (∃ x X' R' σ' f' e', 1 ≤ x ∧ x ≤ 120 ∧ a = some (nI x, X') ∧ b = f5_text_74 (nI x) R' ∧ PS X0 R0 t X' R' σ' f' e') ∨
  ∃ x X' R' p, a = some (-1 - nI p, X') ∧ b = f5_text_74 x R' ∧ WX X0 X' p ∧ WR R0 t R' p
theorem p_into (T : T0 X0 R0 t) : ∀ (k x n m f e : Nat) (X R : sl_M) (σ : Nat → Int32), PS X0 R0 t X R σ f e → 1 ≤ x → 2 * x ≤ f + 2 → t ≤ f + k → k < n → k + 1 < m → ZR X0 R0 t (f3_readInto_9 1 n (nI x) X) ((f5_item R).bind fun r3 => f5_text_24 m (nI x) r3) := by
  have ht := T.1
  intro k
  induction k with
  | zero =>
    intro x n m f e X R σ h hx hx2 hk hn hm
    obtain ⟨n, rfl⟩ : ∃ z, n = z + 1 := ⟨n - 1, by omega⟩
    obtain ⟨m, rfl⟩ : ∃ z, m = z + 1 := ⟨m - 1, by omega⟩
    have k5 := h.2.2.2.2.2.1
    have := k5.1
    have := k5.2.1
    rw [f3_readInto_9, if_neg (lnl (x := 120) (N := 120) rfl (by omega) (by omega))]
    rcases p_item T h with ⟨X', R', σ', f', e', a, b, c, d⟩ | ⟨X', R', p, a, b, c, d⟩
    · exfalso
      have c1 := c.2.2.2.2.2.1.1
      have c2 := c.2.2.2.2.2.1.2.1
      omega
    · rw [a, b, pu_b, pu_b, if0, f5_text_24, d.2.2.2.2, if_neg (by decide)]
      refine Or.inr ⟨nI x, X', R', p, ?_, rfl, c, d⟩
      show some ((-1 : Int32) - X' 28 4, X') = _
      rw [c.2]
  | succ k ih =>
    intro x n m f e X R σ h hx hx2 hk hn hm
    obtain ⟨n, rfl⟩ : ∃ z, n = z + 1 := ⟨n - 1, by omega⟩
    obtain ⟨m, rfl⟩ : ∃ z, m = z + 1 := ⟨m - 1, by omega⟩
    have k5 := h.2.2.2.2.2.1
    have := k5.1
    have := k5.2.1
    rw [f3_readInto_9, if_neg (lnl (x := 120) (N := 120) rfl (by omega) (by omega))]
    rcases p_item T h with ⟨X', R', σ', f', e', a, b, c, d⟩ | ⟨X', R', p, a, b, c, d⟩
    · have c15 := c.2.2.2.2.1
      have c12 := c.2.2.1
      have x3 := c.1.2.2.2.1
      have kk := c.2.2.2.2.2.1
      have := kk.1
      have := kk.2.1
      have b3 := r_byte T c.2.1 (i := f') (by omega)
      rw [a, b, pu_b, pu_b, if1, f5_text_24, c15, if_pos rfl, c12, c.2.1.2 11 (by omega), T.2.1, b3, pu_b]
      by_cases q0 : f' < t
      · have hs : sr (R0 7) t f' = s0 (R0 7 f') := by rw [sr, if_pos q0]
        obtain ⟨cc, hc, ec⟩ := (T.2.2 f' q0).2
        have sa := s0_all cc hc
        rw [← ec] at sa
        have n0 : ¬ X' 28 3 = 0 := fun z => by
          have := (sr_n T f' (k := 0) (by omega) (x := 0) rfl).mp (x3.symm.trans z)
          have := sa.2.2.2.2.2.1
          omega
        rw [if_neg n0, if_neg (nI_ge q0 (by omega)), if_pos q0]
        by_cases q3 : R0 7 f' = 59
        · obtain ⟨f2, e2, X2, R2, u1, u2, u3, u4, u5, u6⟩ := p_tok T c
          have := u5 q0
          rw [if_pos (show X' 28 3 = 3 from x3.trans ((sr_n T f' (k := 3) (by omega) (x := 3) rfl).mpr (by rw [hs]; exact sa.2.2.2.2.1.mpr q3))), u1, pu_b, if_pos q3, f5_text_61, u2, pu_b, nI_1]
          exact ih (x + 1) n m f2 e2 X2 R2 σ' u3 (by omega) (by omega) (by omega) (by omega) (by omega)
        · obtain ⟨R2, u1, u2⟩ := p_no T c
          obtain ⟨R3, u3, u4⟩ := w_item T u2
          obtain ⟨m, rfl⟩ : ∃ z, m = z + 1 := ⟨m - 1, by omega⟩
          rw [if_neg (show ¬ X' 28 3 = 3 from fun z => q3 (sa.2.2.2.2.1.mp (by rw [← hs]; exact (sr_n T f' (k := 3) (by omega) (x := 3) rfl).mp (x3.symm.trans z)))), if_neg q3, f5_text_61, u1, pu_b, u3, pu_b, f5_text_24, u4.2.2.2.2, if_neg (by decide)]
          refine Or.inr ⟨nI x + 1, X', R3, f', ?_, rfl, c.wx, u4⟩
          show some ((-1 : Int32) - X' 28 4, X') = _
          rw [c.wx.2]
      · rw [if_pos (show X' 28 3 = 0 from x3.trans ((sr_n T f' (k := 0) (by omega) (x := 0) rfl).mpr (by rw [sr, if_neg q0]))), if_pos (nI_le (by omega) (by omega))]
        exact Or.inl ⟨x, X', R', σ', f', e', hx, by omega, rfl, rfl, c⟩
    · rw [a, b, pu_b, pu_b, if0, f5_text_24, d.2.2.2.2, if_neg (by decide)]
      refine Or.inr ⟨nI x, X', R', p, ?_, rfl, c, d⟩
      show some ((-1 : Int32) - X' 28 4, X') = _
      rw [c.2]
theorem Rel.txt {X2 R2 : sl_M} (h : Rel X R) (hX : ∀ r, r ≠ 28 → 18 ≤ r → X2 r = X r) (hL : RL X2 0 (R2 1)) (ho : ok (R2 1)) (hR : ∀ r, r ≠ 0 → r ≠ 1 → r ≠ 3 → R2 r = R r) (h4 : R2 0 4 = R 0 4) (hx1 : X2 28 1 = 0) (hr1 : R2 0 11 = 0) : Rel X2 R2 := by
  obtain ⟨a, b, c, d, e, f⟩ := h
  have q2 : ∀ i, i < 9 → X2 (9 * 2 + i) = X (9 * 2 + i) := fun i hi => hX _ (by omega) (by omega)
  rw [Rel, hR 2 (by omega) (by omega) (by omega), hR 4 (by omega) (by omega) (by omega), hR 7 (by omega) (by omega) (by omega), hR 8 (by omega) (by omega) (by omega), hR 9 (by omega) (by omega) (by omega), hR 10 (by omega) (by omega) (by omega), h4, hX 27 (by omega) (by omega), hX 35 (by omega) (by omega), hX 32 (by omega) (by omega), hX 33 (by omega) (by omega), hX 34 (by omega) (by omega)]
  refine ⟨hL, ho, ?_, d, ⟨0, by omega, hx1, hr1, fun i hi => by omega⟩, f⟩
  obtain ⟨z, c1, c2, c3⟩ := c
  exact ⟨z, c1, c2, fun hz => ⟨(c3 hz).1.same q2, (c3 hz).2⟩⟩
theorem st_text (h : Rel X R) : Stq (f4_text X) (f5_text R) := by
  obtain ⟨t, t1, t2, t3, t4⟩ := h.2.2.2.2.1
  have T : T0 X (oM R) t := ⟨t1, by rw [oM_n R (by omega)]; exact t3, fun i hi => by rw [oM_n R (by omega)]; exact t4 i hi⟩
  obtain ⟨X1, a1, a2, a3⟩ := h.take
  have o1 : oM R 1 = R 1 := oM_n R (by omega)
  have fx : FXx X (sl_up X1 28 2 0) := fun r r1 r2 => by rw [pu_upn r1]; exact a3 r (by omega)
  have fr : FRr (oM R) (sl_up (sl_up (oM R) 0 13 0) 0 15 0) := FRr.up (FRr.up ⟨fun _ _ _ => rfl, fun _ _ => rfl⟩ (by omega) _) (by omega) _
  obtain ⟨f, e, X2, R2, c1, c2, c3, c4, c5, c6⟩ := s_step T fx (by rw [pu_ups, pu_un (by omega), a3 28 (by omega)]; exact t2) (e := 0) (by omega) (by rw [pu_ups, pu_us]; rfl) fr (by rw [pu_ups, pu_un (by omega), pu_ups, pu_us]; rfl)
  have hp : PS X (oM R) t X2 R2 (R 1) f e := by
    refine ⟨⟨c5.1, c5.2.1, c5.2.2.1, c5.2.2.2.1, c5.2.2.2.2.1, c5.2.2.2.2.2.1, fun _ _ => rfl⟩, c6.1, c6.2.1, c6.2.2.1, ?_, c4, ?_, ?_, h.2.1⟩
    · rw [c6.2.2.2.1 15 (by omega), pu_ups, pu_us]
    · exact a2.same (fun k hk => by rw [c5.2.2.2.2.2.2 _ (by omega), pu_upn (by omega)])
    · rw [c6.2.2.2.2, pu_upn (by omega), pu_upn (by omega), o1]
  have z := p_into T 120 1 400 400 f e X2 R2 (R 1) hp (by omega) (by omega) (by omega) (by omega) (by omega)
  rw [f4_text, a1, pu_b, f3_readInto, f2_rewind, c1, pu_b, pu_b, f5_text, r_puts, pu_b, c2, pu_b]
  rcases z with ⟨x, X', R', σ', f', e', x1, x2, za, zb, zp⟩ | ⟨x, X', R', p, za, zb, zw, zr⟩
  · rw [show f3_readInto_9 1 400 1 X2 = _ from za, pu_b, show ((f5_item R2).bind fun r3 => f5_text_24 400 1 r3) = _ from zb]
    dsimp only
    obtain ⟨X3, b1', b2, b3⟩ := x_takeAll (j := 0) (j2 := 1) zp.2.2.2.2.2.2.1 (by omega)
    have e15 : sl_up R' 0 11 0 0 15 = 0 := by rw [pu_ups, pu_un (by omega)]; exact zp.2.2.2.2.1
    have hr' : R' 1 = σ' := zp.2.2.2.2.2.2.2.1
    have zf := zp.2.1
    rw [if_neg (nI_pos (by omega)), b1', pu_b, f4_text_38, f5_text_74, e15, if_pos rfl]
    refine Stq.of (h.txt (fun r r1 r2 => ?_) ?_ ?_ (fun r r0 r1 r3 => ?_) ?_ ?_ ?_)
    · rw [pu_upn r1, b3 r (by omega)]; exact zp.1.1 r r1 (by omega)
    · rw [pu_upn (show 1 ≠ 0 by omega), hr']
      exact b2.same (fun k hk => pu_upn (by omega))
    · rw [pu_upn (by omega), hr']; exact zp.ok
    · rw [pu_upn r0, zf.1 r r0 r1]; exact oM_n R r3
    · rw [pu_ups, pu_un (by omega), zf.2 4 (by omega), oM_n R (by omega)]
    · rw [pu_ups, pu_us]
    · rw [pu_ups, pu_us]
  · rw [show f3_readInto_9 1 400 1 X2 = _ from za, pu_b, show ((f5_item R2).bind fun r3 => f5_text_24 400 1 r3) = _ from zb]
    dsimp only
    have e15 : ¬ sl_up R' 0 11 0 0 15 = 0 := by rw [pu_ups, pu_un (by omega), zr.2.2.2.2]; decide
    have zf := zr.1
    have hp : p ≤ 120 := by have := zr.2.2.1; omega
    have neg : (-1 : Int32) - nI p < 0 := (by decide +kernel : ∀ p, p < 121 → (-1 : Int32) - nI p < 0) p (by omega)
    have e3 : ∀ k, k < 111 → (fun k => if k < 111 then sl_up R' 0 11 0 3 k else sl_up R' 0 11 0 1 k) k = R 1 k := fun k hk => by
      dsimp only
      rw [if_pos hk, pu_upn (by omega), zf.1 3 (by omega) (by omega), oM_3 R hk]
    rw [if_pos neg, f4_text_38, f5_text_74, if_neg e15, r_back, pu_b, sM_n _ _ (show 0 ≠ 1 by omega), show sl_up R' 0 11 0 0 12 = nI p by rw [pu_ups, pu_un (by omega)]; exact zr.2.1]
    refine Stq.of (h.txt (fun r r1 r2 => ?_) ?_ ?_ (fun r r0 r1 r3 => ?_) ?_ ?_ ?_)
    · rw [pu_upn r1]; exact zw.1 r r1 (by omega)
    · rw [sM_1]
      exact (h.1.same (fun k hk => by rw [pu_upn (by omega)]; exact zw.1 _ (by omega) (by omega))).get e3
    · rw [sM_1]; exact h.2.1.get e3
    · rw [sM_n _ _ r1, pu_upn r0, zf.1 r r0 r1]; exact oM_n R r3
    · rw [sM_n _ _ (by omega), pu_ups, pu_un (by omega), zf.2 4 (by omega), oM_n R (by omega)]
    · rw [pu_ups, pu_us]
    · rw [sM_n _ _ (by omega), pu_ups, pu_us]
end TX
