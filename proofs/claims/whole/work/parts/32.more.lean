section CF
variable {X R : sl_M}
theorem r_back2 {M : sl_M} {σ : Nat → Int32} (h3 : ∀ k, k < 111 → M 3 k = σ k) (h1 : ∀ k, 111 ≤ k → M 1 k = σ k) : f5_putsBack M = some (sM M σ) := by
  rw [r_back]
  congr 2
  funext k
  by_cases hk : k < 111
  · rw [if_pos hk]; exact h3 k hk
  · rw [if_neg hk]; exact h1 k (by omega)
theorem oM_3 (M : sl_M) {k : Nat} (hk : k < 111) : oM M 3 k = M 1 k := by
  show (if k < 111 then M 1 k else M 3 k) = _
  rw [if_pos hk]
theorem st_gains (h : Rel X R) (x1 x2 x3 : Int32) : Stq (f4_gains x1 x2 x3 X) (f5_gains x1 x2 x3 R) := by
  obtain ⟨n1, n2⟩ := h.2.1.nh
  rw [f4_gains, f5_gains, e_cell, e_kind, e_ahead, r_far h, pu_b]
  by_cases h1 : f4_isCell x1 = 0
  · rw [if_pos h1, if_pos h1]; exact t0 h
  · rw [if_neg h1, if_neg h1]
    by_cases h2 : f4_isKind x2 = 0
    · rw [if_pos h2, if_pos h2]; exact t0 h
    · rw [if_neg h2, if_neg h2]
      by_cases h3 : f4_isSpan x3 = 0
      · rw [if_pos h3, if_pos h3]; exact t0 h
      · rw [if_neg h3, if_neg h3]
        by_cases h4 : f4_isTooLate x3 X = 0
        · rw [if_pos h4, if_pos h4]
          obtain ⟨c, hc, rfl⟩ := cellN h1
          obtain ⟨k, hk, rfl⟩ := kindN h2
          obtain ⟨n, hn, rfl⟩ := spanN h3
          obtain ⟨y, ey, hy⟩ := lateN h hn h4
          have q4 : oM R 1 = R 1 := oM_n R (by omega)
          have og := h.2.1.grow hn ey hy
          have os : ok (setS (R 1) c (nI k)) := h.2.1.set hc hk
          have og2 : ok (Sgrow (setS (R 1) c (nI k)) n) := os.grow hn (y := y) (by unfold setS; rw [pu_un (by omega), pu_un (by omega)]; exact ey) hy
          have g1 : Sgrow (R 1) n 1 = nI (nh (R 1)) := by rw [Sg_n _ _ (by omega) (by omega)]; exact n2
          have g2 : Sgrow (setS (R 1) c (nI k)) n 1 = nI (nh (R 1)) := by rw [Sg_n _ _ (by omega) (by omega)]; unfold setS; rw [pu_un (by omega), pu_un (by omega)]; exact n2
          obtain ⟨X1, z1, z2, z3⟩ := s_tryY h n
          rw [z1, pu_b, r_puts, pu_b, r_years (by rw [q4]; exact h.2.1.2.2.2.2.1) (by omega), pu_b, q4]
          obtain ⟨M, f2, ⟨a1, a2⟩, e1⟩ := pu_1 (F := fun f i (M : sl_M) => f4_gains_49 (nI c) (nI k) (nI n) f (nI i) M) (N := nh (R 1)) (fun i M => (∀ r, r ≠ 36 → M r = X1 r) ∧ ∀ z, z < i → M 36 z = Stax (Sgrow (R 1) n) z) (by
            rintro i M hi ⟨a1, a2⟩
            have hr : Rel M R := (h.trial z3).keep (fun r hr => a1 r (by omega)) (fun _ _ => rfl) rfl rfl
            have hM : RL M 1 (Sgrow (R 1) n) := z2.same (fun q hq => a1 _ (by omega))
            refine ⟨sl_up M 36 i (Stax (Sgrow (R 1) n) i), ⟨fun r hr => by rw [pu_upn hr]; exact a1 r hr, fun z hz => ?_⟩, fun f => ?_⟩
            · rw [pu_ups]
              by_cases q : z = i
              · subst q; exact pu_us
              · rw [pu_un q]; exact a2 z (by omega)
            · rw [f4_gains_49, hr.n, if_neg (nI_ge hi (by omega)), x_tax hM og (by omega), pu_b, pu_st rfl (show i < 8 by omega) (by omega), pu_b, nI_1]) (nh (R 1)) 0 X1 (by omega) ⟨fun _ _ => rfl, fun z hz => by omega⟩ (f := 400) (by omega)
          obtain ⟨N, f3, ⟨u5, v5⟩, e2⟩ := pu_1 (F := fun f i (M : sl_M) => f5_gains_55 (nI c) (nI k) (nI n) f (nI i) M) (N := nh (R 1)) (fun i M => (∀ r, r ≠ 5 → M r = sM (oM R) (Sgrow (R 1) n) r) ∧ ∀ z, z < i → M 5 z = Stax (Sgrow (R 1) n) z) (by
            rintro i N hi ⟨u5, v5⟩
            have e11 : N 1 = Sgrow (R 1) n := by rw [u5 1 (by omega), sM_1]
            refine ⟨sl_up N 5 i (Stax (Sgrow (R 1) n) i), ⟨fun r hr => by rw [pu_upn hr]; exact u5 r hr, fun z hz => ?_⟩, fun f => ?_⟩
            · rw [pu_ups]
              by_cases q : z = i
              · subst q; exact pu_us
              · rw [pu_un q]; exact v5 z (by omega)
            · rw [f5_gains_55, pu_ld (x := (1 : Int32)) (k := 1) rfl (by omega) (by omega), pu_b, e11, g1, if_neg (nI_ge hi (by omega)), r_tax (by omega) (by rw [e11]; exact og), pu_b, e11, pu_st rfl (show i < 8 by omega) (by omega), pu_b, nI_1]) (nh (R 1)) 0 (sM (oM R) (Sgrow (R 1) n)) (by omega) ⟨fun _ _ => rfl, fun z hz => by omega⟩ (f := 400) (by omega)
          have hr : Rel M R := (h.trial z3).keep (fun r hr => a1 r (by omega)) (fun _ _ => rfl) rfl rfl
          obtain ⟨M2, c1, c2, c3⟩ := s_try (y := 0) hr hc (nI k) hn
          have e11 : N 1 = Sgrow (R 1) n := by rw [u5 1 (by omega), sM_1]
          have e13 : ∀ z, z < 111 → N 3 z = R 1 z := fun z hz => by rw [u5 3 (by omega), sM_n _ _ (by omega), oM_3 R hz]
          rw [show f4_gains_49 (nI c) (nI k) (nI n) 400 0 X1 = _ from e1, f4_gains_49, hr.n, if_pos (nI_le (Nat.le_refl _) (by omega)), c1, pu_b, show f5_gains_55 (nI c) (nI k) (nI n) 400 0 (sM (oM R) (Sgrow (R 1) n)) = _ from e2, f5_gains_55, pu_ld (x := (1 : Int32)) (k := 1) rfl (by omega) (by omega), pu_b, e11, g1, if_pos (nI_le (Nat.le_refl _) (by omega)), r_back2 (σ := R 1) e13 (fun z hz => by rw [e11]; exact hi_grow z hz), pu_b, r_sets hc, pu_b, sM_s, sM_1, r_years (by rw [sM_1]; exact os.2.2.2.2.1) (by omega), pu_b, sM_s, sM_1]
          have hr2 : Rel M2 R := hr.trial c3
          obtain ⟨a, b, f4, hab, e3, e4⟩ := pu_2 (F := fun f i (a : Int32) => f4_gains_96 f a (nI i) M2) (G := fun f i (a : Int32) => f5_gains_106 f a (nI i) (sM N (Sgrow (setS (R 1) c (nI k)) n))) (N := nh (R 1)) (fun _ a b => a = b) (by
            rintro i a b hi rfl
            have m36 : M2 36 = M 36 := c3 36 (by omega)
            have xx : ∀ f, f4_gains_96 (f + 1) a (nI i) M2 = if Stax (Sgrow (R 1) n) i ≤ Stax (Sgrow (setS (R 1) c (nI k)) n) i then f4_gains_96 f a (nI (i + 1)) M2 else f4_gains_96 f (a ||| b1 i) (nI (i + 1)) M2 := by
              intro f
              rw [f4_gains_96, hr2.n, if_neg (nI_ge hi (by omega)), x_tax c2 og2 (by omega), pu_b, pu_ld rfl (show i < 8 by omega) (by omega), pu_b, m36, a2 i hi, nI_1]
              rfl
            have yy : ∀ f, f5_gains_106 (f + 1) a (nI i) (sM N (Sgrow (setS (R 1) c (nI k)) n)) = if Stax (Sgrow (R 1) n) i ≤ Stax (Sgrow (setS (R 1) c (nI k)) n) i then f5_gains_106 f a (nI (i + 1)) (sM N (Sgrow (setS (R 1) c (nI k)) n)) else f5_gains_106 f (a ||| b1 i) (nI (i + 1)) (sM N (Sgrow (setS (R 1) c (nI k)) n)) := by
              intro f
              rw [f5_gains_106, pu_ld (x := (1 : Int32)) (k := 1) rfl (by omega) (by omega), pu_b, sM_1, g2, if_neg (nI_ge hi (by omega)), r_tax (by omega) (by rw [sM_1]; exact og2), pu_b, sM_1, pu_ld rfl (show i < 8 by omega) (by omega), pu_b, sM_n _ _ (by omega), v5 i hi, nI_1, or_0]
              rfl
            by_cases z : Stax (Sgrow (R 1) n) i ≤ Stax (Sgrow (setS (R 1) c (nI k)) n) i
            · exact ⟨a, a, rfl, fun f => by rw [xx f, if_pos z], fun f => by rw [yy f, if_pos z]⟩
            · exact ⟨a ||| b1 i, a ||| b1 i, rfl, fun f => by rw [xx f, if_neg z], fun f => by rw [yy f, if_neg z]⟩) (nh (R 1)) 0 (0 : Int32) (0 : Int32) (by omega) rfl (f := 400) (by omega)
          rw [show f4_gains_96 400 0 0 M2 = _ from e3, show f5_gains_106 400 0 0 (sM N (Sgrow (setS (R 1) c (nI k)) n)) = _ from e4, f4_gains_96, hr2.n, if_pos (nI_le (Nat.le_refl _) (by omega)), f5_gains_106, pu_ld (x := (1 : Int32)) (k := 1) rfl (by omega) (by omega), pu_b, sM_1, g2, if_pos (nI_le (Nat.le_refl _) (by omega)), r_back2 (σ := R 1) (fun z hz => by rw [sM_n _ _ (by omega)]; exact e13 z hz) (fun z hz => by rw [sM_1, hi_grow z hz, hi_set hc z hz]), pu_b, sM_s, hab]
          refine Stq.of (hr2.keep (fun _ _ => rfl) (fun r hr => ?_) ?_ ?_)
          · by_cases q : r = 1
            · subst q; rw [sM_1]
            · rw [sM_n _ _ q, u5 r (by omega), sM_n _ _ q, oM_n _ (by omega)]
          · rw [sM_n _ _ (by omega), u5 0 (by omega), sM_n _ _ (by omega), oM_n _ (by omega)]
          · rw [sM_n _ _ (by omega), u5 0 (by omega), sM_n _ _ (by omega), oM_n _ (by omega)]
        · rw [if_neg h4, if_neg h4]; exact t4 h
/-! two things -/
theorem pu_g {α β TA TB : Type} {F : Nat → Nat → α → TA} {G : Nat → Nat → β → TB} {N : Nat} (I : Nat → α → β → Prop)
    (hs : ∀ i a b, i < N → I i a b → ∃ a2 b2, I (i + 1) a2 b2 ∧ (∀ n, F (n + 1) i a = F n (i + 1) a2) ∧ ∀ n, G (n + 1) i b = G n (i + 1) b2) :
    ∀ (k i : Nat) (a : α) (b : β), i + k = N → I i a b → ∃ a2 b2, I N a2 b2 ∧ (∀ n, F (n + k) i a = F n N a2) ∧ ∀ n, G (n + k) i b = G n N b2 := by
  intro k
  induction k with
  | zero =>
    intro i a b h hI
    have e : i = N := by omega
    subst e
    exact ⟨a, b, hI, fun _ => rfl, fun _ => rfl⟩
  | succ k ih =>
    intro i a b h hI
    obtain ⟨a2, b2, h1, h2, h3⟩ := hs i a b (by omega) hI
    obtain ⟨a3, b3, g1, g2, g3⟩ := ih (i + 1) a2 b2 (by omega) h1
    exact ⟨a3, b3, g1, fun n => by rw [← g2 n, ← h2 (n + k)]; rfl, fun n => by rw [← g3 n, ← h3 (n + k)]; rfl⟩
theorem undo_set {σ : Nat → Int32} {b : Nat} {k : Int32} : upd (upd (upd (setS σ b k) (5 + 3 * b) (σ (5 + 3 * b))) (5 + 3 * b + 1) (σ (5 + 3 * b + 1))) (5 + 3 * b + 2) (σ (5 + 3 * b + 2)) = σ := by
  funext z
  unfold setS upd
  by_cases h2 : z = 5 + 3 * b + 2
  · rw [if_pos h2, h2]
  · rw [if_neg h2]
    by_cases h1 : z = 5 + 3 * b + 1
    · rw [if_pos h1, h1]
    · rw [if_neg h1]
      by_cases h0 : z = 5 + 3 * b
      · rw [if_pos h0, h0]
      · rw [if_neg h0, if_neg h2, if_neg h0]
theorem st_two (h : Rel X R) (x1 : Int32) : Stq (f4_two x1 X) (f5_two x1 R) := by
  rw [f4_two, f5_two, e_kind]
  by_cases h2 : f4_isKind x1 = 0
  · rw [if_pos h2, if_pos h2]; exact t0 h
  · rw [if_neg h2, if_neg h2, r_puts, pu_b]
    obtain ⟨k, hk, rfl⟩ := kindN h2
    obtain ⟨X1, a1, a2, a3⟩ := h.take
    rw [a1, pu_b]
    have q4 : oM R 1 = R 1 := oM_n R (by omega)
    obtain ⟨p, q, f2, ⟨hp1, hp2, hF, hM, hq⟩, e1, e2⟩ := pu_2 (F := fun f i (a1 : Int32 × Int32 × sl_M) => f4_two_31 (nI k) f a1.1 a1.2.1 (nI i) a1.2.2) (G := fun f i (a1 : Int32 × Int32 × sl_M) => f5_two_25 (nI k) f a1.1 a1.2.1 (nI i) a1.2.2) (N := 24) (fun i a1 b1 => a1.1 = b1.1 ∧ a1.2.1 = b1.2.1 ∧ Fr 1 X a1.2.2 ∧ RL a1.2.2 1 (R 1) ∧ b1.2.2 = oM R) (by
      rintro a ⟨b, l, M⟩ ⟨b2, l2, M2⟩ ha ⟨q1, q2, hF, hM, q5⟩
      dsimp only at q1 q2 hF hM q5
      subst q1; subst q2; subst q5
      obtain ⟨Ma, y1, y2, y3⟩ := x_place hM ha (nI k)
      have osa : ok (setS (R 1) a (nI k)) := h.2.1.set ha hk
      obtain ⟨⟨p1, p2, p3⟩, ⟨r1, r2, r3⟩, ⟨i1, i2, i3, i4, i5⟩, j1, j2⟩ := pu_g (F := fun f i (a1 : Int32 × Int32 × sl_M) => fun (K : Int32 → Int32 → Int32 → sl_M → Option (Int32 × sl_M)) => f4_two_54 K (nI k) (nI a) f a1.1 a1.2.1 (nI i) a1.2.2) (G := fun f i (a1 : Int32 × Int32 × sl_M) => fun (K : Int32 → Int32 → Int32 → sl_M → Option (Int32 × sl_M)) => f5_two_38 K (nI k) (nI a) f a1.1 a1.2.1 (nI i) a1.2.2) (N := 24) (fun i a1 b1 => a1.1 = b1.1 ∧ a1.2.1 = b1.2.1 ∧ Fr 1 X a1.2.2 ∧ (RL a1.2.2 1 (setS (R 1) a (nI k)) ∧ a < i) ∧ b1.2.2 = oM R) (by
        rintro i ⟨b, l, M⟩ ⟨b2, l2, M2⟩ hi ⟨q1, q2, hF, ⟨hM, hai⟩, q5⟩
        dsimp only at q1 q2 hF hM q5
        subst q1; subst q2; subst q5
        have hr : Rel M R := h.trial hF
        obtain ⟨Mb, w1, w2, w3⟩ := x_place hM hi (nI k)
        have osb : ok (setS (setS (R 1) a (nI k)) i (nI k)) := osa.set hi hk
        have r0 : RL Mb 0 (R 1) := (h.trial (hF.tr w3)).1
        obtain ⟨Mc, v1, v2, v3⟩ := x_takeCell w2 r0 (by omega) hi
        have eb : ∀ z, (z = 5 + 3 * i ∨ z = 5 + 3 * i + 1 ∨ z = 5 + 3 * i + 2) → setS (R 1) a (nI k) z = R 1 z := fun z hz => by unfold setS; rw [pu_un (by omega), pu_un (by omega)]
        rw [← eb (5 + 3 * i) (by omega), ← eb (5 + 3 * i + 1) (by omega), ← eb (5 + 3 * i + 2) (by omega), undo_set] at v2
        have hF2 : Fr 1 X Mc := (hF.tr w3).tr v3
        have xx : ∀ f (K : Int32 → Int32 → Int32 → sl_M → Option (Int32 × sl_M)), f4_two_54 K (nI k) (nI a) (f + 1) b l (nI i) M = (if b < 0 then f4_two_54 K (nI k) (nI a) f (100 * nI a + nI i) (Sall (setS (setS (R 1) a (nI k)) i (nI k))) (nI (i + 1)) Mc else (if l ≤ Sall (setS (setS (R 1) a (nI k)) i (nI k)) then f4_two_54 K (nI k) (nI a) f b l (nI (i + 1)) Mc else f4_two_54 K (nI k) (nI a) f (100 * nI a + nI i) (Sall (setS (setS (R 1) a (nI k)) i (nI k))) (nI (i + 1)) Mc)) := by
          intro f K
          rw [f4_two_54, if_neg (lge (x := 24) (N := 24) rfl hi (by omega)), w1, pu_b, x_all w2 osb, pu_b, f4_two_90, f4_two_102, f4_two_102, v1, pu_b, pu_b, nI_1]
        have yy : ∀ f (K : Int32 → Int32 → Int32 → sl_M → Option (Int32 × sl_M)), f5_two_38 K (nI k) (nI a) (f + 1) b l (nI i) (oM R) = (if b < 0 then f5_two_38 K (nI k) (nI a) f (100 * nI a + nI i) (Sall (setS (setS (R 1) a (nI k)) i (nI k))) (nI (i + 1)) (oM R) else (if l ≤ Sall (setS (setS (R 1) a (nI k)) i (nI k)) then f5_two_38 K (nI k) (nI a) f b l (nI (i + 1)) (oM R) else f5_two_38 K (nI k) (nI a) f (100 * nI a + nI i) (Sall (setS (setS (R 1) a (nI k)) i (nI k))) (nI (i + 1)) (oM R))) := by
          intro f K
          rw [f5_two_38, if_neg (lge (x := 24) (N := 24) rfl hi (by omega)), r_sets ha, pu_b, r_sets hi, pu_b, sM_s, sM_1, q4, r_all (by rw [sM_1]; exact osb), pu_b, sM_1, r_tried (fun x hx => by rw [hi_set hi x hx, hi_set ha x hx]), pu_b, f5_two_79, nI_1]
        by_cases c1 : b < 0
        · exact ⟨(100 * nI a + nI i, Sall (setS (setS (R 1) a (nI k)) i (nI k)), Mc), (100 * nI a + nI i, Sall (setS (setS (R 1) a (nI k)) i (nI k)), oM R), ⟨rfl, rfl, hF2, ⟨v2, by omega⟩, rfl⟩, fun f => by funext K; dsimp only; rw [xx f, if_pos c1], fun f => by funext K; dsimp only; rw [yy f, if_pos c1]⟩
        · by_cases c2 : l ≤ Sall (setS (setS (R 1) a (nI k)) i (nI k))
          · exact ⟨(b, l, Mc), (b, l, oM R), ⟨rfl, rfl, hF2, ⟨v2, by omega⟩, rfl⟩, fun f => by funext K; dsimp only; rw [xx f, if_neg c1, if_pos c2], fun f => by funext K; dsimp only; rw [yy f, if_neg c1, if_pos c2]⟩
          · exact ⟨(100 * nI a + nI i, Sall (setS (setS (R 1) a (nI k)) i (nI k)), Mc), (100 * nI a + nI i, Sall (setS (setS (R 1) a (nI k)) i (nI k)), oM R), ⟨rfl, rfl, hF2, ⟨v2, by omega⟩, rfl⟩, fun f => by funext K; dsimp only; rw [xx f, if_neg c1, if_neg c2], fun f => by funext K; dsimp only; rw [yy f, if_neg c1, if_neg c2]⟩) (24 - (a + 1)) (a + 1) (b, l, Ma) (b, l, oM R) (by omega) ⟨rfl, rfl, hF.tr y3, ⟨y2, by omega⟩, rfl⟩
      dsimp only at i1 i2 i3 i4 i5 j1 j2
      subst i1; subst i2; subst i5
      have r0 : RL p3 0 (R 1) := (h.trial i3).1
      obtain ⟨Md, v1, v2, v3⟩ := x_takeCell i4.1 r0 (by omega) ha
      rw [undo_set] at v2
      refine ⟨(p1, p2, Md), (p1, p2, oM R), ⟨rfl, rfl, i3.tr v3, v2, rfl⟩, fun f => ?_, fun f => ?_⟩
      · dsimp only
        have := congrFun (j1 (400 - (24 - (a + 1)) - 1 + 1)) (f4_two_31 (nI k) f)
        rw [show 400 - (24 - (a + 1)) - 1 + 1 + (24 - (a + 1)) = 400 by omega] at this
        rw [f4_two_31, if_neg (lge (x := 24) (N := 24) rfl ha (by omega)), y1, pu_b, nI_1, this, f4_two_54, if_pos (show (24 : Int32) ≤ nI 24 by decide), v1, pu_b, nI_1]
      · dsimp only
        have := congrFun (j2 (400 - (24 - (a + 1)) - 1 + 1)) (f5_two_25 (nI k) f)
        rw [show 400 - (24 - (a + 1)) - 1 + 1 + (24 - (a + 1)) = 400 by omega] at this
        rw [f5_two_25, if_neg (lge (x := 24) (N := 24) rfl ha (by omega)), nI_1, this, f5_two_38, if_pos (show (24 : Int32) ≤ nI 24 by decide), nI_1]) 24 0 ((-1 : Int32), (0 : Int32), X1) ((-1 : Int32), (0 : Int32), oM R) (by omega) ⟨rfl, rfl, a3, a2, rfl⟩ (f := 400) (by omega)
    dsimp only at e1 e2
    rw [show f4_two_31 (nI k) 400 (-1) 0 0 X1 = _ from e1, show f5_two_25 (nI k) 400 (-1) 0 0 (oM R) = _ from e2, f4_two_31, if_pos (show (24 : Int32) ≤ nI 24 by decide), f5_two_25, if_pos (show (24 : Int32) ≤ nI 24 by decide), hp1, hq]
    exact Stq.of ((h.trial hF).o)
end CF
