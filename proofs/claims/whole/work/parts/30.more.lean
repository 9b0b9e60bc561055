/-! what a sight depends on -/
def cgr (σ τ : Nat → Int32) (h : Nat) : Prop := σ 2 = τ 2 ∧ (∀ i, 5 ≤ i → i < 77 → σ i = τ i) ∧ σ (77 + 3 * h) = τ (77 + 3 * h) ∧ σ (77 + 3 * h + 1) = τ (77 + 3 * h + 1) ∧ σ (77 + 3 * h + 2) = τ (77 + 3 * h + 2)
theorem cgr.sm {σ τ : Nat → Int32} {h : Nat} (c : cgr σ τ h) : cgr τ σ h := ⟨c.1.symm, fun i a b => (c.2.1 i a b).symm, c.2.2.1.symm, c.2.2.2.1.symm, c.2.2.2.2.symm⟩
theorem cg_hm {σ τ : Nat → Int32} {h : Nat} (c : cgr σ τ h) : hm σ h = hm τ h := by unfold hm; rw [c.2.2.1]
theorem cg_top {σ τ : Nat → Int32} {h : Nat} (c : cgr σ τ h) {x : Nat} (hx : x < 24) : Stop σ x = Stop τ x := by
  unfold Stop
  rw [c.2.1 _ (by omega) (by omega), c.2.1 _ (by omega) (by omega), c.2.1 _ (by omega) (by omega)]
theorem cg_ri {σ τ : Nat → Int32} {h : Nat} (c : cgr σ τ h) (hp : hm σ h < 24) {e : Bool} {d : Nat} (hd : okD e (hm σ h) d) : ri σ h e d = ri τ h e d := by
  unfold ri Seye
  rw [cg_top c hd.lt, cg_top c hp, ← cg_hm c, c.2.2.2.1]
theorem cg_sv {σ τ : Nat → Int32} {h : Nat} (c : cgr σ τ h) (hp : hm σ h < 24) {x : Nat} (v : sv σ h x) : sv τ h x := by
  obtain ⟨e, d, h1, h2, h3, h4, h5⟩ := v
  have q := cg_hm c
  refine ⟨e, d, h1, by rw [← q]; exact h2, by rw [← q]; exact h3, ?_, fun b b1 b2 => ?_⟩
  · unfold twd opb at h4 ⊢
    rw [← c.1, ← c.2.2.2.2]; exact h4
  · rw [← cg_ri c hp (h2.mono (Nat.le_of_lt b2)), ← cg_ri c hp h2]
    exact h5 b b1 b2
theorem cg_sight {σ τ : Nat → Int32} {h : Nat} (c : cgr σ τ h) (hp : hm σ h < 24) : Ssight σ h = Ssight τ h := by
  apply bt_ext
  intro i hi
  rw [Ssight_bt hi, Ssight_bt hi, cg_hm c]
  constructor
  · rintro ⟨a, b | b⟩
    · exact ⟨a, Or.inl b⟩
    · exact ⟨a, Or.inr (cg_sv c hp b)⟩
  · rintro ⟨a, b | b⟩
    · exact ⟨a, Or.inl b⟩
    · exact ⟨a, Or.inr (cg_sv c.sm (by rw [← cg_hm c]; exact hp) b)⟩
theorem smf_cg {f g : Nat → Int32} : ∀ (n : Nat), (∀ i, i < n → f i = g i) → smf f n = smf g n := by
  intro n
  induction n with
  | zero => intro _; rfl
  | succ n ih =>
    intro h
    rw [smf, smf, ih (fun i hi => h i (by omega)), h n (by omega)]
theorem cg_seen {σ τ : Nat → Int32} {h : Nat} (c : cgr σ τ h) (hp : hm σ h < 24) : smf (Stw σ h) 24 = smf (Stw τ h) 24 := by
  apply smf_cg
  intro i hi
  unfold Stw Swor
  rw [cg_sight c hp, cg_hm c, c.2.1 _ (by omega) (by omega)]
theorem cg_tax {σ τ : Nat → Int32} {h : Nat} (c : cgr σ τ h) (hp : hm σ h < 24) (h3 : σ 3 = τ 3) : Stax σ h = Stax τ h := by
  unfold Stax
  rw [cg_seen c hp, h3]
theorem in_w' (x b : Int32) : f5_in x.toInt64 (0 : Int64) b.toInt64 = f4_isWithin x 0 b := in_w x 0 b
section CD
variable {X R : sl_M}
theorem st_years (h : Rel X R) (x1 : Int32) : Stq (f4_years x1 X) (f5_years x1 R) := by
  rw [f4_years, f5_years, e_in x1 1 60 (a2 := 1) (b2 := 60) rfl rfl, r_far h, pu_b]
  by_cases h1 : f4_isWithin x1 1 60 = 0
  · rw [if_pos h1, if_pos h1]; exact t0 h
  · rw [if_neg h1, if_neg h1]
    by_cases h4 : f4_isTooLate x1 X = 0
    · rw [if_pos h4, if_pos h4]
      obtain ⟨n, hn1, hn, rfl⟩ := wi_n1 (m := 1) (n := 60) rfl rfl h1
      obtain ⟨y, ey, hy⟩ := lateN h hn h4
      obtain ⟨X2, z1, z2, z3⟩ := x_grow (j := 0) h.1 n
      rw [z1, pu_b, r_years h.2.1.2.2.2.2.1 (by omega), pu_b, pu_ld (x := (0 : Int32)) (k := 0) rfl (by omega) (by omega), pu_b, sM_1, show X2 0 11 = Sgrow (R 1) n 0 from z2.2.2.2.2.2.2.1]
      exact Stq.of (h.land z2 (h.2.1.grow hn ey hy) z3)
    · rw [if_neg h4, if_neg h4]; exact t4 h
theorem st_ahead (h : Rel X R) (x1 x2 : Int32) : Stq (f4_ahead x1 x2 X) (f5_ahead x1 x2 R) := by
  obtain ⟨n1, n2⟩ := h.2.1.nh
  rw [f4_ahead, f5_ahead, e_ahead, pu_ld (x := (1 : Int32)) (k := 1) rfl (by omega) (by omega), pu_b, in_w' x2 (R 1 1), r_far h, pu_b, show X 0 8 = R 1 1 from h.1.2.2.2.1]
  by_cases h1 : f4_isSpan x1 = 0
  · rw [if_pos h1, if_pos h1]; exact t0 h
  · rw [if_neg h1, if_neg h1]
    by_cases h2 : f4_isWithin x2 0 (R 1 1) = 0
    · rw [if_pos h2, if_pos h2]; exact t0 h
    · rw [if_neg h2, if_neg h2]
      by_cases h4 : f4_isTooLate x1 X = 0
      · rw [if_pos h4, if_pos h4]
        obtain ⟨n, hn, rfl⟩ := spanN h1
        obtain ⟨y, ey, hy⟩ := lateN h hn h4
        rw [n2] at h2
        obtain ⟨w, hw, rfl⟩ := wi_n (n := nh (R 1)) (b := nI (nh (R 1))) (nI_toInt (by omega)) h2
        obtain ⟨X2, z1, z2, z3⟩ := s_tryY h n
        have og := h.2.1.grow hn ey hy
        rw [z1, pu_b, r_puts, pu_b, r_years (by rw [oM_n R (show (1 : Nat) ≠ 3 by omega)]; exact h.2.1.2.2.2.2.1) (by omega), pu_b, oM_n R (show (1 : Nat) ≠ 3 by omega)]
        by_cases q : nI w = 0
        · rw [if_pos q, if_pos q, x_all z2 og, pu_b, r_all (by rw [sM_1]; exact og), pu_b, sM_1, f5_ahead_72, r_tried (fun x hx => hi_grow x hx), pu_b]
          exact Stq.of ((h.trial z3).o)
        · obtain ⟨v, rfl⟩ : ∃ v, w = v + 1 := ⟨w - 1, by have : w ≠ 0 := fun z => q (by rw [z]; rfl); omega⟩
          rw [if_neg q, if_neg q, nI_pred, x_tax z2 og (by omega), pu_b, r_tax (by omega) (by rw [sM_1]; exact og), pu_b, sM_1, f5_ahead_72, r_tried (fun x hx => hi_grow x hx), pu_b]
          exact Stq.of ((h.trial z3).o)
      · rw [if_neg h4, if_neg h4]; exact t4 h
theorem st_lost (h : Rel X R) (x1 x2 : Int32) : Stq (f4_lost x1 x2 X) (f5_lost x1 x2 R) := by
  rw [f4_lost, f5_lost, r_isHouse, pu_b, h.house, e_cell, r_far h, pu_b]
  by_cases h1 : f4_isWithin x1 0 (R 1 1 - 1) = 0
  · rw [if_pos h1, if_pos h1]; exact t0 h
  · rw [if_neg h1, if_neg h1]
    by_cases h2 : f4_isCell x2 = 0
    · rw [if_pos h2, if_pos h2]; exact t0 h
    · rw [if_neg h2, if_neg h2]
      by_cases h4 : f4_isTooLate (60 : Int32) X = 0
      · rw [if_pos h4, if_pos h4]
        obtain ⟨a, -, ha, rfl⟩ := houseN h.2.1 h1
        obtain ⟨c, hc, rfl⟩ := cellN h2
        obtain ⟨y, ey, hy⟩ := lateN (n := 60) h (by omega) h4
        obtain ⟨X1, a1, a2, a3⟩ := h.take
        rw [a1, pu_b, r_puts, pu_b]
        have oC := h.2.1.2.2.2.2.1
        have back : ∀ n, f5_putsBack (sM (oM R) (Sgrow (R 1) n)) = some (oM R) := fun n => r_tried (fun x hx => hi_grow x hx)
        have main : ∀ (k n f g : Nat) (M : sl_M), n + k = 60 → k + 1 < f → k < g → RL M 1 (Sgrow (R 1) n) → Fr 1 X M → Stq (f4_lost_49 (nI a) (nI c) f (nI n) M) (f5_lost_44 (nI a) (nI c) g (nI n) (sM (oM R) (Sgrow (R 1) n))) := by
          intro k
          induction k with
          | zero =>
            intro n f g M hn hf hg hM hF
            obtain ⟨f, rfl⟩ : ∃ z, f = z + 2 := ⟨f - 2, by omega⟩
            obtain ⟨g, rfl⟩ : ∃ z, g = z + 1 := ⟨g - 1, by omega⟩
            have e : n = 60 := by omega
            subst e
            have og := h.2.1.grow (n := 60) (by omega) ey hy
            rw [f4_lost_49, if_neg (show ¬ (60 : Int32) < nI 60 by decide), x_has hM og ha hc, pu_b, f5_lost_44, if_pos (show (60 : Int32) ≤ nI 60 by decide), f5_lost_72, r_sight ha (by rw [sM_1]; exact og), pu_b, sM_1, has_bt _ (by omega)]
            cases bt (Ssight (Sgrow (R 1) 60) a) c
            · rw [if_pos (by decide), if_pos (by decide), f5_lost_89, back, pu_b, if_neg (by decide)]
              exact Stq.of ((h.trial hF).o)
            · obtain ⟨M2, g1, g2, g3⟩ := x_grow hM 1
              rw [if_neg (by decide), if_neg (by decide), f5_lost_89, back, pu_b, if_pos rfl, show f0_grow 1 1 M = some M2 from g1, pu_b, f4_lost_49, if_pos (by decide)]
              exact t3 ((h.trial (hF.tr g3)).o)
          | succ k ih =>
            intro n f g M hn hf hg hM hF
            obtain ⟨f, rfl⟩ : ∃ z, f = z + 1 := ⟨f - 1, by omega⟩
            obtain ⟨g, rfl⟩ : ∃ z, g = z + 1 := ⟨g - 1, by omega⟩
            have og := h.2.1.grow (n := n) (by omega) ey (by omega)
            rw [f4_lost_49, if_neg (lnl (x := 60) (N := 60) rfl (by omega) (by omega)), x_has hM og ha hc, pu_b, f5_lost_44, if_neg (lge (x := 60) (N := 60) rfl (by omega) (by omega)), r_sight ha (by rw [sM_1]; exact og), pu_b, sM_1, has_bt _ (by omega)]
            cases hb : bt (Ssight (Sgrow (R 1) n) a) c
            · rw [if_pos (by decide), if_pos (by decide), f5_lost_72, r_sight ha (by rw [sM_1]; exact og), pu_b, sM_1, has_bt _ (by omega), hb, if_pos (by decide), f5_lost_89, back, pu_b, if_neg (by decide)]
              exact Stq.of ((h.trial hF).o)
            · obtain ⟨M2, g1, g2, g3⟩ := x_grow hM 1
              rw [Sg_S oC (by omega)] at g2
              rw [if_neg (by decide), if_neg (by decide), show f0_grow 1 1 M = some M2 from g1, pu_b, r_year (by rw [sM_1]; exact og.2.2.2.2.1), pu_b, sM_1, sM_s, Sg_S oC (by omega), nI_1]
              exact ih (n + 1) f g M2 (by omega) (by omega) (by omega) g2 (hF.tr g3)
        have e0 : oM R = sM (oM R) (Sgrow (R 1) 0) := by rw [Sg_z oC, show R 1 = oM R 1 from (oM_n R (by omega)).symm, sM_self]
        have := main 60 0 400 400 X1 (by omega) (by omega) (by omega) (by rw [Sg_z oC]; exact a2) a3
        rw [← e0] at this
        exact this
      · rw [if_neg h4, if_neg h4]; exact t4 h
theorem st_when (h : Rel X R) (x1 : Int32) : Stq (f4_when x1 X) (f5_when x1 R) := by
  rw [f4_when, f5_when, r_isHouse, pu_b, h.house, r_far h, pu_b]
  by_cases h1 : f4_isWithin x1 0 (R 1 1 - 1) = 0
  · rw [if_pos h1, if_pos h1]; exact t0 h
  · rw [if_neg h1, if_neg h1]
    by_cases h4 : f4_isTooLate (60 : Int32) X = 0
    · rw [if_pos h4, if_pos h4]
      obtain ⟨a, -, ha, rfl⟩ := houseN h.2.1 h1
      obtain ⟨y, ey, hy⟩ := lateN (n := 60) h (by omega) h4
      obtain ⟨X1, a1, a2, a3⟩ := h.take
      have oC := h.2.1.2.2.2.2.1
      have q4 : oM R 1 = R 1 := oM_n R (by omega)
      rw [a1, pu_b, r_puts, pu_b, r_tax ha (by rw [q4]; exact h.2.1), pu_b, q4]
      obtain ⟨X2, g1, g2, g3⟩ := x_grow a2 1
      have x0 : f4_when_47 (nI a) 400 (-1) 0 0 X1 = f4_when_47 (nI a) 399 (nI 0) (Stax (R 1) a) (nI 1) X2 := by
        rw [f4_when_47, if_neg (by decide), x_tax a2 h.2.1 ha, pu_b, if_pos (by decide), f4_when_74, f4_when_80, show f0_grow 1 1 X1 = some X2 from g1, pu_b]
        rfl
      obtain ⟨p, q, f2, ⟨-, hp1, hp2, hF, hM, hq⟩, e1, e2⟩ := pu_2 (F := fun f i (a1 : Int32 × Int32 × sl_M) => f4_when_47 (nI a) f a1.1 a1.2.1 (nI i) a1.2.2) (G := fun f i (a1 : Int32 × Int32 × sl_M) => f5_when_46 (nI a) (f + 1) a1.1 a1.2.1 (nI i) a1.2.2) (N := 61) (fun i a b => 1 ≤ i ∧ (∃ z, z ≤ 60 ∧ a.1 = nI z ∧ b.1 = nI z) ∧ a.2.1 = b.2.1 ∧ Fr 1 X a.2.2 ∧ RL a.2.2 1 (Sgrow (R 1) i) ∧ b.2.2 = sM (oM R) (Sgrow (R 1) (i - 1))) (by
        rintro i ⟨b, l, M⟩ ⟨b2, l2, M2⟩ hi ⟨i1, ⟨z, hz, q1, q2⟩, q3, hF, hM, q5⟩
        dsimp only at q1 q2 q3 hF hM q5
        subst q1; subst q2; subst q3; subst q5
        have og := h.2.1.grow (n := i) (by omega) ey (by omega)
        have og2 := h.2.1.grow (n := i - 1) (by omega) ey (by omega)
        obtain ⟨M3, w1, w2, w3⟩ := x_grow hM 1
        rw [Sg_S oC (by omega)] at w2
        have xx : ∀ f, f4_when_47 (nI a) (f + 1) (nI z) l (nI i) M = if l ≤ Stax (Sgrow (R 1) i) a then f4_when_47 (nI a) f (nI z) l (nI (i + 1)) M3 else f4_when_47 (nI a) f (nI i) (Stax (Sgrow (R 1) i) a) (nI (i + 1)) M3 := by
          intro f
          rw [f4_when_47, if_neg (lnl (x := 60) (N := 60) rfl (by omega) (by omega)), x_tax hM og ha, pu_b, if_neg (nI_pos (by omega)), f4_when_74, f4_when_80, f4_when_80, show f0_grow 1 1 M = some M3 from w1, pu_b, pu_b, nI_1]
        have yy : ∀ f, f5_when_46 (nI a) (f + 1 + 1) (nI z) l (nI i) (sM (oM R) (Sgrow (R 1) (i - 1))) = if l ≤ Stax (Sgrow (R 1) i) a then f5_when_46 (nI a) (f + 1) (nI z) l (nI (i + 1)) (sM (oM R) (Sgrow (R 1) i)) else f5_when_46 (nI a) (f + 1) (nI i) (Stax (Sgrow (R 1) i) a) (nI (i + 1)) (sM (oM R) (Sgrow (R 1) i)) := by
          intro f
          rw [f5_when_46, if_neg (lnl (x := 60) (N := 60) rfl (by omega) (by omega)), r_year (by rw [sM_1]; exact og2.2.2.2.2.1), pu_b, sM_1, sM_s, Sg_S oC (by omega), show i - 1 + 1 = i by omega, r_tax ha (by rw [sM_1]; exact og), pu_b, sM_1, f5_when_76, f5_when_76, nI_1]
          by_cases c : l ≤ Stax (Sgrow (R 1) i) a
          · rw [if_pos c, if_pos c, if_pos c]
          · rw [if_neg c, if_neg c, if_neg c]
        by_cases c : l ≤ Stax (Sgrow (R 1) i) a
        · exact ⟨(nI z, l, M3), (nI z, l, sM (oM R) (Sgrow (R 1) i)), ⟨by omega, ⟨z, hz, rfl, rfl⟩, rfl, hF.tr w3, w2, rfl⟩, fun f => by dsimp only; rw [xx f, if_pos c], fun f => by dsimp only; rw [yy f, if_pos c]⟩
        · exact ⟨(nI i, Stax (Sgrow (R 1) i) a, M3), (nI i, Stax (Sgrow (R 1) i) a, sM (oM R) (Sgrow (R 1) i)), ⟨by omega, ⟨i, by omega, rfl, rfl⟩, rfl, hF.tr w3, w2, rfl⟩, fun f => by dsimp only; rw [xx f, if_neg c], fun f => by dsimp only; rw [yy f, if_neg c]⟩) 60 1 (nI 0, Stax (R 1) a, X2) (nI 0, Stax (R 1) a, oM R) (by omega) ⟨by omega, ⟨0, by omega, rfl, rfl⟩, rfl, a3.tr g3, g2, by dsimp only; rw [Nat.sub_self, Sg_z oC, ← q4, sM_self]⟩ (f := 399) (by omega)
      dsimp only at e1 e2
      obtain ⟨z, hz, y1, y2⟩ := hp1
      rw [x0, e1, show f5_when_46 (nI a) 400 0 (Stax (R 1) a) 1 (oM R) = _ from e2, f4_when_47, if_pos (by decide), f5_when_46, if_pos (by decide), hq, r_tried (fun x hx => hi_grow x hx), pu_b, y1, y2]
      exact Stq.of ((h.trial hF).o)
    · rw [if_neg h4, if_neg h4]; exact t4 h
theorem st_seed (h : Rel X R) (x1 : Int32) : Stq (f4_seed x1 X) (f5_seed x1 R) := by
  rw [f4_seed, f5_seed, pu_ld (x := (4 : Int32)) (k := 4) rfl (by omega) (by omega), pu_b, pu_stM (x := (4 : Int32)) (k := 4) rfl (by omega), pu_b, show X 0 12 = R 1 4 from h.1.2.2.2.2.2.2.2]
  exact Stq.of (h.land (x_num (j := 0) h.1 _ (by omega)) (h.2.1.u (oa_seed _)) Fr.up0)
theorem st_wall (h : Rel X R) (x1 x2 : Int32) : Stq (f4_wall x1 x2 X) (f5_wall x1 x2 R) := by
  rw [f4_wall, f5_wall, r_isHouse, pu_b, h.house, e_cell]
  by_cases h1 : f4_isWithin x1 0 (R 1 1 - 1) = 0
  · rw [if_pos h1, if_pos h1]; exact t0 h
  · rw [if_neg h1, if_neg h1]
    by_cases h2 : f4_isCell x2 = 0
    · rw [if_pos h2, if_pos h2]; exact t0 h
    · rw [if_neg h2, if_neg h2]
      obtain ⟨a, -, ha, rfl⟩ := houseN h.2.1 h1
      obtain ⟨c, hc, rfl⟩ := cellN h2
      obtain ⟨X1, a1, a2, a3⟩ := h.take
      rw [a1, pu_b, r_open ha, pu_b]
      obtain ⟨p, q, f2, ⟨hp1, hp2, hF, ⟨v, hM⟩, ⟨w, hq⟩⟩, e1, e2⟩ := pu_2 (F := fun f i (a1 : Int32 × Int32 × sl_M) => f4_wall_40 (nI a) (nI c) f a1.1 a1.2.1 (nI i) a1.2.2) (G := fun f i (a1 : Int32 × Int32 × sl_M) => f5_wall_37 (nI a) (nI c) (R 1 (77 + 3 * a + 2)) f a1.1 a1.2.1 (nI i) a1.2.2) (N := 4) (fun i a1 b1 => a1.1 = b1.1 ∧ a1.2.1 = b1.2.1 ∧ Fr 1 X a1.2.2 ∧ (∃ v, RL a1.2.2 1 (upd (R 1) (77 + 3 * a + 2) v)) ∧ ∃ v, b1.2.2 = sM R (upd (R 1) (77 + 3 * a + 2) v)) (by
        rintro i ⟨b, l, M⟩ ⟨b2, l2, M2⟩ hi ⟨q1, q2, hF, ⟨v, hM⟩, ⟨w, q5⟩⟩
        dsimp only at q1 q2 hF hM q5
        subst q1; subst q2; subst q5
        have ho : ok (upd (R 1) (77 + 3 * a + 2) (nI i)) := h.2.1.u (oa_open ha (by omega))
        have hv2 : RL (sl_up M (9 * 1 + 7) a (nI i)) 1 (upd (R 1) (77 + 3 * a + 2) (nI i)) := by
          have := x_open hM ha (nI i)
          rwa [pu_uu] at this
        have F2 : Fr 1 X (sl_up M 16 a (nI i)) := hF.tr (Fr.up (j := 1) (k := 7) (by omega))
        have xx : ∀ f, f4_wall_40 (nI a) (nI c) (f + 1) b l (nI i) M = (if (if bt (Ssight (upd (R 1) (77 + 3 * a + 2) (nI i)) a) c then (1 : Int32) else 0) = 0 then f4_wall_40 (nI a) (nI c) f b l (nI (i + 1)) (sl_up M 16 a (nI i)) else (if b < 0 then f4_wall_40 (nI a) (nI c) f (nI i) (Stax (upd (R 1) (77 + 3 * a + 2) (nI i)) a) (nI (i + 1)) (sl_up M 16 a (nI i)) else (if l ≤ Stax (upd (R 1) (77 + 3 * a + 2) (nI i)) a then f4_wall_40 (nI a) (nI c) f b l (nI (i + 1)) (sl_up M 16 a (nI i)) else f4_wall_40 (nI a) (nI c) f (nI i) (Stax (upd (R 1) (77 + 3 * a + 2) (nI i)) a) (nI (i + 1)) (sl_up M 16 a (nI i))))) := by
          intro f
          rw [f4_wall_40, if_neg (lnl (x := 3) (N := 3) rfl (by omega) (by omega)), pu_st rfl ha (by omega), pu_b, show f0_taxOf 1 (nI a) (sl_up M 16 a (nI i)) = _ from x_tax hv2 ho ha, pu_b, show f0_hasInSight 1 (nI a) (nI c) (sl_up M 16 a (nI i)) = _ from x_has hv2 ho ha hc, pu_b, f4_wall_90, nI_1]
        have yy : ∀ f, f5_wall_37 (nI a) (nI c) (R 1 (77 + 3 * a + 2)) (f + 1) b l (nI i) (sM R (upd (R 1) (77 + 3 * a + 2) w)) = (if (if bt (Ssight (upd (R 1) (77 + 3 * a + 2) (nI i)) a) c then (1 : Int32) else 0) = 0 then f5_wall_37 (nI a) (nI c) (R 1 (77 + 3 * a + 2)) f b l (nI (i + 1)) (sM R (upd (R 1) (77 + 3 * a + 2) (nI i))) else (if b < 0 then f5_wall_37 (nI a) (nI c) (R 1 (77 + 3 * a + 2)) f (nI i) (Stax (upd (R 1) (77 + 3 * a + 2) (nI i)) a) (nI (i + 1)) (sM R (upd (R 1) (77 + 3 * a + 2) (nI i))) else (if l ≤ Stax (upd (R 1) (77 + 3 * a + 2) (nI i)) a then f5_wall_37 (nI a) (nI c) (R 1 (77 + 3 * a + 2)) f b l (nI (i + 1)) (sM R (upd (R 1) (77 + 3 * a + 2) (nI i))) else f5_wall_37 (nI a) (nI c) (R 1 (77 + 3 * a + 2)) f (nI i) (Stax (upd (R 1) (77 + 3 * a + 2) (nI i)) a) (nI (i + 1)) (sM R (upd (R 1) (77 + 3 * a + 2) (nI i)))))) := by
          intro f
          rw [f5_wall_37, if_neg (lge (x := 4) (N := 4) rfl hi (by omega)), pu_stM (ix72 a) (by omega), pu_b, sM_s, sM_1, pu_uu, r_tax ha (by rw [sM_1]; exact ho), pu_b, r_sight ha (by rw [sM_1]; exact ho), pu_b, sM_1, has_bt _ (by omega), f5_wall_89, nI_1]
        by_cases c0 : (if bt (Ssight (upd (R 1) (77 + 3 * a + 2) (nI i)) a) c then (1 : Int32) else 0) = 0
        · exact ⟨(b, l, sl_up M 16 a (nI i)), (b, l, sM R (upd (R 1) (77 + 3 * a + 2) (nI i))), ⟨rfl, rfl, F2, ⟨_, hv2⟩, ⟨_, rfl⟩⟩, fun f => by dsimp only; rw [xx f, if_pos c0], fun f => by dsimp only; rw [yy f, if_pos c0]⟩
        · by_cases c1 : b < 0
          · exact ⟨(nI i, Stax (upd (R 1) (77 + 3 * a + 2) (nI i)) a, sl_up M 16 a (nI i)), (nI i, Stax (upd (R 1) (77 + 3 * a + 2) (nI i)) a, sM R (upd (R 1) (77 + 3 * a + 2) (nI i))), ⟨rfl, rfl, F2, ⟨_, hv2⟩, ⟨_, rfl⟩⟩, fun f => by dsimp only; rw [xx f, if_neg c0, if_pos c1], fun f => by dsimp only; rw [yy f, if_neg c0, if_pos c1]⟩
          · by_cases c2 : l ≤ Stax (upd (R 1) (77 + 3 * a + 2) (nI i)) a
            · exact ⟨(b, l, sl_up M 16 a (nI i)), (b, l, sM R (upd (R 1) (77 + 3 * a + 2) (nI i))), ⟨rfl, rfl, F2, ⟨_, hv2⟩, ⟨_, rfl⟩⟩, fun f => by dsimp only; rw [xx f, if_neg c0, if_neg c1, if_pos c2], fun f => by dsimp only; rw [yy f, if_neg c0, if_neg c1, if_pos c2]⟩
            · exact ⟨(nI i, Stax (upd (R 1) (77 + 3 * a + 2) (nI i)) a, sl_up M 16 a (nI i)), (nI i, Stax (upd (R 1) (77 + 3 * a + 2) (nI i)) a, sM R (upd (R 1) (77 + 3 * a + 2) (nI i))), ⟨rfl, rfl, F2, ⟨_, hv2⟩, ⟨_, rfl⟩⟩, fun f => by dsimp only; rw [xx f, if_neg c0, if_neg c1, if_neg c2], fun f => by dsimp only; rw [yy f, if_neg c0, if_neg c1, if_neg c2]⟩) 4 0 ((-1 : Int32), (0 : Int32), X1) ((-1 : Int32), (0 : Int32), R) (by omega) ⟨rfl, rfl, a3, ⟨_, by rw [pu_self]; exact a2⟩, ⟨_, by rw [pu_self, sM_self]⟩⟩ (f := 400) (by omega)
      dsimp only at e1 e2
      rw [show f4_wall_40 (nI a) (nI c) 400 (-1) 0 0 X1 = _ from e1, show f5_wall_37 (nI a) (nI c) (R 1 (77 + 3 * a + 2)) 400 (-1) 0 0 R = _ from e2, f4_wall_40, if_pos (show (3 : Int32) < nI 4 by decide), f5_wall_37, if_pos (show (4 : Int32) ≤ nI 4 by decide), pu_stM (ix72 a) (by omega), pu_b, hq, sM_s, sM_1, pu_uu, pu_self, sM_self, hp1]
      by_cases z : 0 ≤ q.1
      · rw [if_pos z, if_pos z]; exact Stq.of (h.trial hF)
      · rw [if_neg z, if_neg z]; exact t3 (h.trial hF)
end CD
