theorem pu_2 {α β A B : Type} {F : Nat → Nat → α → Option A} {G : Nat → Nat → β → Option B} {N : Nat} (I : Nat → α → β → Prop)
    (hs : ∀ i a b, i < N → I i a b → ∃ a2 b2, I (i + 1) a2 b2 ∧ (∀ n, F (n + 1) i a = F n (i + 1) a2) ∧ ∀ n, G (n + 1) i b = G n (i + 1) b2)
    (k i : Nat) (a : α) (b : β) (h : i + k = N) (hI : I i a b) {f : Nat} (hf : k < f) : ∃ a2 b2 f2, I N a2 b2 ∧ F f i a = F (f2 + 1) N a2 ∧ G f i b = G (f2 + 1) N b2 := by
  obtain ⟨a2, b2, h1, h2, h3⟩ := pu_two I hs k i a b h hI
  refine ⟨a2, b2, f - k - 1, h1, ?_, ?_⟩
  · rw [← h2, show f - k - 1 + 1 + k = f by omega]
  · rw [← h3, show f - k - 1 + 1 + k = f by omega]
theorem pu_1 {α A : Type} {F : Nat → Nat → α → Option A} {N : Nat} (I : Nat → α → Prop)
    (hs : ∀ i a, i < N → I i a → ∃ a2, I (i + 1) a2 ∧ ∀ n, F (n + 1) i a = F n (i + 1) a2)
    (k i : Nat) (a : α) (h : i + k = N) (hI : I i a) {f : Nat} (hf : k < f) : ∃ a2 f2, I N a2 ∧ F f i a = F (f2 + 1) N a2 := by
  obtain ⟨a2, h1, h2⟩ := pu_one I hs k i a h hI
  refine ⟨a2, f - k - 1, h1, ?_⟩
  rw [← h2, show f - k - 1 + 1 + k = f by omega]
section CB
variable {X R : sl_M}
theorem low_eq {g v : Nat} (hg : g ≤ 99) (hv : v ≤ 99) : sl_mx 0 (nI g - nI v) = nI (g - v) := by
  unfold sl_mx
  by_cases q : v < g
  · rw [pk_sub (by omega), if_pos (show (0 : Int32) < nI (g - v) from lgt (N := 0) rfl (by omega) (by omega))]
  · rw [show g - v = 0 by omega]
    by_cases q2 : g = v
    · subst q2; rw [Int32.sub_self]; rfl
    · rw [if_neg (fun z => by have := pk_sneg (a := g) (b := v) (by omega) (by omega); rw [Int32.lt_iff_toInt_lt] at z this; omega)]; rfl
theorem r_lowers {c v g : Nat} (hc : c < 24) (hv : v ≤ 99) (hg : g ≤ 99) (eg : R 1 (5 + 3 * c + 1) = nI g) : f5_lowers (nI c) (nI v) R = some (sM R (upd (R 1) (5 + 3 * c + 1) (nI (g - v)))) := by
  rw [f5_lowers, r_high hc, pu_b, eg]
  by_cases q : v ≤ g
  · rw [if_pos (nI_le q (by omega)), pu_b, pu_stM (ix51 c) (by omega), pu_b, pk_sub q]
  · rw [if_neg (nI_ge (by omega) (by omega)), pu_stM (ix51 c) (by omega), pu_b, show g - v = 0 by omega]; rfl
/-- a cell is lowered, on both sides -/
theorem s_lower (h : Rel X R) {c v : Nat} (hc : c < 24) (hv : v ≤ 99) : ∃ X2 g, g ≤ 99 ∧ f0_lower 0 (nI c) (nI v) X = some X2 ∧ f5_lowers (nI c) (nI v) R = some (sM R (upd (R 1) (5 + 3 * c + 1) (nI g))) ∧ Rel X2 (sM R (upd (R 1) (5 + 3 * c + 1) (nI g))) := by
  obtain ⟨g, hg, eg⟩ := (h.2.1.2.2.2.2.1 c hc).2.1
  obtain ⟨X2, h1, h2, h3⟩ := x_lower (j := 0) h.1 hc (nI v)
  rw [eg, low_eq hg hv] at h2
  exact ⟨X2, g - v, by omega, h1, r_lowers hc hv hg eg, h.land h2 (h.2.1.u (oa_high hc (by omega))) h3⟩
theorem st_dig (h : Rel X R) (x1 x2 x3 : Int32) : Stq (f4_dig x1 x2 x3 X) (f5_dig x1 x2 x3 R) := by
  rw [f4_dig, f5_dig, e_in x3 1 99 (a2 := 1) (b2 := 99) rfl rfl]
  unfold f5_isStretch
  rw [e_cell, e_cell]
  by_cases h1 : f4_isCell x1 = 0
  · rw [if_pos h1, if_pos h1, if_pos rfl]; exact t0 h
  · rw [if_neg h1, if_neg h1]
    by_cases h2 : f4_isCell x2 = 0
    · rw [if_pos h2, if_pos h2, if_pos rfl]; exact t0 h
    · rw [if_neg h2, if_neg h2]
      by_cases h4 : x2 < x1
      · rw [if_pos h4, if_pos h4, if_pos rfl]; exact t0 h
      · rw [if_neg h4, if_neg h4, if_neg (show ¬ (1 : Int32) = 0 by decide)]
        by_cases h3 : f4_isWithin x3 1 99 = 0
        · rw [if_pos h3, if_pos h3]; exact t0 h
        · rw [if_neg h3, if_neg h3]
          obtain ⟨a, ha, rfl⟩ := cellN h1
          obtain ⟨b, hb, rfl⟩ := cellN h2
          obtain ⟨v, hv1, hv2, rfl⟩ := wi_n1 (m := 1) (n := 99) rfl rfl h3
          have hab : a ≤ b := by
            rw [nI_ltI (by omega) (by omega)] at h4; omega
          obtain ⟨p, q, f2, ⟨hp, hr⟩, e1, e2⟩ := pu_2 (F := fun n i (a : Int32 × sl_M) => f4_dig_41 (nI b) (nI v) n a.1 (nI i) a.2) (G := fun n i (a : Int32 × sl_M) => f5_dig_33 (nI b) (nI v) n a.1 (nI i) a.2) (N := b + 1) (fun _ a b => a.1 = b.1 ∧ Rel a.2 b.2) (by
            rintro i ⟨a1, a2⟩ ⟨b1, b2⟩ hi ⟨hab, hr⟩
            dsimp only at hab hr
            subst hab
            obtain ⟨X2, g, hg, y1, y2, y3⟩ := s_lower hr (show i < 24 by omega) hv2
            refine ⟨(if nI g = 0 then a1 + 1 else a1, X2), (if nI g = 0 then a1 + 1 else a1, sM b2 (upd (b2 1) (5 + 3 * i + 1) (nI g))), ⟨rfl, y3⟩, fun n => ?_, fun n => ?_⟩
            · dsimp only
              rw [f4_dig_41, if_neg (nI_nlt (show i ≤ b by omega) (by omega)), y1, pu_b, x0_2 y3 (by omega), pu_b, sM_1, pu_us, nI_1]
              by_cases z : nI g = 0
              · rw [if_pos z, if_pos z]
              · rw [if_neg z, if_neg z]
            · dsimp only
              rw [f5_dig_33, if_neg (nI_nlt (show i ≤ b by omega) (by omega)), y2, pu_b, r_high (by omega), pu_b, sM_1, pu_us, nI_1]
              by_cases z : nI g = 0
              · rw [if_pos z, if_pos z]
              · rw [if_neg z, if_neg z, Int32.add_zero]) (b + 1 - a) a ((0 : Int32), X) ((0 : Int32), R) (by omega) ⟨rfl, h⟩ (f := 400) (by omega)
          dsimp only at e1 e2
          rw [e1, e2, f4_dig_41, f5_dig_33, if_pos (nI_lt (by omega) (by omega)), if_pos (nI_lt (by omega) (by omega)), hp]
          exact Stq.of hr
theorem st_drain (h : Rel X R) (x1 : Int32) : Stq (f4_drain x1 X) (f5_drain x1 R) := by
  rw [f4_drain, f5_drain, e_in x1 0 20 (a2 := 0) (b2 := 20) rfl rfl]
  by_cases h1 : f4_isWithin x1 0 20 = 0
  · rw [if_pos h1, if_pos h1]; exact t0 h
  · rw [if_neg h1, if_neg h1]
    obtain ⟨v, hv, rfl⟩ := wi_n (n := 20) (b := 20) rfl h1
    obtain ⟨p, q, f2, ⟨hp, hr⟩, e1, e2⟩ := pu_2 (F := fun n i (a : Int32 × sl_M) => f4_drain_20 (nI v) n a.1 (nI i) a.2) (G := fun n i (a : Int32 × sl_M) => f5_drain_23 (nI v) n a.1 (nI i) a.2) (N := 24) (fun _ a b => a.1 = b.1 ∧ Rel a.2 b.2) (by
      rintro i ⟨a1, a2⟩ ⟨b1, b2⟩ hi ⟨hab, hr⟩
      dsimp only at hab hr
      subst hab
      by_cases z : b2 1 (5 + 3 * i) = 1
      · obtain ⟨X1, y1, y2, y3⟩ := x_turn (j := 0) hr.1 hi 2
        have hr2 := hr.land y2 (hr.2.1.u (oa_kind hi (k := 2) (by omega))) y3
        obtain ⟨X2, g, hg, w1, w2, w3⟩ := s_lower hr2 hi (v := v) (by omega)
        refine ⟨(a1 + 1, X2), (a1 + 1, sM (sM b2 (upd (b2 1) (5 + 3 * i) 2)) (upd (sM b2 (upd (b2 1) (5 + 3 * i) 2) 1) (5 + 3 * i + 1) (nI g))), ⟨rfl, w3⟩, fun n => ?_, fun n => ?_⟩
        · dsimp only
          rw [f4_drain_20, if_neg (lge (x := 24) (N := 24) rfl hi (by omega)), x0_1 hr hi, pu_b, if_pos z, y1, pu_b, w1, pu_b, nI_1]
        · dsimp only
          rw [f5_drain_23, if_neg (lge (x := 24) (N := 24) rfl hi (by omega)), r_kind hi, pu_b, if_pos z, pu_stM (ix5 i) (by omega), pu_b]
          rw [w2, pu_b, nI_1]
      · refine ⟨(a1, a2), (a1, b2), ⟨rfl, hr⟩, fun n => ?_, fun n => ?_⟩
        · dsimp only
          rw [f4_drain_20, if_neg (lge (x := 24) (N := 24) rfl hi (by omega)), x0_1 hr hi, pu_b, if_neg z, nI_1]
        · dsimp only
          rw [f5_drain_23, if_neg (lge (x := 24) (N := 24) rfl hi (by omega)), r_kind hi, pu_b, if_neg z, nI_1]) 24 0 ((0 : Int32), X) ((0 : Int32), R) (by omega) ⟨rfl, h⟩ (f := 400) (by omega)
    dsimp only at e1 e2
    rw [show (0 : Int32) = nI 0 from rfl] at e1 e2 ⊢
    rw [e1, e2, f4_drain_20, f5_drain_23, if_pos (by decide), if_pos (by decide), hp]
    exact Stq.of hr
/-! readers -/
theorem st_sight (h : Rel X R) (x1 : Int32) : Stq (f4_sight x1 X) (f5_sight x1 R) := by
  rw [f4_sight, f5_sight, r_isHouse, pu_b, h.house]
  by_cases h1 : f4_isWithin x1 0 (R 1 1 - 1) = 0
  · rw [if_pos h1, if_pos h1]; exact t0 h
  · rw [if_neg h1, if_neg h1]
    obtain ⟨a, -, ha, rfl⟩ := houseN h.2.1 h1
    rw [x_sight (j := 0) h.1 h.2.1 ha, pu_b, r_sight ha h.2.1, pu_b]
    exact Stq.of h
theorem x_has {M : sl_M} {j : Nat} {σ : Nat → Int32} (r : RL M j σ) (o : ok σ) {h c : Nat} (hh : h < 8) (hc : c < 24) : f0_hasInSight j (nI h) (nI c) M = some (if bt (Ssight σ h) c then 1 else 0) := by
  rw [f0_hasInSight, x_sight r o hh, pu_b, isIn_has, has_bt _ (by omega)]
  cases bt (Ssight σ h) c <;> rfl
theorem st_sees (h : Rel X R) (x1 x2 : Int32) : Stq (f4_sees x1 x2 X) (f5_sees x1 x2 R) := by
  rw [f4_sees, f5_sees, r_isHouse, pu_b, h.house, e_cell]
  by_cases h1 : f4_isWithin x1 0 (R 1 1 - 1) = 0
  · rw [if_pos h1, if_pos h1]; exact t0 h
  · rw [if_neg h1, if_neg h1]
    by_cases h2 : f4_isCell x2 = 0
    · rw [if_pos h2, if_pos h2]; exact t0 h
    · rw [if_neg h2, if_neg h2]
      obtain ⟨a, -, ha, rfl⟩ := houseN h.2.1 h1
      obtain ⟨c, hc, rfl⟩ := cellN h2
      rw [x_has (j := 0) h.1 h.2.1 ha hc, pu_b, r_sight ha h.2.1, pu_b, has_bt _ (by omega)]
      cases bt (Ssight (R 1) a) c
      · rw [if_pos (by decide), if_pos (by decide)]; exact Stq.of h
      · rw [if_neg (by decide), if_neg (by decide)]; exact Stq.of h
theorem or_0 (x : Int32) : x ||| 0 = x := by
  apply b_ext
  intro i _
  rw [b_or, b_0, Bool.or_false]
theorem Rel.n (h : Rel X R) : X 0 8 = nI (nh (R 1)) := by
  rw [show X 0 8 = R 1 1 from h.1.2.2.2.1]; exact h.2.1.nh.2
theorem st_seenBy (h : Rel X R) (x1 : Int32) : Stq (f4_seenBy x1 X) (f5_seenBy x1 R) := by
  obtain ⟨n1, n2⟩ := h.2.1.nh
  rw [f4_seenBy, f5_seenBy, e_cell]
  by_cases h1 : f4_isCell x1 = 0
  · rw [if_pos h1, if_pos h1]; exact t0 h
  · rw [if_neg h1, if_neg h1]
    obtain ⟨c, hc, rfl⟩ := cellN h1
    obtain ⟨p, q, f2, hp, e1, e2⟩ := pu_2 (F := fun n i (a : Int32) => f4_seenBy_17 (nI c) n a (nI i) X) (G := fun n i (a : Int32) => f5_seenBy_18 (nI c) n a (nI i) R) (N := nh (R 1)) (fun _ a b => a = b) (by
      rintro i a b hi rfl
      refine ⟨if bt (Ssight (R 1) i) c then a ||| b1 i else a, if bt (Ssight (R 1) i) c then a ||| b1 i else a, rfl, fun n => ?_, fun n => ?_⟩
      · rw [f4_seenBy_17, h.n, if_neg (nI_ge hi (by omega)), x_has (j := 0) h.1 h.2.1 (by omega) hc, pu_b, nI_1]
        cases bt (Ssight (R 1) i) c
        · rw [if_pos (by decide)]; rfl
        · rw [if_neg (by decide)]; rfl
      · rw [f5_seenBy_18, pu_ld (x := (1 : Int32)) (k := 1) rfl (by omega) (by omega), pu_b, n2, if_neg (nI_ge hi (by omega)), r_sight (by omega) h.2.1, pu_b, has_bt _ (by omega), nI_1]
        cases bt (Ssight (R 1) i) c
        · rw [if_pos (by decide), or_0]; rfl
        · rw [if_neg (by decide)]; rfl) (nh (R 1)) 0 (0 : Int32) (0 : Int32) (by omega) rfl (f := 400) (by omega)
    rw [show nI 0 = (0 : Int32) from rfl] at e1 e2
    rw [e1, e2, f4_seenBy_17, f5_seenBy_18, h.n, if_pos (nI_le (Nat.le_refl _) (by omega)), pu_ld (x := (1 : Int32)) (k := 1) rfl (by omega) (by omega), pu_b, n2, if_pos (nI_le (Nat.le_refl _) (by omega)), hp]
    exact Stq.of h
theorem st_neighbours (h : Rel X R) (x1 : Int32) : Stq (f4_neighbours x1 X) (f5_neighbours x1 R) := by
  obtain ⟨n1, n2⟩ := h.2.1.nh
  rw [f4_neighbours, f5_neighbours, r_isHouse, pu_b, h.house]
  by_cases h1 : f4_isWithin x1 0 (R 1 1 - 1) = 0
  · rw [if_pos h1, if_pos h1]; exact t0 h
  · rw [if_neg h1, if_neg h1]
    obtain ⟨c, -, hc, rfl⟩ := houseN h.2.1 h1
    rw [x_sight (j := 0) h.1 h.2.1 hc, pu_b, r_sight hc h.2.1, pu_b]
    obtain ⟨p, q, f2, hp, e1, e2⟩ := pu_2 (F := fun n i (a : Int32) => f4_neighbours_28 (nI c) (Ssight (R 1) c) n a (nI i) X) (G := fun n i (a : Int32) => f5_neighbours_26 (nI c) (Ssight (R 1) c) n a (nI i) R) (N := nh (R 1)) (fun _ a b => a = b) (by
      rintro i a b hi rfl
      obtain ⟨m1, m2⟩ := h.2.1.hm (show i < 8 by omega)
      by_cases z : nI i = nI c
      · refine ⟨a, a, rfl, fun n => ?_, fun n => ?_⟩
        · rw [f4_neighbours_28, h.n, if_neg (nI_ge hi (by omega)), if_pos z, nI_1]
        · rw [f5_neighbours_26, pu_ld (x := (1 : Int32)) (k := 1) rfl (by omega) (by omega), pu_b, n2, if_neg (nI_ge hi (by omega)), if_pos z, f5_neighbours_64, nI_1, or_0]
      · refine ⟨if bt (Ssight (R 1) c) (hm (R 1) i) then a ||| b1 i else a, if bt (Ssight (R 1) c) (hm (R 1) i) then a ||| b1 i else a, rfl, fun n => ?_, fun n => ?_⟩
        · rw [f4_neighbours_28, h.n, if_neg (nI_ge hi (by omega)), if_neg z, x0_5 h (by omega), pu_b, m2, isIn_has, has_bt _ (by omega), nI_1]
          cases bt (Ssight (R 1) c) (hm (R 1) i)
          · rw [if_pos (by decide)]; rfl
          · rw [if_neg (by decide)]; rfl
        · rw [f5_neighbours_26, pu_ld (x := (1 : Int32)) (k := 1) rfl (by omega) (by omega), pu_b, n2, if_neg (nI_ge hi (by omega)), if_neg z, r_home (by omega), pu_b, m2, has_bt _ (by omega), f5_neighbours_64, nI_1, or_0]
          cases bt (Ssight (R 1) c) (hm (R 1) i)
          · rw [if_pos (by decide)]; rfl
          · rw [if_neg (by decide)]; rfl) (nh (R 1)) 0 (0 : Int32) (0 : Int32) (by omega) rfl (f := 400) (by omega)
    rw [show nI 0 = (0 : Int32) from rfl] at e1 e2
    rw [e1, e2, f4_neighbours_28, f5_neighbours_26, h.n, if_pos (nI_le (Nat.le_refl _) (by omega)), pu_ld (x := (1 : Int32)) (k := 1) rfl (by omega) (by omega), pu_b, n2, if_pos (nI_le (Nat.le_refl _) (by omega)), hp]
    exact Stq.of h
theorem st_hidden (h : Rel X R) (x1 x2 : Int32) : Stq (f4_hidden x1 x2 X) (f5_hidden x1 x2 R) := by
  rw [f4_hidden, f5_hidden, r_isHouse, pu_b, h.house, e_cell]
  by_cases h1 : f4_isWithin x1 0 (R 1 1 - 1) = 0
  · rw [if_pos h1, if_pos h1]; exact t0 h
  · rw [if_neg h1, if_neg h1]
    by_cases h2 : f4_isCell x2 = 0
    · rw [if_pos h2, if_pos h2]; exact t0 h
    · rw [if_neg h2, if_neg h2]
      obtain ⟨a, -, ha, rfl⟩ := houseN h.2.1 h1
      obtain ⟨c, hc, rfl⟩ := cellN h2
      obtain ⟨g1, g2⟩ := h.2.1.hm ha
      by_cases hp : c = hm (R 1) a
      · subst hp
        rw [x_towards0 (j := 0) h.1 h.2.1 ha, pu_b, r_towards0 ha h.2.1, pu_b, if_pos rfl, if_pos rfl]
        exact t4 h
      · obtain ⟨e, d, y1, y2, rfl⟩ := cel_all g1 hc hp
        rw [x_towards (j := 0) h.1 h.2.1 ha y1 y2, pu_b, r_towards ha h.2.1 y1 y2, pu_b]
        cases twd (R 1) a e d
        · rw [if_pos (by decide), if_pos (by decide)]; exact t4 h
        · rw [if_neg (by decide), if_neg (by decide), x_hider (j := 0) h.1 h.2.1 ha y1 y2, pu_b, r_hider ha h.2.1 y1 y2, pu_b]
          by_cases z : 0 ≤ hfo e (hm (R 1) a) (ff (hq (R 1) a e d) (d - 1) 1)
          · rw [if_pos z, if_pos z]; exact Stq.of h
          · rw [if_neg z, if_neg z]; exact t3 h
theorem st_tax (h : Rel X R) (x1 : Int32) : Stq (f4_tax x1 X) (f5_tax x1 R) := by
  rw [f4_tax, f5_tax, r_isHouse, pu_b, h.house]
  by_cases h1 : f4_isWithin x1 0 (R 1 1 - 1) = 0
  · rw [if_pos h1, if_pos h1]; exact t0 h
  · rw [if_neg h1, if_neg h1]
    obtain ⟨a, -, ha, rfl⟩ := houseN h.2.1 h1
    rw [x_tax (j := 0) h.1 h.2.1 ha, pu_b, r_tax ha h.2.1, pu_b]
    exact Stq.of h
theorem st_all (h : Rel X R) : ∃ r, f4_all X = some r ∧ f5_all R = some r := by
  rw [f4_all, f5_all, x_all (j := 0) h.1 h.2.1, r_all h.2.1]
  exact ⟨_, rfl, rfl⟩
end CB
