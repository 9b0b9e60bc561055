/-! searches -/
theorem Rel.trial {X R X2 : sl_M} (h : Rel X R) (hF : Fr 1 X X2) : Rel X2 R := h.keep (fun r hr => hF r (by omega)) (fun _ _ => rfl) rfl rfl
theorem Rel.take {X R : sl_M} (h : Rel X R) : ∃ X2, f0_takeAll 1 0 X = some X2 ∧ RL X2 1 (R 1) ∧ Fr 1 X X2 := x_takeAll (j := 1) (j2 := 0) h.1 (by omega)
/-- the best so far, on both sides: none, or the same -/
def bst (z b l b2 l2 : Int32) : Prop := (b = -1 ∧ b2 = z) ∨ ∃ k, k < 10000 ∧ b = nI k ∧ ¬ nI k = z ∧ b2 = nI k ∧ l = l2
theorem s_least {X R : sl_M} (h : Rel X R) {a : Nat} (ha : a < 8) : ∃ b X2, 1 ≤ b ∧ b ≤ 40 ∧ f4_thriftyFloor (nI a) X = some (nI b, X2) ∧ f5_leastFloor (nI a) R = some (nI b, R) ∧ Fr 1 X X2 ∧ ∃ v, RL X2 1 (upd (R 1) (77 + 3 * a + 1) v) := by
  obtain ⟨X0, t1, t2, t3⟩ := h.take
  obtain ⟨p, q, f2, ⟨-, hb, hF, ⟨v, hv⟩, ⟨w, hw⟩⟩, e1, e2⟩ := pu_2 (F := fun n i (a1 : Int32 × Int32 × sl_M) => f4_thriftyFloor_18 (nI a) n a1.1 a1.2.1 (nI i) a1.2.2) (G := fun n i (a1 : Int32 × Int32 × sl_M) => f5_leastFloor_22 (nI a) (R 1 (77 + 3 * a + 1)) n a1.1 a1.2.1 (nI i) a1.2.2) (N := 41)
    (fun i a1 b1 => 1 ≤ i ∧ ((i = 1 ∧ a1.1 = -1 ∧ b1.1 = 0) ∨ ∃ k, 1 ≤ k ∧ k ≤ 40 ∧ a1.1 = nI k ∧ b1.1 = nI k ∧ a1.2.1 = b1.2.1) ∧ Fr 1 X a1.2.2 ∧ (∃ v, RL a1.2.2 1 (upd (R 1) (77 + 3 * a + 1) v)) ∧ (∃ v, b1.2.2 = sM R (upd (R 1) (77 + 3 * a + 1) v))) (by
      rintro i ⟨b, l, M⟩ ⟨b2, l2, M2⟩ hi ⟨h1, hb, hF, ⟨v, hv⟩, ⟨w, hw⟩⟩
      dsimp only at hb hF hv hw
      have ho : ok (upd (R 1) (77 + 3 * a + 1) (nI i)) := h.2.1.u (oa_floor ha (by omega))
      have hv2 : RL (sl_up M (9 * 1 + 6) a (nI i)) 1 (upd (R 1) (77 + 3 * a + 1) (nI i)) := by
        have := x_floor hv ha (nI i)
        rwa [pu_uu] at this
      have x1 : ∀ n, f4_thriftyFloor_18 (nI a) (n + 1) b l (nI i) M = (if b < 0 then f4_thriftyFloor_18 (nI a) n (nI i) (Stax (upd (R 1) (77 + 3 * a + 1) (nI i)) a) (nI (i + 1)) (sl_up M 15 a (nI i)) else (if l ≤ Stax (upd (R 1) (77 + 3 * a + 1) (nI i)) a then f4_thriftyFloor_18 (nI a) n b l (nI (i + 1)) (sl_up M 15 a (nI i)) else f4_thriftyFloor_18 (nI a) n (nI i) (Stax (upd (R 1) (77 + 3 * a + 1) (nI i)) a) (nI (i + 1)) (sl_up M 15 a (nI i)))) := by
        intro n
        rw [f4_thriftyFloor_18, if_neg (lnl (x := 40) (N := 40) rfl (by omega) (by omega)), pu_st rfl ha (by omega), pu_b, show f0_taxOf 1 (nI a) (sl_up M 15 a (nI i)) = _ from x_tax hv2 ho ha, pu_b, f4_thriftyFloor_56, nI_1]
      have y1 : ∀ n, f5_leastFloor_22 (nI a) (R 1 (77 + 3 * a + 1)) (n + 1) b2 l2 (nI i) M2 = (if b2 = 0 then f5_leastFloor_22 (nI a) (R 1 (77 + 3 * a + 1)) n (nI i) (Stax (upd (R 1) (77 + 3 * a + 1) (nI i)) a) (nI (i + 1)) (sM R (upd (R 1) (77 + 3 * a + 1) (nI i))) else (if l2 ≤ Stax (upd (R 1) (77 + 3 * a + 1) (nI i)) a then f5_leastFloor_22 (nI a) (R 1 (77 + 3 * a + 1)) n b2 l2 (nI (i + 1)) (sM R (upd (R 1) (77 + 3 * a + 1) (nI i))) else f5_leastFloor_22 (nI a) (R 1 (77 + 3 * a + 1)) n (nI i) (Stax (upd (R 1) (77 + 3 * a + 1) (nI i)) a) (nI (i + 1)) (sM R (upd (R 1) (77 + 3 * a + 1) (nI i))))) := by
        intro n
        rw [f5_leastFloor_22, if_neg (lnl (x := 40) (N := 40) rfl (by omega) (by omega)), pu_stM (ix71 a) (by omega), pu_b, hw, sM_s, sM_1, pu_uu, r_tax ha (by rw [sM_1]; exact ho), pu_b, f5_leastFloor_62, nI_1, sM_1]
      have F2 : Fr 1 X (sl_up M 15 a (nI i)) := hF.tr (Fr.up (j := 1) (k := 6) (by omega))
      rcases hb with ⟨rfl, rfl, rfl⟩ | ⟨k, k1, k2, rfl, rfl, rfl⟩
      · refine ⟨(nI 1, Stax (upd (R 1) (77 + 3 * a + 1) (nI 1)) a, sl_up M 15 a (nI 1)), (nI 1, Stax (upd (R 1) (77 + 3 * a + 1) (nI 1)) a, sM R (upd (R 1) (77 + 3 * a + 1) (nI 1))), ⟨by omega, Or.inr ⟨1, by omega, by omega, rfl, rfl, rfl⟩, F2, ⟨_, hv2⟩, ⟨_, rfl⟩⟩, fun n => ?_, fun n => ?_⟩
        · dsimp only; rw [x1 n, if_pos (by decide)]
        · dsimp only; rw [y1 n, if_pos rfl]
      · by_cases z : l ≤ Stax (upd (R 1) (77 + 3 * a + 1) (nI i)) a
        · refine ⟨(nI k, l, sl_up M 15 a (nI i)), (nI k, l, sM R (upd (R 1) (77 + 3 * a + 1) (nI i))), ⟨by omega, Or.inr ⟨k, k1, k2, rfl, rfl, rfl⟩, F2, ⟨_, hv2⟩, ⟨_, rfl⟩⟩, fun n => ?_, fun n => ?_⟩
          · dsimp only; rw [x1 n, if_neg (nI_pos (by omega)), if_pos z]
          · dsimp only; rw [y1 n, if_neg (nI_ne0 (by omega) (by omega)), if_pos z]
        · refine ⟨(nI i, Stax (upd (R 1) (77 + 3 * a + 1) (nI i)) a, sl_up M 15 a (nI i)), (nI i, Stax (upd (R 1) (77 + 3 * a + 1) (nI i)) a, sM R (upd (R 1) (77 + 3 * a + 1) (nI i))), ⟨by omega, Or.inr ⟨i, by omega, by omega, rfl, rfl, rfl⟩, F2, ⟨_, hv2⟩, ⟨_, rfl⟩⟩, fun n => ?_, fun n => ?_⟩
          · dsimp only; rw [x1 n, if_neg (nI_pos (by omega)), if_neg z]
          · dsimp only; rw [y1 n, if_neg (nI_ne0 (by omega) (by omega)), if_neg z]) 40 1 ((-1 : Int32), (0 : Int32), X0) ((0 : Int32), (0 : Int32), R) (by omega) ⟨by omega, Or.inl ⟨rfl, rfl, rfl⟩, t3, ⟨_, by rw [pu_self]; exact t2⟩, ⟨_, by rw [pu_self, sM_self]⟩⟩ (f := 400) (by omega)
  dsimp only at e1 e2
  rcases hb with ⟨q1, -⟩ | ⟨k, k1, k2, q1, q2, q3⟩
  · omega
  · refine ⟨k, p.2.2, k1, k2, ?_, ?_, hF, v, hv⟩
    · rw [f4_thriftyFloor, t1, pu_b, show f4_thriftyFloor_18 (nI a) 400 (-1) 0 1 X0 = _ from e1, f4_thriftyFloor_18, if_pos (by decide), q1]
    · rw [f5_leastFloor, pu_ld (ix71 a) (by omega) (by omega), pu_b, show f5_leastFloor_22 (nI a) (R 1 (77 + 3 * a + 1)) 400 0 0 1 R = _ from e2, f5_leastFloor_22, if_pos (by decide), pu_stM (ix71 a) (by omega), pu_b, q2, hw, sM_s, sM_1, pu_uu, pu_self, sM_self]
theorem lge' {a : Nat} (h : ¬ a ≤ 999) (hb : a < 2 ^ 31) : ¬ nI a ≤ (999 : Int32) := nI_ge (a := 999) (by omega) hb
section CC
variable {X R : sl_M}
theorem st_cheapest (h : Rel X R) (x1 : Int32) : Stq (f4_cheapest x1 X) (f5_cheapest x1 R) := by
  rw [f4_cheapest, f5_cheapest, r_isHouse, pu_b, h.house]
  by_cases h1 : f4_isWithin x1 0 (R 1 1 - 1) = 0
  · rw [if_pos h1, if_pos h1]; exact t0 h
  · rw [if_neg h1, if_neg h1]
    obtain ⟨a, -, ha, rfl⟩ := houseN h.2.1 h1
    obtain ⟨b, X2, -, -, h3, h4, h5, -⟩ := s_least h ha
    rw [h3, h4, pu_b, pu_b]
    exact Stq.of (h.trial h5)
theorem st_restless (h : Rel X R) : Stq (f4_restless X) (f5_restless R) := by
  obtain ⟨n1, n2⟩ := h.2.1.nh
  rw [f4_restless, f5_restless]
  obtain ⟨p, q, f2, ⟨hp, hr, hq⟩, e1, e2⟩ := pu_2 (F := fun n i (a : Int32 × sl_M) => f4_restless_4 n a.1 (nI i) a.2) (G := fun n i (a : Int32 × sl_M) => f5_restless_4 n a.1 (nI i) a.2) (N := nh (R 1)) (fun _ a b => a.1 = b.1 ∧ Rel a.2 R ∧ b.2 = R) (by
    rintro i ⟨a1, M⟩ ⟨b1, M2⟩ hi ⟨hab, hr, hM2⟩
    dsimp only at hab hr hM2
    subst hab; subst hM2
    obtain ⟨b, X2, b1, b2, h3, h4, h5, v, h6⟩ := s_least hr (show i < 8 by omega)
    have ho : ok (upd (M2 1) (77 + 3 * i + 1) (nI b)) := hr.2.1.u (oa_floor (by omega) b2)
    have hv2 : RL (sl_up X2 (9 * 1 + 6) i (nI b)) 1 (upd (M2 1) (77 + 3 * i + 1) (nI b)) := by
      have := x_floor h6 (show i < 8 by omega) (nI b)
      rwa [pu_uu] at this
    have hr2 : Rel (sl_up X2 15 i (nI b)) M2 := hr.trial (h5.tr (Fr.up (j := 1) (k := 6) (by omega)))
    have x1 : ∀ n, f4_restless_4 (n + 1) a1 (nI i) M = if Stax (M2 1) i ≤ Stax (upd (M2 1) (77 + 3 * i + 1) (nI b)) i then f4_restless_4 n a1 (nI (i + 1)) (sl_up X2 15 i (nI b)) else f4_restless_4 n (a1 + 1) (nI (i + 1)) (sl_up X2 15 i (nI b)) := by
      intro n
      rw [f4_restless_4, hr.n, if_neg (nI_ge hi (by omega)), h3, pu_b, pu_st rfl (show i < 8 by omega) (by omega), pu_b, show f0_taxOf 1 (nI i) (sl_up X2 15 i (nI b)) = _ from x_tax hv2 ho (by omega), pu_b, x_tax (j := 0) hr2.1 hr2.2.1 (by omega), pu_b, nI_1]
    have y1 : ∀ n, f5_restless_4 (n + 1) a1 (nI i) M2 = if Stax (M2 1) i ≤ Stax (upd (M2 1) (77 + 3 * i + 1) (nI b)) i then f5_restless_4 n a1 (nI (i + 1)) M2 else f5_restless_4 n (a1 + 1) (nI (i + 1)) M2 := by
      intro n
      rw [f5_restless_4, pu_ld (x := (1 : Int32)) (k := 1) rfl (by omega) (by omega), pu_b, n2, if_neg (nI_ge hi (by omega)), pu_ld (ix71 i) (by omega) (by omega), pu_b, r_tax (by omega) hr.2.1, pu_b, h4, pu_b, pu_stM (ix71 i) (by omega), pu_b, r_tax (by omega) (by rw [sM_1]; exact ho), pu_b, f5_restless_73, f5_restless_73, pu_stM (ix71 i) (by omega), pu_b, pu_b, sM_1, sM_s, pu_uu, pu_self, sM_self, nI_1, Int32.add_zero]
    by_cases z : Stax (M2 1) i ≤ Stax (upd (M2 1) (77 + 3 * i + 1) (nI b)) i
    · exact ⟨(a1, sl_up X2 15 i (nI b)), (a1, M2), ⟨rfl, hr2, rfl⟩, fun n => by dsimp only; rw [x1 n, if_pos z], fun n => by dsimp only; rw [y1 n, if_pos z]⟩
    · exact ⟨(a1 + 1, sl_up X2 15 i (nI b)), (a1 + 1, M2), ⟨rfl, hr2, rfl⟩, fun n => by dsimp only; rw [x1 n, if_neg z], fun n => by dsimp only; rw [y1 n, if_neg z]⟩) (nh (R 1)) 0 ((0 : Int32), X) ((0 : Int32), R) (by omega) ⟨rfl, h, rfl⟩ (f := 400) (by omega)
  dsimp only at e1 e2
  rw [show f4_restless_4 400 0 0 X = _ from e1, show f5_restless_4 400 0 0 R = _ from e2, f4_restless_4, f5_restless_4, hr.n, if_pos (nI_le (Nat.le_refl _) (by omega)), hq, pu_ld (x := (1 : Int32)) (k := 1) rfl (by omega) (by omega), pu_b, n2, if_pos (nI_le (Nat.le_refl _) (by omega)), hp]
  exact Stq.of hr
/-! years ahead -/
theorem r_far (h : Rel X R) (x : Int32) : f5_isTooFar x R = some (f4_isTooLate x X) := by
  rw [f5_isTooFar, pu_ld (x := (0 : Int32)) (k := 0) rfl (by omega) (by omega), pu_b, f4_isTooLate, show X 0 11 = R 1 0 from h.1.2.2.2.2.2.2.1]
  split <;> rfl
theorem lateN (h : Rel X R) {n : Nat} (hn : n ≤ 60) (hq : f4_isTooLate (nI n) X = 0) : ∃ y, R 1 0 = nI y ∧ y + n ≤ 999 := by
  obtain ⟨y, hy, ey⟩ := h.2.1.1
  refine ⟨y, ey, ?_⟩
  rw [f4_isTooLate, show X 0 11 = R 1 0 from h.1.2.2.2.2.2.2.1, ey, nI_add] at hq
  by_cases z : y + n ≤ 999
  · exact z
  · rw [if_neg (lge' z (by omega))] at hq
    exact absurd hq (by decide)
theorem Rel.o (h : Rel X R) : Rel X (oM R) := h.keep (fun _ _ => rfl) (fun r hr => oM_n R (by omega)) (by rw [oM_n R (by omega)]) (by rw [oM_n R (by omega)])
theorem oo (M : sl_M) : oM (oM M) = oM M := by
  funext r
  by_cases h : r = 3
  · subst h
    funext k
    show (if k < 111 then oM M 1 k else oM M 3 k) = _
    rw [oM_n M (show (1 : Nat) ≠ 3 by omega)]
    show (if k < 111 then M 1 k else (if k < 111 then M 1 k else M 3 k)) = (if k < 111 then M 1 k else M 3 k)
    by_cases hk : k < 111 <;> simp [hk]
  · rw [oM_n _ h]
theorem hi_set {σ : Nat → Int32} {c : Nat} {v : Int32} (hc : c < 24) : ∀ k, 111 ≤ k → setS σ c v k = σ k := fun k hk => by
  unfold setS
  rw [pu_un (by omega), pu_un (by omega)]
theorem hi_grow {σ : Nat → Int32} {n : Nat} : ∀ k, 111 ≤ k → Sgrow σ n k = σ k := fun k hk => Sg_n _ _ (by omega) (by omega)
theorem s_try (h : Rel X R) {c n y : Nat} (hc : c < 24) (k : Int32) (hn : n ≤ 60) : ∃ X2, f4_tryThing (nI c) k (nI n) X = some X2 ∧ RL X2 1 (Sgrow (setS (R 1) c k) n) ∧ Fr 1 X X2 := by
  obtain ⟨X1, a1, a2, a3⟩ := h.take
  obtain ⟨X2, b1, b2, b3⟩ := x_place a2 hc k
  obtain ⟨X3, c1, c2, c3⟩ := x_grow b2 n
  exact ⟨X3, by rw [f4_tryThing, a1, pu_b, b1, pu_b, c1, pu_b], c2, (a3.tr b3).tr c3⟩
theorem s_tryY (h : Rel X R) (n : Nat) : ∃ X2, f4_tryYears (nI n) X = some X2 ∧ RL X2 1 (Sgrow (R 1) n) ∧ Fr 1 X X2 := by
  obtain ⟨X1, a1, a2, a3⟩ := h.take
  obtain ⟨X3, c1, c2, c3⟩ := x_grow a2 n
  exact ⟨X3, by rw [f4_tryYears, a1, pu_b, c1, pu_b], c2, a3.tr c3⟩
theorem st_shade (h : Rel X R) (x1 x2 x3 : Int32) : Stq (f4_shade x1 x2 x3 X) (f5_shade x1 x2 x3 R) := by
  rw [f4_shade, f5_shade, r_isHouse, pu_b, h.house, e_kind, e_ahead, r_far h, pu_b]
  by_cases h1 : f4_isWithin x1 0 (R 1 1 - 1) = 0
  · rw [if_pos h1, if_pos h1]; exact t0 h
  · rw [if_neg h1, if_neg h1]
    by_cases h2 : f4_isKind x2 = 0
    · rw [if_pos h2, if_pos h2]; exact t0 h
    · rw [if_neg h2, if_neg h2]
      by_cases h3 : f4_isSpan x3 = 0
      · rw [if_pos h3, if_pos h3]; exact t0 h
      · rw [if_neg h3, if_neg h3]
        by_cases h4 : f4_isTooLate x3 X = 0
        · rw [if_pos h4, if_pos h4]
          obtain ⟨a, -, ha, rfl⟩ := houseN h.2.1 h1
          obtain ⟨k, hk, rfl⟩ := kindN h2
          obtain ⟨n, hn, rfl⟩ := spanN h3
          obtain ⟨y, ey, hy⟩ := lateN h hn h4
          obtain ⟨p, q, f2, ⟨hp1, hp2, hr, hq⟩, e1, e2⟩ := pu_2 (F := fun f i (a1 : Int32 × Int32 × sl_M) => f4_shade_51 (nI a) (nI k) (nI n) f a1.1 a1.2.1 (nI i) a1.2.2) (G := fun f i (a1 : Int32 × Int32 × sl_M) => f5_shade_53 (nI a) (nI k) (nI n) f a1.1 a1.2.1 (nI i) a1.2.2) (N := 24) (fun _ a b => a.1 = b.1 ∧ a.2.1 = b.2.1 ∧ Rel a.2.2 b.2.2 ∧ b.2.2 1 = R 1) (by
            rintro i ⟨b, l, M⟩ ⟨b2, l2, M2⟩ hi ⟨q1, q2, hr, q3⟩
            dsimp only at q1 q2 hr q3
            subst q1; subst q2
            have os : ok (setS (M2 1) i (nI k)) := hr.2.1.set hi hk
            have oo' : ok (Sgrow (setS (M2 1) i (nI k)) n) := os.grow hn (y := y) (by rw [q3]; unfold setS; rw [pu_un (by omega), pu_un (by omega)]; exact ey) hy
            obtain ⟨X2, z1, z2, z3⟩ := s_try (y := 0) hr hi (nI k) hn
            have hr2 : Rel X2 (oM M2) := (hr.trial z3).o
            have q4 : oM M2 1 = R 1 := by rw [oM_n _ (by omega)]; exact q3
            have xx : ∀ f, f4_shade_51 (nI a) (nI k) (nI n) (f + 1) b l (nI i) M = (if b < 0 then f4_shade_51 (nI a) (nI k) (nI n) f (nI i) (Stax (Sgrow (setS (M2 1) i (nI k)) n) a) (nI (i + 1)) X2 else (if l ≤ Stax (Sgrow (setS (M2 1) i (nI k)) n) a then f4_shade_51 (nI a) (nI k) (nI n) f b l (nI (i + 1)) X2 else f4_shade_51 (nI a) (nI k) (nI n) f (nI i) (Stax (Sgrow (setS (M2 1) i (nI k)) n) a) (nI (i + 1)) X2)) := by
              intro f
              rw [f4_shade_51, if_neg (lge (x := 24) (N := 24) rfl hi (by omega)), z1, pu_b, x_tax z2 oo' ha, pu_b, f4_shade_88, nI_1]
            have yy : ∀ f, f5_shade_53 (nI a) (nI k) (nI n) (f + 1) b l (nI i) M2 = (if b < 0 then f5_shade_53 (nI a) (nI k) (nI n) f (nI i) (Stax (Sgrow (setS (M2 1) i (nI k)) n) a) (nI (i + 1)) (oM M2) else (if l ≤ Stax (Sgrow (setS (M2 1) i (nI k)) n) a then f5_shade_53 (nI a) (nI k) (nI n) f b l (nI (i + 1)) (oM M2) else f5_shade_53 (nI a) (nI k) (nI n) f (nI i) (Stax (Sgrow (setS (M2 1) i (nI k)) n) a) (nI (i + 1)) (oM M2))) := by
              intro f
              rw [f5_shade_53, if_neg (lge (x := 24) (N := 24) rfl hi (by omega)), r_puts, pu_b, r_sets hi, pu_b, oM_n M2 (show (1 : Nat) ≠ 3 by omega), r_years (by rw [sM_1]; exact os.2.2.2.2.1) (by omega), pu_b, sM_1, sM_s, r_tax ha (by rw [sM_1]; exact oo'), pu_b, sM_1, r_tried (fun x hx => by rw [hi_grow x hx, hi_set hi x hx]), pu_b, f5_shade_99, nI_1]
            by_cases c1 : b < 0
            · exact ⟨(nI i, Stax (Sgrow (setS (M2 1) i (nI k)) n) a, X2), (nI i, Stax (Sgrow (setS (M2 1) i (nI k)) n) a, oM M2), ⟨rfl, rfl, hr2, q4⟩, fun f => by dsimp only; rw [xx f, if_pos c1], fun f => by dsimp only; rw [yy f, if_pos c1]⟩
            · by_cases c2 : l ≤ Stax (Sgrow (setS (M2 1) i (nI k)) n) a
              · exact ⟨(b, l, X2), (b, l, oM M2), ⟨rfl, rfl, hr2, q4⟩, fun f => by dsimp only; rw [xx f, if_neg c1, if_pos c2], fun f => by dsimp only; rw [yy f, if_neg c1, if_pos c2]⟩
              · exact ⟨(nI i, Stax (Sgrow (setS (M2 1) i (nI k)) n) a, X2), (nI i, Stax (Sgrow (setS (M2 1) i (nI k)) n) a, oM M2), ⟨rfl, rfl, hr2, q4⟩, fun f => by dsimp only; rw [xx f, if_neg c1, if_neg c2], fun f => by dsimp only; rw [yy f, if_neg c1, if_neg c2]⟩) 24 0 ((-1 : Int32), (0 : Int32), X) ((-1 : Int32), (0 : Int32), R) (by omega) ⟨rfl, rfl, h, rfl⟩ (f := 400) (by omega)
          dsimp only at e1 e2
          rw [show f4_shade_51 (nI a) (nI k) (nI n) 400 (-1) 0 0 X = _ from e1, show f5_shade_53 (nI a) (nI k) (nI n) 400 (-1) 0 0 R = _ from e2, f4_shade_51, f5_shade_53, if_pos (by decide), if_pos (by decide), hp1]
          exact Stq.of hr
        · rw [if_neg h4, if_neg h4]; exact t4 h
theorem st_plant (h : Rel X R) (x1 : Int32) : Stq (f4_plant x1 X) (f5_plant x1 R) := by
  rw [f4_plant, f5_plant, e_kind]
  by_cases h2 : f4_isKind x1 = 0
  · rw [if_pos h2, if_pos h2]; exact t0 h
  · rw [if_neg h2, if_neg h2, r_puts, pu_b]
    obtain ⟨k, hk, rfl⟩ := kindN h2
    obtain ⟨p, q, f2, ⟨hp1, hp2, hr, hq⟩, e1, e2⟩ := pu_2 (F := fun f i (a1 : Int32 × Int32 × sl_M) => f4_plant_20 (nI k) f a1.1 a1.2.1 (nI i) a1.2.2) (G := fun f i (a1 : Int32 × Int32 × sl_M) => f5_plant_25 (nI k) f a1.1 a1.2.1 (nI i) a1.2.2) (N := 24) (fun _ a b => a.1 = b.1 ∧ a.2.1 = b.2.1 ∧ Rel a.2.2 b.2.2 ∧ b.2.2 = oM R) (by
      rintro i ⟨b, l, M⟩ ⟨b2, l2, M2⟩ hi ⟨q1, q2, hr, q3⟩
      dsimp only at q1 q2 hr q3
      subst q1; subst q2; subst q3
      have q4 : oM R 1 = R 1 := oM_n _ (by omega)
      have os : ok (setS (R 1) i (nI k)) := h.2.1.set hi hk
      obtain ⟨X2, z1, z2, z3⟩ := s_try (y := 0) (n := 0) hr hi (nI k) (by omega)
      rw [q4, Sg_z os.2.2.2.2.1] at z2
      have hr2 : Rel X2 (oM R) := hr.trial z3
      have xx : ∀ f, f4_plant_20 (nI k) (f + 1) b l (nI i) M = (if b < 0 then f4_plant_20 (nI k) f (nI i) (Sall (setS (R 1) i (nI k))) (nI (i + 1)) X2 else (if Sall (setS (R 1) i (nI k)) ≤ l then f4_plant_20 (nI k) f b l (nI (i + 1)) X2 else f4_plant_20 (nI k) f (nI i) (Sall (setS (R 1) i (nI k))) (nI (i + 1)) X2)) := by
        intro f
        rw [f4_plant_20, if_neg (lge (x := 24) (N := 24) rfl hi (by omega)), show f4_tryThing (nI i) (nI k) 0 M = _ from z1, pu_b, x_all z2 os, pu_b, f4_plant_54, nI_1]
      have yy : ∀ f, f5_plant_25 (nI k) (f + 1) b l (nI i) (oM R) = (if b < 0 then f5_plant_25 (nI k) f (nI i) (Sall (setS (R 1) i (nI k))) (nI (i + 1)) (oM R) else (if Sall (setS (R 1) i (nI k)) ≤ l then f5_plant_25 (nI k) f b l (nI (i + 1)) (oM R) else f5_plant_25 (nI k) f (nI i) (Sall (setS (R 1) i (nI k))) (nI (i + 1)) (oM R))) := by
        intro f
        rw [f5_plant_25, if_neg (lge (x := 24) (N := 24) rfl hi (by omega)), r_sets hi, pu_b, q4, r_all (by rw [sM_1]; exact os), pu_b, sM_1, r_tried (fun x hx => by rw [hi_set hi x hx]), pu_b, f5_plant_59, nI_1]
      by_cases c1 : b < 0
      · exact ⟨(nI i, Sall (setS (R 1) i (nI k)), X2), (nI i, Sall (setS (R 1) i (nI k)), oM R), ⟨rfl, rfl, hr2, rfl⟩, fun f => by dsimp only; rw [xx f, if_pos c1], fun f => by dsimp only; rw [yy f, if_pos c1]⟩
      · by_cases c2 : Sall (setS (R 1) i (nI k)) ≤ l
        · exact ⟨(b, l, X2), (b, l, oM R), ⟨rfl, rfl, hr2, rfl⟩, fun f => by dsimp only; rw [xx f, if_neg c1, if_pos c2], fun f => by dsimp only; rw [yy f, if_neg c1, if_pos c2]⟩
        · exact ⟨(nI i, Sall (setS (R 1) i (nI k)), X2), (nI i, Sall (setS (R 1) i (nI k)), oM R), ⟨rfl, rfl, hr2, rfl⟩, fun f => by dsimp only; rw [xx f, if_neg c1, if_neg c2], fun f => by dsimp only; rw [yy f, if_neg c1, if_neg c2]⟩) 24 0 ((-1 : Int32), (0 : Int32), X) ((-1 : Int32), (0 : Int32), oM R) (by omega) ⟨rfl, rfl, h.o, rfl⟩ (f := 400) (by omega)
    dsimp only at e1 e2
    rw [show f4_plant_20 (nI k) 400 (-1) 0 0 X = _ from e1, show f5_plant_25 (nI k) 400 (-1) 0 0 (oM R) = _ from e2, f4_plant_20, f5_plant_25, if_pos (by decide), if_pos (by decide), hp1]
    exact Stq.of hr
end CC
