/-! old heights: how many numbers fit, the least, the greatest -/
def cnP (P : Nat → Bool) : Nat → Int32
  | 0 => 0
  | n + 1 => if P n then cnP P n + 1 else cnP P n
def loP (P : Nat → Bool) : Nat → Int32
  | 0 => -1
  | n + 1 => if P n then (if 0 ≤ loP P n then loP P n else nI n) else loP P n
def hiP (P : Nat → Bool) : Nat → Int32
  | 0 => -1
  | n + 1 => if P n then nI n else hiP P n
theorem lo_spec (P : Nat → Bool) : ∀ n, n ≤ 1000 → ((∀ i, i < n → P i = false) ∧ loP P n = -1 ∧ cnP P n = 0) ∨ ∃ v, v < n ∧ P v = true ∧ (∀ i, i < v → P i = false) ∧ loP P n = nI v ∧ ∃ m, 1 ≤ m ∧ m ≤ n ∧ cnP P n = nI m := by
  intro n
  induction n with
  | zero => intro _; exact Or.inl ⟨fun i hi => by omega, rfl, rfl⟩
  | succ n ih =>
    intro hn
    rcases ih (by omega) with ⟨a, b, c⟩ | ⟨v, a, b, c, d, m, m1, m2, m3⟩
    · cases hp : P n
      · left
        refine ⟨fun i hi => ?_, by rw [loP, hp]; exact b, by rw [cnP, hp]; exact c⟩
        by_cases q : i = n
        · subst q; exact hp
        · exact a i (by omega)
      · right
        refine ⟨n, by omega, hp, a, by rw [loP, hp, b]; rfl, 1, by omega, by omega, by rw [cnP, hp, c]; rfl⟩
    · right
      cases hp : P n
      · exact ⟨v, by omega, b, c, by rw [loP, hp]; exact d, m, m1, by omega, by rw [cnP, hp]; exact m3⟩
      · refine ⟨v, by omega, b, c, ?_, m + 1, by omega, by omega, by rw [cnP, hp, m3]; exact nI_1 m⟩
        rw [loP, hp, d, if_pos rfl, if_pos (nI_pos' (by omega))]
theorem hi_spec (P : Nat → Bool) : ∀ n, n ≤ 1000 → (∀ i, i < n → P i = false) ∨ ∃ v, v < n ∧ P v = true ∧ (∀ i, v < i → i < n → P i = false) ∧ hiP P n = nI v := by
  intro n
  induction n with
  | zero => intro _; exact Or.inl (fun i hi => by omega)
  | succ n ih =>
    intro hn
    cases hp : P n
    · rcases ih (by omega) with a | ⟨v, a, b, c, d⟩
      · left
        intro i hi
        by_cases q : i = n
        · subst q; exact hp
        · exact a i (by omega)
      · right
        refine ⟨v, by omega, b, fun i h1 h2 => ?_, by rw [hiP, hp]; exact d⟩
        by_cases q : i = n
        · subst q; exact hp
        · exact c i h1 (by omega)
    · right
      exact ⟨n, by omega, hp, fun i h1 h2 => by omega, by rw [hiP, hp]; rfl⟩
section CG
variable {X R : sl_M}
/-- does the tax fit, with that height? -/
noncomputable def Pht (σ : Nat → Int32) (c h : Nat) (v : Int32) (i : Nat) : Bool := decide (Stax (upd σ (5 + 3 * c + 1) (nI i)) h = v)
theorem r_findH (o : ok (R 1)) {c a : Nat} (hc : c < 24) (ha : a < 8) (v : Int32) : ∃ M2, f5_findHeights (nI c) (nI a) v R = some M2 ∧ (∀ r, r ≠ 0 → M2 r = R r) ∧ (∀ k, k ≠ 7 → k ≠ 8 → k ≠ 9 → M2 0 k = R 0 k) ∧ M2 0 7 = cnP (Pht (R 1) c a v) 100 ∧ M2 0 8 = loP (Pht (R 1) c a v) 100 ∧ M2 0 9 = hiP (Pht (R 1) c a v) 100 := by
  obtain ⟨M, f2, ⟨b1', b2', ⟨w, b3'⟩, b4', b5', b6'⟩, e1⟩ := pu_1 (F := fun f i (M : sl_M) => f5_findHeights_25 (nI c) (nI a) v (R 1 (5 + 3 * c + 1)) f (nI i) M) (N := 100) (fun i M => (∀ r, r ≠ 0 → r ≠ 1 → M r = R r) ∧ (∀ k, k ≠ 7 → k ≠ 8 → k ≠ 9 → M 0 k = R 0 k) ∧ (∃ w, M 1 = upd (R 1) (5 + 3 * c + 1) w) ∧ M 0 7 = cnP (Pht (R 1) c a v) i ∧ M 0 8 = loP (Pht (R 1) c a v) i ∧ M 0 9 = hiP (Pht (R 1) c a v) i) (by
    rintro i M hi ⟨b1', b2', ⟨w, b3'⟩, b4', b5', b6'⟩
    have ho : ok (upd (R 1) (5 + 3 * c + 1) (nI i)) := o.u (oa_high hc (by omega))
    have step : ∀ f, f5_findHeights_25 (nI c) (nI a) v (R 1 (5 + 3 * c + 1)) (f + 1) (nI i) M = if Stax (upd (R 1) (5 + 3 * c + 1) (nI i)) a = v then f5_findHeights_25 (nI c) (nI a) v (R 1 (5 + 3 * c + 1)) f (nI (i + 1)) (sl_up (sl_up (sl_up (sM M (upd (R 1) (5 + 3 * c + 1) (nI i))) 0 7 (M 0 7 + 1)) 0 8 (if 0 ≤ M 0 8 then M 0 8 else nI i)) 0 9 (nI i)) else f5_findHeights_25 (nI c) (nI a) v (R 1 (5 + 3 * c + 1)) f (nI (i + 1)) (sM M (upd (R 1) (5 + 3 * c + 1) (nI i))) := by
      intro f
      rw [f5_findHeights_25, if_neg (lge (x := 100) (N := 100) rfl hi (by omega)), pu_stM (ix51 c) (by omega), pu_b, b3', pu_uu, r_tax ha (by rw [sM_1]; exact ho), pu_b, sM_1, f5_findHeights_82, f5_findHeights_82, nI_1]
      have z7 : sM M (upd (R 1) (5 + 3 * c + 1) (nI i)) 0 7 = M 0 7 := by rw [sM_n _ _ (by omega)]
      have z8 : sl_up (sM M (upd (R 1) (5 + 3 * c + 1) (nI i))) 0 7 (M 0 7 + 1) 0 8 = M 0 8 := by rw [pu_ups, pu_un (by omega), sM_n _ _ (by omega)]
      rw [z7, z8]
      by_cases q : (0 : Int32) ≤ M 0 8
      · rw [if_pos q, if_pos q]
      · rw [if_neg q, if_neg q]
    by_cases q : Stax (upd (R 1) (5 + 3 * c + 1) (nI i)) a = v
    · have hp : Pht (R 1) c a v i = true := by unfold Pht; exact decide_eq_true q
      refine ⟨_, ⟨fun r h0 h1 => ?_, fun k k7 k8 k9 => ?_, ⟨nI i, ?_⟩, ?_, ?_, ?_⟩, fun f => by rw [step f, if_pos q]⟩
      · rw [pu_upn h0, pu_upn h0, pu_upn h0, sM_n _ _ h1]; exact b1' r h0 h1
      · rw [pu_ups, pu_un k9, pu_ups, pu_un k8, pu_ups, pu_un k7, sM_n _ _ (by omega)]; exact b2' k k7 k8 k9
      · rw [pu_upn (by omega), pu_upn (by omega), pu_upn (by omega), sM_1]
      · rw [pu_ups, pu_un (by omega), pu_ups, pu_un (by omega), pu_ups, pu_us, b4', cnP, hp]; rfl
      · rw [pu_ups, pu_un (by omega), pu_ups, pu_us, b5', loP, hp]; rfl
      · rw [pu_ups, pu_us, hiP, hp]; rfl
    · have hp : Pht (R 1) c a v i = false := by unfold Pht; exact decide_eq_false q
      refine ⟨sM M (upd (R 1) (5 + 3 * c + 1) (nI i)), ⟨fun r h0 h1 => ?_, fun k k7 k8 k9 => ?_, ⟨nI i, ?_⟩, ?_, ?_, ?_⟩, fun f => by rw [step f, if_neg q]⟩
      · rw [sM_n _ _ h1]; exact b1' r h0 h1
      · rw [sM_n _ _ (by omega)]; exact b2' k k7 k8 k9
      · rw [sM_1]
      · rw [sM_n _ _ (by omega), b4', cnP, hp]; rfl
      · rw [sM_n _ _ (by omega), b5', loP, hp]; rfl
      · rw [sM_n _ _ (by omega), b6', hiP, hp]; rfl) 100 0 (sl_up (sl_up (sl_up R 0 7 0) 0 8 (-1)) 0 9 (-1)) (by omega) ⟨fun r h0 h1 => by rw [pu_upn h0, pu_upn h0, pu_upn h0], fun k k7 k8 k9 => by rw [pu_ups, pu_un k9, pu_ups, pu_un k8, pu_ups, pu_un k7], ⟨_, by rw [pu_upn (by omega), pu_upn (by omega), pu_upn (by omega), pu_self]⟩, by rw [pu_ups, pu_un (by omega), pu_ups, pu_un (by omega), pu_ups, pu_us]; rfl, by rw [pu_ups, pu_un (by omega), pu_ups, pu_us]; rfl, by rw [pu_ups, pu_us]; rfl⟩ (f := 400) (by omega)
  refine ⟨sM M (R 1), ?_, fun r h0 => ?_, fun k k7 k8 k9 => by rw [sM_n _ _ (by omega)]; exact b2' k k7 k8 k9, by rw [sM_n _ _ (by omega)]; exact b4', by rw [sM_n _ _ (by omega)]; exact b5', by rw [sM_n _ _ (by omega)]; exact b6'⟩
  · rw [f5_findHeights, r_high hc, pu_b, show f5_findHeights_25 (nI c) (nI a) v (R 1 (5 + 3 * c + 1)) 400 0 _ = _ from e1, f5_findHeights_25, if_pos (show (100 : Int32) ≤ nI 100 by decide), pu_stM (ix51 c) (by omega), pu_b, b3', pu_uu, pu_self]
  · by_cases q : r = 1
    · subst q; rw [sM_1]
    · rw [sM_n _ _ q]; exact b1' r h0 q
theorem Rel.h789 {R2 : sl_M} (h : Rel X R) (h0 : ∀ r, r ≠ 0 → R2 r = R r) (h1 : ∀ k, k ≠ 7 → k ≠ 8 → k ≠ 9 → R2 0 k = R 0 k) : Rel X R2 := h.keep (fun _ _ => rfl) (fun r hr => h0 r (by omega)) (h1 4 (by omega) (by omega) (by omega)) (h1 11 (by omega) (by omega) (by omega))
theorem st_heights (h : Rel X R) (x1 x2 x3 : Int32) : Stq (f4_heights x1 x2 x3 X) (f5_heights x1 x2 x3 R) := by
  rw [f4_heights, f5_heights, e_cell, r_isHouse, pu_b, h.house, e_tax]
  by_cases h1 : f4_isCell x1 = 0
  · rw [if_pos h1, if_pos h1]; exact t0 h
  · rw [if_neg h1, if_neg h1]
    by_cases h2 : f4_isWithin x2 0 (R 1 1 - 1) = 0
    · rw [if_pos h2, if_pos h2]; exact t0 h
    · rw [if_neg h2, if_neg h2]
      by_cases h3 : f4_isTaxAsked x3 = 0
      · rw [if_pos h3, if_pos h3]; exact t0 h
      · rw [if_neg h3, if_neg h3]
        obtain ⟨c, hc, rfl⟩ := cellN h1
        obtain ⟨a, -, ha, rfl⟩ := houseN h.2.1 h2
        obtain ⟨X1, a1, a2, a3⟩ := h.take
        obtain ⟨R2, r1, r2, r3, r4, -, -⟩ := r_findH h.2.1 hc ha x3
        rw [a1, pu_b, r1, pu_b, r4]
        obtain ⟨p, f2, ⟨hp, hF, -⟩, e1⟩ := pu_1 (F := fun f i (a1 : Int32 × sl_M) => f4_heights_45 (nI c) (nI a) x3 f a1.1 (nI i) a1.2) (N := 100) (fun i a1 => a1.1 = cnP (Pht (R 1) c a x3) i ∧ Fr 1 X a1.2 ∧ ∃ w, RL a1.2 1 (upd (R 1) (5 + 3 * c + 1) w)) (by
          rintro i ⟨b, M⟩ hi ⟨q1, hF, ⟨w, hM⟩⟩
          dsimp only at q1 hF hM
          subst q1
          obtain ⟨M2, g1, g2, g3⟩ := x_raise hM hc (nI i)
          rw [pu_uu] at g2
          have ho : ok (upd (R 1) (5 + 3 * c + 1) (nI i)) := h.2.1.u (oa_high hc (by omega))
          refine ⟨(cnP (Pht (R 1) c a x3) (i + 1), M2), ⟨rfl, hF.tr g3, ⟨_, g2⟩⟩, fun f => ?_⟩
          dsimp only
          rw [f4_heights_45, if_neg (lnl (x := 99) (N := 99) rfl (by omega) (by omega)), g1, pu_b, x_tax g2 ho ha, pu_b, cnP, nI_1]
          unfold Pht
          by_cases q : Stax (upd (R 1) (5 + 3 * c + 1) (nI i)) a = x3
          · simp [q]
          · simp [q]) 100 0 ((0 : Int32), X1) (by omega) ⟨rfl, a3, ⟨_, by rw [pu_self]; exact a2⟩⟩ (f := 400) (by omega)
        dsimp only at e1
        rw [show f4_heights_45 (nI c) (nI a) x3 400 0 0 X1 = _ from e1, f4_heights_45, if_pos (show (99 : Int32) < nI 100 by decide), hp]
        exact Stq.of ((h.trial hF).h789 r2 r3)
theorem st_height (h : Rel X R) (x1 x2 x3 x4 : Int32) : Stq (f4_height x1 x2 x3 x4 X) (f5_height x1 x2 x3 x4 R) := by
  rw [f4_height, f5_height, e_cell, r_isHouse, pu_b, h.house, e_tax, e_in x4 0 1 (a2 := 0) (b2 := 1) rfl rfl]
  by_cases h1 : f4_isCell x1 = 0
  · rw [if_pos h1, if_pos h1]; exact t0 h
  · rw [if_neg h1, if_neg h1]
    by_cases h2 : f4_isWithin x2 0 (R 1 1 - 1) = 0
    · rw [if_pos h2, if_pos h2]; exact t0 h
    · rw [if_neg h2, if_neg h2]
      by_cases h3 : f4_isTaxAsked x3 = 0
      · rw [if_pos h3, if_pos h3]; exact t0 h
      · rw [if_neg h3, if_neg h3]
        by_cases h4 : f4_isWithin x4 0 1 = 0
        · rw [if_pos h4, if_pos h4]; exact t0 h
        · rw [if_neg h4, if_neg h4]
          obtain ⟨c, hc, rfl⟩ := cellN h1
          obtain ⟨a, -, ha, rfl⟩ := houseN h.2.1 h2
          obtain ⟨u, hu, rfl⟩ := wi_n (n := 1) (b := 1) rfl h4
          obtain ⟨X1, a1, a2, a3⟩ := h.take
          obtain ⟨R2, r1, r2, r3, r4, r5, r6⟩ := r_findH h.2.1 hc ha x3
          rw [a1, pu_b, r1, pu_b, r4, r5, r6]
          have main : ∀ (ix : Nat → Nat), (∀ i, i < 100 → ix i ≤ 99) → (∀ (f i : Nat) (M : sl_M), i < 100 → f4_height_52 (nI c) (nI a) x3 (nI u) (f + 1) (nI i) M = f4_height_74 (f4_height_52 (nI c) (nI a) x3 (nI u) f) (nI c) (nI a) x3 (nI u) (nI i) (nI (ix i)) M) → ∀ (k i f : Nat) (M : sl_M), i + k = 100 → k < f → (∃ w, RL M 1 (upd (R 1) (5 + 3 * c + 1) w)) → Fr 1 X M →
              (∃ i0 M2, i ≤ i0 ∧ i0 < 100 ∧ Pht (R 1) c a x3 (ix i0) = true ∧ (∀ z, i ≤ z → z < i0 → Pht (R 1) c a x3 (ix z) = false) ∧ f4_height_52 (nI c) (nI a) x3 (nI u) f (nI i) M = some (nI (ix i0), M2) ∧ Fr 1 X M2) ∨ ((∀ z, i ≤ z → z < 100 → Pht (R 1) c a x3 (ix z) = false) ∧ ∃ M2, f4_height_52 (nI c) (nI a) x3 (nI u) f (nI i) M = ((f4_tell (3 : Int32) M2).bind fun r => some (r.1, r.2)) ∧ Fr 1 X M2) := by
            intro ix hix hst k
            induction k with
            | zero =>
              intro i f M hi hf hM hF
              obtain ⟨f, rfl⟩ : ∃ z, f = z + 1 := ⟨f - 1, by omega⟩
              have e : i = 100 := by omega
              subst e
              right
              exact ⟨fun z z1 z2 => by omega, M, by rw [f4_height_52, if_pos (show (99 : Int32) < nI 100 by decide)], hF⟩
            | succ k ih =>
              intro i f M hi hf hM hF
              obtain ⟨f, rfl⟩ : ∃ z, f = z + 1 := ⟨f - 1, by omega⟩
              obtain ⟨w, hM⟩ := hM
              obtain ⟨M2, g1, g2, g3⟩ := x_raise hM hc (nI (ix i))
              rw [pu_uu] at g2
              have ho : ok (upd (R 1) (5 + 3 * c + 1) (nI (ix i))) := h.2.1.u (oa_high hc (hix i (by omega)))
              have e0 : f4_height_52 (nI c) (nI a) x3 (nI u) (f + 1) (nI i) M = if Stax (upd (R 1) (5 + 3 * c + 1) (nI (ix i))) a = x3 then some (nI (ix i), M2) else f4_height_52 (nI c) (nI a) x3 (nI u) f (nI (i + 1)) M2 := by
                rw [hst f i M (by omega), f4_height_74, g1, pu_b, x_tax g2 ho ha, pu_b, nI_1]
              by_cases q : Stax (upd (R 1) (5 + 3 * c + 1) (nI (ix i))) a = x3
              · left
                refine ⟨i, M2, Nat.le_refl _, by omega, by unfold Pht; exact decide_eq_true q, fun z z1 z2 => by omega, by rw [e0, if_pos q], hF.tr g3⟩
              · have hp : Pht (R 1) c a x3 (ix i) = false := by unfold Pht; exact decide_eq_false q
                rcases ih (i + 1) f M2 (by omega) (by omega) ⟨_, g2⟩ (hF.tr g3) with ⟨i0, M3, y1, y2, y3, y4, y5, y6⟩ | ⟨y1, M3, y5, y6⟩
                · left
                  refine ⟨i0, M3, by omega, y2, y3, fun z z1 z2 => ?_, by rw [e0, if_neg q]; exact y5, y6⟩
                  by_cases qz : z = i
                  · subst qz; exact hp
                  · exact y4 z (by omega) z2
                · right
                  refine ⟨fun z z1 z2 => ?_, M3, by rw [e0, if_neg q]; exact y5, y6⟩
                  by_cases qz : z = i
                  · subst qz; exact hp
                  · exact y1 z (by omega) z2
          have none_ : ∀ (M2 : sl_M), Fr 1 X M2 → (∀ i, i < 100 → Pht (R 1) c a x3 i = false) → cnP (Pht (R 1) c a x3) 100 = 0 := by
            intro M2 _ hno
            rcases lo_spec (Pht (R 1) c a x3) 100 (by omega) with ⟨-, -, e⟩ | ⟨v, v1, v2, -⟩
            · exact e
            · rw [hno v v1] at v2; cases v2
          rcases (show u = 0 ∨ u = 1 by omega) with rfl | rfl
          · rcases main id (fun i hi => by simp only [id]; omega) (fun f i M hi => by rw [f4_height_52, if_neg (lnl (x := 99) (N := 99) rfl (by omega) (by omega)), if_pos (show nI 0 = 0 from rfl)]; rfl) 100 0 400 X1 (by omega) (by omega) ⟨_, by rw [pu_self]; exact a2⟩ a3 with ⟨i0, M2, y1, y2, y3, y4, y5, y6⟩ | ⟨y1, M2, y5, y6⟩
            · rcases lo_spec (Pht (R 1) c a x3) 100 (by omega) with ⟨b1', -, -⟩ | ⟨v, v1, v2, v3, v4, m, m1, m2, m3⟩
              · rw [id, b1' i0 y2] at y3; cases y3
              · have ev : v = i0 := by
                  rcases Nat.lt_trichotomy v i0 with q | q | q
                  · have := y4 v (by omega) q
                    rw [id, v2] at this; cases this
                  · exact q
                  · have := v3 i0 q
                    rw [id] at y3; rw [this] at y3; cases y3
                subst ev
                rw [show f4_height_52 (nI c) (nI a) x3 (nI 0) 400 0 X1 = _ from y5, m3, if_neg (nI_ne0 (by omega) (by omega)), if_pos (show nI 0 = 0 from rfl), v4]
                exact Stq.of ((h.trial y6).h789 r2 r3)
            · rw [show f4_height_52 (nI c) (nI a) x3 (nI 0) 400 0 X1 = _ from y5, none_ M2 y6 (fun i hi => y1 i (by omega) hi), if_pos rfl]
              exact t3 ((h.trial y6).h789 r2 r3)
          · rcases main (fun i => 99 - i) (fun i hi => by omega) (fun f i M hi => by rw [f4_height_52, if_neg (lnl (x := 99) (N := 99) rfl (by omega) (by omega)), if_neg (show ¬ nI 1 = 0 by decide), show (99 : Int32) - nI i = nI (99 - i) from pk_sub (a := 99) (by omega)]) 100 0 400 X1 (by omega) (by omega) ⟨_, by rw [pu_self]; exact a2⟩ a3 with ⟨i0, M2, y1, y2, y3, y4, y5, y6⟩ | ⟨y1, M2, y5, y6⟩
            · rcases lo_spec (Pht (R 1) c a x3) 100 (by omega) with ⟨b1', -, -⟩ | ⟨v, v1, v2, v3, v4, m, m1, m2, m3⟩
              · rw [b1' _ (by omega)] at y3; cases y3
              · rcases hi_spec (Pht (R 1) c a x3) 100 (by omega) with b1' | ⟨w, w1, w2, w3, w4⟩
                · rw [b1' _ (by omega)] at y3; cases y3
                · have ev : w = 99 - i0 := by
                    rcases Nat.lt_trichotomy w (99 - i0) with q | q | q
                    · have := w3 (99 - i0) q (by omega)
                      rw [this] at y3; cases y3
                    · exact q
                    · have := y4 (99 - w) (by omega) (by omega)
                      rw [show 99 - (99 - w) = w by omega, w2] at this; cases this
                  subst ev
                  rw [show f4_height_52 (nI c) (nI a) x3 (nI 1) 400 0 X1 = _ from y5, m3, if_neg (nI_ne0 (by omega) (by omega)), if_neg (show ¬ nI 1 = 0 by decide), w4]
                  exact Stq.of ((h.trial y6).h789 r2 r3)
            · rw [show f4_height_52 (nI c) (nI a) x3 (nI 1) 400 0 X1 = _ from y5, none_ M2 y6 (fun i hi => by have := y1 (99 - i) (by omega) (by omega); rwa [show 99 - (99 - i) = i by omega] at this), if_pos rfl]
              exact t3 ((h.trial y6).h789 r2 r3)
end CG
