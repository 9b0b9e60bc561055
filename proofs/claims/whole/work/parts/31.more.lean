section CE
variable {X R : sl_M}
/-! rates -/
theorem rate_all {σ : Nat → Int32} (o : ok σ) (v : Int32) : Sall (upd σ 3 v) = smf (fun h => f0_taxFor (smf (Stw σ h) 24) v) (nh σ) := by
  obtain ⟨n1, -⟩ := o.nh
  have e : nh (upd σ 3 v) = nh σ := by unfold nh; rw [pu_un (by omega)]
  unfold Sall
  rw [e]
  apply smf_cg
  intro i hi
  unfold Stax f0_taxFor
  rw [pu_us, cg_seen (σ := upd σ 3 v) (τ := σ) ⟨pu_un (by omega), fun i a b => pu_un (by omega), pu_un (by omega), pu_un (by omega), pu_un (by omega)⟩ (by unfold hm; rw [pu_un (by omega)]; exact (o.hm (show i < 8 by omega)).1)]
theorem st_rateFor (h : Rel X R) (x1 : Int32) : Stq (f4_rateFor x1 X) (f5_rateFor x1 R) := by
  obtain ⟨n1, n2⟩ := h.2.1.nh
  rw [f4_rateFor, f5_rateFor, e_tax]
  by_cases h1 : f4_isTaxAsked x1 = 0
  · rw [if_pos h1, if_pos h1]; exact t0 h
  · rw [if_neg h1, if_neg h1, pu_ld (x := (3 : Int32)) (k := 3) rfl (by omega) (by omega), pu_b]
    obtain ⟨M, f2, ⟨hM1, hM2⟩, e1⟩ := pu_1 (F := fun n i (M : sl_M) => f4_rateFor_15 x1 n (nI i) M) (N := nh (R 1)) (fun i M => (∀ r, r ≠ 36 → M r = X r) ∧ ∀ k, k < i → M 36 k = smf (Stw (R 1) k) 24) (by
      rintro i M hi ⟨a1, a2⟩
      have hr : Rel M R := h.keep (fun r hr => a1 r (by omega)) (fun _ _ => rfl) rfl rfl
      refine ⟨sl_up M 36 i (smf (Stw (R 1) i) 24), ⟨fun r hr => by rw [pu_upn hr]; exact a1 r hr, fun k hk => ?_⟩, fun n => ?_⟩
      · rw [pu_ups]
        by_cases q : k = i
        · subst q; exact pu_us
        · rw [pu_un q]; exact a2 k (by omega)
      · rw [f4_rateFor_15, hr.n, if_neg (nI_ge hi (by omega)), x_seen (j := 0) hr.1 hr.2.1 (by omega), pu_b, pu_st rfl (show i < 8 by omega) (by omega), pu_b, nI_1]) (nh (R 1)) 0 X (by omega) ⟨fun _ _ => rfl, fun k hk => by omega⟩ (f := 400) (by omega)
    have hr : Rel M R := h.keep (fun r hr => hM1 r (by omega)) (fun _ _ => rfl) rfl rfl
    rw [show f4_rateFor_15 x1 400 0 X = _ from e1, f4_rateFor_15, hr.n, if_pos (nI_le (Nat.le_refl _) (by omega))]
    have inner : ∀ (K : Int32 → sl_M → Option (Int32 × sl_M)) (r : Nat), f4_rateFor_59 K x1 (nI r) 400 0 0 M = if Sall (upd (R 1) 3 (nI r)) < x1 then K (nI r + 1) M else some (nI r, M) := by
      intro K r
      obtain ⟨acc, f3, ha, e3⟩ := pu_1 (F := fun n i (a : Int32) => f4_rateFor_59 K x1 (nI r) n a (nI i) M) (N := nh (R 1)) (fun i a => a = smf (fun h => f0_taxFor (smf (Stw (R 1) h) 24) (nI r)) i) (by
        rintro i a hi rfl
        refine ⟨_, rfl, fun n => ?_⟩
        rw [f4_rateFor_59, hr.n, if_neg (nI_ge hi (by omega)), pu_ld rfl (show i < 8 by omega) (by omega), pu_b, hM2 i hi, nI_1]
        rfl) (nh (R 1)) 0 (0 : Int32) (by omega) rfl (f := 400) (by omega)
      rw [show f4_rateFor_59 K x1 (nI r) 400 0 0 M = _ from e3, f4_rateFor_59, hr.n, if_pos (nI_le (Nat.le_refl _) (by omega)), ha, ← rate_all h.2.1]
    have fin : ∀ (w v : Int32), f5_rateFor_66 (R 1 3) w (sM R (upd (R 1) 3 v)) = if 0 ≤ w then some (w, R) else (f5_finds (-1000004) R).bind fun r => some (r.1, r.2) := by
      intro w v
      rw [f5_rateFor_66, pu_stM (x := (3 : Int32)) (k := 3) rfl (by omega), pu_b, sM_s, sM_1, pu_uu, pu_self, sM_self]
    have main : ∀ (k r f g : Nat) (v : Int32), r + k = 100 → k < f → k + 1 < g → Stq (f4_rateFor_48 x1 f (nI r) M) (f5_rateFor_26 x1 (R 1 3) g (-1) (nI r) (sM R (upd (R 1) 3 v))) := by
      intro k
      induction k with
      | zero =>
        intro r f g v hr' hf hg
        obtain ⟨f, rfl⟩ : ∃ z, f = z + 1 := ⟨f - 1, by omega⟩
        obtain ⟨g, rfl⟩ : ∃ z, g = z + 1 := ⟨g - 1, by omega⟩
        have e : r = 100 := by omega
        subst e
        rw [f4_rateFor_48, if_pos (show (99 : Int32) < nI 100 by decide), f5_rateFor_26, if_pos (show (100 : Int32) ≤ nI 100 by decide), fin, if_neg (by decide)]
        exact t3 hr
      | succ k ih =>
        intro r f g v hr' hf hg
        obtain ⟨f, rfl⟩ : ∃ z, f = z + 1 := ⟨f - 1, by omega⟩
        obtain ⟨g, rfl⟩ : ∃ z, g = z + 2 := ⟨g - 2, by omega⟩
        have ho : ok (upd (R 1) 3 (nI r)) := h.2.1.u (oa_rate (by omega))
        rw [f4_rateFor_48, if_neg (lnl (x := 99) (N := 99) rfl (by omega) (by omega)), inner, f5_rateFor_26, if_neg (lge (x := 100) (N := 100) rfl (by omega) (by omega)), if_neg (show ¬ (0 : Int32) ≤ -1 by decide), pu_stM (x := (3 : Int32)) (k := 3) rfl (by omega), pu_b, sM_s, sM_1, pu_uu, r_all (by rw [sM_1]; exact ho), pu_b, sM_1, nI_1]
        by_cases q : Sall (upd (R 1) 3 (nI r)) < x1
        · rw [if_pos q, if_pos q]
          exact ih (r + 1) f (g + 1) (nI r) (by omega) (by omega) (by omega)
        · rw [if_neg q, if_neg q, f5_rateFor_26]
          have p0 : (0 : Int32) ≤ nI r := nI_pos' (by omega)
          rw [if_pos p0, fin, if_pos p0]
          rw [ite_self]
          exact Stq.of hr
    have := main 100 0 400 400 (R 1 3) (by omega) (by omega) (by omega)
    rw [pu_self, sM_self] at this
    exact this
/-! all sights of the reference -/
theorem r_find {M : sl_M} (o : ok (M 1)) : ∃ M2, f5_findSights M = some (Sas (M 1), M2) ∧ (∀ r, r ≠ 6 → M2 r = M r) ∧ ∀ k, k < nh (M 1) → M2 6 k = Ssight (M 1) k := by
  obtain ⟨n1, n2⟩ := o.nh
  obtain ⟨p, f2, ⟨hp, h1, h2⟩, e1⟩ := pu_1 (F := fun n i (a : Int32 × sl_M) => f5_findSights_4 n a.1 (nI i) a.2) (N := nh (M 1)) (fun i a => a.1 = orf (Ssight (M 1)) i ∧ (∀ r, r ≠ 6 → a.2 r = M r) ∧ ∀ k, k < i → a.2 6 k = Ssight (M 1) k) (by
    rintro i ⟨a, N⟩ hi ⟨q1, q2, q3⟩
    dsimp only at q1 q2 q3
    subst q1
    refine ⟨(orf (Ssight (M 1)) (i + 1), sl_up N 6 i (Ssight (M 1) i)), ⟨rfl, fun r hr => by dsimp only; rw [pu_upn hr]; exact q2 r hr, fun k hk => ?_⟩, fun n => ?_⟩
    · dsimp only
      rw [pu_ups]
      by_cases q : k = i
      · subst q; exact pu_us
      · rw [pu_un q]; exact q3 k (by omega)
    · dsimp only
      rw [f5_findSights_4, q2 1 (by omega), pu_ld (x := (1 : Int32)) (k := 1) rfl (by omega) (by omega), pu_b, n2, if_neg (nI_ge hi (by omega)), r_sight (by omega) (by rw [q2 1 (by omega)]; exact o), pu_b, q2 1 (by omega), pu_st rfl (show i < 8 by omega) (by omega), pu_b, pu_ld rfl (show i < 8 by omega) (by omega), pu_b, pu_ups, pu_us, nI_1]
      rfl) (nh (M 1)) 0 ((0 : Int32), M) (by omega) ⟨rfl, fun _ _ => rfl, fun k hk => by omega⟩ (f := 400) (by omega)
  dsimp only at e1
  refine ⟨p.2, ?_, h1, h2⟩
  rw [f5_findSights, show f5_findSights_4 400 0 0 M = _ from e1, f5_findSights_4, h1 1 (by omega), pu_ld (x := (1 : Int32)) (k := 1) rfl (by omega) (by omega), pu_b, n2, if_pos (nI_le (Nat.le_refl _) (by omega)), hp]
  rfl
theorem Rel.six {R2 : sl_M} (h : Rel X R) (hR : ∀ r, r ≠ 6 → R2 r = R r) : Rel X R2 := h.keep (fun _ _ => rfl) (fun r hr => hR r (by omega)) (by rw [hR 0 (by omega)]) (by rw [hR 0 (by omega)])
theorem st_blind (h : Rel X R) : ∃ r R2, f4_blind X = some r ∧ f5_blind R = some (r, R2) ∧ Rel X R2 := by
  obtain ⟨R2, h1, h2, -⟩ := r_find h.2.1
  rw [f4_blind, f5_blind, x_as (j := 0) h.1 h.2.1, h1]
  exact ⟨_, R2, rfl, rfl, h.six h2⟩
/-! quakes -/
theorem of_tn {x : Int32} {w : Nat} (hw : w < 2 ^ 32) (h : x.toBitVec.toNat = w) : x = nI w := by
  apply Int32.toBitVec_inj.mp
  apply BitVec.eq_of_toNat_eq
  rw [h, pk_tn hw]
theorem drawn (x : Int32) : ∃ w, w < 2 ^ 24 ∧ (x.toUInt32 >>> ((8 : Int32).toUInt32 &&& Int32.toUInt32 31)).toInt32 = nI w := by
  have h := pk_ushr x 8 8 (by decide)
  have hx : x.toBitVec.toNat < 2 ^ 32 := x.toBitVec.isLt
  refine ⟨x.toBitVec.toNat / 2 ^ 8, by omega, of_tn (by omega) h⟩
theorem rem_n {w d : Nat} (hw : w < 2 ^ 24) (h0 : 0 < d) (hd : d < 1000) {x : Int32} (e : x = nI d) : nI w - nI w / x * x = nI (w % d) := by subst e; exact pk_rem (by omega) h0 (by omega)
theorem st_quake (h : Rel X R) (x1 : Int32) : Stq (f4_quake x1 X) (f5_quake x1 R) := by
  rw [f4_quake, f5_quake, e_in x1 1 10 (a2 := 1) (b2 := 10) rfl rfl]
  by_cases h1 : f4_isWithin x1 1 10 = 0
  · rw [if_pos h1, if_pos h1]; exact t0 h
  · rw [if_neg h1, if_neg h1]
    obtain ⟨n, hn1, hn2, rfl⟩ := wi_n1 (m := 1) (n := 10) rfl rfl h1
    obtain ⟨p, q, f2, hr, e1, e2⟩ := pu_2 (F := fun f i (M : sl_M) => f4_quake_18 (nI n) f (nI i) M) (G := fun f i (M : sl_M) => f5_quake_21 (nI n) f (nI i) M) (N := n) (fun _ a b => Rel a b) (by
      rintro i M M2 hi hr
      have d1 : ∀ {A B : sl_M}, Rel A B → ∃ w, w < 2 ^ 24 ∧ ∃ A2 B2, f0_draw 0 A = some (nI w, A2) ∧ f5_next B = some (nI w, B2) ∧ Rel A2 B2 := by
        intro A B hAB
        obtain ⟨w, hw, ew⟩ := drawn (B 1 4 * 1103515245 + 12345)
        have e12 : A (9 * 0) 12 = B 1 4 := hAB.1.2.2.2.2.2.2.2
        refine ⟨w, hw, sl_up A (9 * 0) 12 (B 1 4 * 1103515245 + 12345), sM B (upd (B 1) 4 (B 1 4 * 1103515245 + 12345)), ?_, ?_, hAB.land (x_num (j := 0) hAB.1 _ (by omega)) (hAB.2.1.u (oa_seed _)) Fr.up0⟩
        · rw [f0_draw, e12, pu_ups, pu_us, ew]
        · rw [f5_next, pu_ld (x := (4 : Int32)) (k := 4) rfl (by omega) (by omega), pu_b, pu_stM (x := (4 : Int32)) (k := 4) rfl (by omega), pu_b, pu_ld (x := (4 : Int32)) (k := 4) rfl (by omega) (by omega), pu_b, sM_1, pu_us, ew]
      obtain ⟨w, hw, A2, B2, a1, a2, a3⟩ := d1 hr
      obtain ⟨v, hv, A3, B3, b1, b2, b3⟩ := d1 a3
      obtain ⟨A4, c1, c2, c3⟩ := x_raise (j := 0) b3.1 (c := w % 24) (by omega) (nI (v % 100))
      refine ⟨A4, sM B3 (upd (B3 1) (5 + 3 * (w % 24) + 1) (nI (v % 100))), b3.land c2 (b3.2.1.u (oa_high (by omega) (by omega))) c3, fun f => ?_, fun f => ?_⟩
      · rw [f4_quake_18, if_neg (nI_ge hi (by omega)), a1, pu_b, b1, pu_b, rem_n hw (d := 24) (by omega) (by omega) (x := 24) rfl, rem_n hv (d := 100) (by omega) (by omega) (x := 100) rfl, c1, pu_b, nI_1]
      · rw [f5_quake_21, if_neg (nI_ge hi (by omega)), a2, pu_b, b2, pu_b, rem_n hw (d := 24) (by omega) (by omega) (x := 24) rfl, rem_n hv (d := 100) (by omega) (by omega) (x := 100) rfl, pu_stM (ix51 _) (by omega), pu_b, nI_1]) n 0 X R (by omega) h (f := 400) (by omega)
    rw [show f4_quake_18 (nI n) 400 0 X = _ from e1, show f5_quake_21 (nI n) 400 0 R = _ from e2, f4_quake_18, if_pos (nI_le (Nat.le_refl _) (by omega)), f5_quake_21, if_pos (nI_le (Nat.le_refl _) (by omega))]
    obtain ⟨a, b, f3, hab, e3, e4⟩ := pu_2 (F := fun f i (a : Int32) => f4_quake_62 f a (nI i) p) (G := fun f i (a : Int32) => f5_quake_63 f a (nI i) q) (N := 24) (fun _ a b => a = b) (by
      rintro i a b hi rfl
      refine ⟨a + q 1 (5 + 3 * i + 1), _, rfl, fun f => ?_, fun f => ?_⟩
      · rw [f4_quake_62, if_neg (lge (x := 24) (N := 24) rfl hi (by omega)), x0_2 hr hi, pu_b, nI_1]
      · rw [f5_quake_63, if_neg (lge (x := 24) (N := 24) rfl hi (by omega)), r_high hi, pu_b, nI_1]) 24 0 (0 : Int32) (0 : Int32) (by omega) rfl (f := 400) (by omega)
    rw [show f4_quake_62 400 0 0 p = _ from e3, show f5_quake_63 400 0 0 q = _ from e4, f4_quake_62, if_pos (show (24 : Int32) ≤ nI 24 by decide), f5_quake_63, if_pos (show (24 : Int32) ≤ nI 24 by decide), hab]
    exact Stq.of hr
/-! which house -/
theorem st_which (h : Rel X R) (x1 x2 : Int32) : Stq (f4_which x1 x2 X) (f5_which x1 x2 R) := by
  obtain ⟨n1, n2⟩ := h.2.1.nh
  rw [f4_which, f5_which, e_cell, e_tax]
  by_cases h1 : f4_isCell x1 = 0
  · rw [if_pos h1, if_pos h1]; exact t0 h
  · rw [if_neg h1, if_neg h1]
    by_cases h2 : f4_isTaxAsked x2 = 0
    · rw [if_pos h2, if_pos h2]; exact t0 h
    · rw [if_neg h2, if_neg h2]
      obtain ⟨c, hc, rfl⟩ := cellN h1
      obtain ⟨X1, a1, a2, a3⟩ := h.take
      rw [a1, pu_b]
      have main : ∀ (k i f g : Nat) (M : sl_M) (τ : Nat → Int32), i + k = nh (R 1) → k < f → k + 1 < g → RL M 1 τ → ok τ → (∀ z, (z < 77 ∨ 77 + 3 * i ≤ z) → τ z = R 1 z) → Fr 1 X M → Stq (f4_which_33 (nI c) x2 f (nI i) M) (f5_which_26 (nI c) x2 g (-1) (nI i) R) := by
        intro k
        induction k with
        | zero =>
          intro i f g M τ hi hf hg hM ho hτ hF
          obtain ⟨f, rfl⟩ : ∃ z, f = z + 1 := ⟨f - 1, by omega⟩
          obtain ⟨g, rfl⟩ : ∃ z, g = z + 1 := ⟨g - 1, by omega⟩
          have e : i = nh (R 1) := by omega
          subst e
          rw [f4_which_33, (h.trial hF).n, if_pos (nI_le (Nat.le_refl _) (by omega)), f5_which_26, pu_ld (x := (1 : Int32)) (k := 1) rfl (by omega) (by omega), pu_b, n2, if_pos (nI_le (Nat.le_refl _) (by omega)), f5_which_99, if_neg (by decide)]
          exact t3 (h.trial hF)
        | succ k ih =>
          intro i f g M τ hi hf hg hM ho hτ hF
          obtain ⟨f, rfl⟩ : ∃ z, f = z + 1 := ⟨f - 1, by omega⟩
          obtain ⟨g, rfl⟩ : ∃ z, g = z + 2 := ⟨g - 2, by omega⟩
          have hi8 : i < 8 := by omega
          have hM2 : RL (sl_up M (9 * 1 + 5) i (nI c)) 1 (upd τ (77 + 3 * i) (nI c)) := x_home hM hi8 (nI c)
          have ho2 : ok (upd τ (77 + 3 * i) (nI c)) := ho.u (oa_home hi8 hc)
          have ho3 : ok (upd (R 1) (77 + 3 * i) (nI c)) := h.2.1.u (oa_home hi8 hc)
          have F2 : Fr 1 X (sl_up M 14 i (nI c)) := hF.tr (Fr.up (j := 1) (k := 5) (by omega))
          have et : Stax (upd τ (77 + 3 * i) (nI c)) i = Stax (upd (R 1) (77 + 3 * i) (nI c)) i := by
            refine cg_tax ⟨?_, fun z z1 z2 => ?_, ?_, ?_, ?_⟩ (ho2.hm hi8).1 ?_
            · rw [pu_un (by omega), pu_un (by omega)]; exact hτ 2 (by omega)
            · rw [pu_un (by omega), pu_un (by omega)]; exact hτ z (by omega)
            · rw [pu_us, pu_us]
            · rw [pu_un (by omega), pu_un (by omega)]; exact hτ _ (by omega)
            · rw [pu_un (by omega), pu_un (by omega)]; exact hτ _ (by omega)
            · rw [pu_un (by omega), pu_un (by omega)]; exact hτ 3 (by omega)
          have bk : ∀ t0 : Int32, f5_which_78 (f5_which_26 (nI c) x2 (g + 1)) (nI c) x2 (nI i) (R 1 (77 + 3 * i)) t0 (sM R (upd (R 1) (77 + 3 * i) (nI c))) = f5_which_26 (nI c) x2 (g + 1) t0 (nI (i + 1)) R := by
            intro t0
            rw [f5_which_78, pu_stM (ix7 i) (by omega), pu_b, sM_s, sM_1, pu_uu, pu_self, sM_self, nI_1]
          rw [f4_which_33, (h.trial hF).n, if_neg (nI_ge (by omega) (by omega)), pu_st rfl hi8 (by omega), pu_b, show f0_taxOf 1 (nI i) (sl_up M 14 i (nI c)) = _ from x_tax hM2 ho2 hi8, pu_b, et, f5_which_26, pu_ld (x := (1 : Int32)) (k := 1) rfl (by omega) (by omega), pu_b, n2, if_neg (nI_ge (by omega) (by omega)), if_neg (show ¬ (0 : Int32) ≤ -1 by decide), r_home hi8, pu_b, pu_stM (ix7 i) (by omega), pu_b, r_tax hi8 (by rw [sM_1]; exact ho3), pu_b, sM_1, bk, bk]
          by_cases q : Stax (upd (R 1) (77 + 3 * i) (nI c)) i = x2
          · rw [if_pos q, if_pos q, f5_which_26, pu_ld (x := (1 : Int32)) (k := 1) rfl (by omega) (by omega), pu_b, if_pos (nI_pos' (show i < 2 ^ 31 by omega)), ite_self, f5_which_99, if_pos (nI_pos' (show i < 2 ^ 31 by omega))]
            exact Stq.of (h.trial F2)
          · rw [if_neg q, if_neg q, nI_1]
            exact ih (i + 1) f (g + 1) _ _ (by omega) (by omega) (by omega) hM2 ho2 (fun z hz => by rw [pu_un (by omega)]; exact hτ z (by omega)) F2
      exact main (nh (R 1)) 0 400 400 X1 (R 1) (by omega) (by omega) (by omega) a2 h.2.1 (fun _ _ => rfl) a3
end CE
