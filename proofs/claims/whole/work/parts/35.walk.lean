/-! the widest floor, the fewest windows -/
section CH
variable {X R : sl_M}
theorem st_widest (h : Rel X R) (x1 : Int32) : Stq (f4_widest x1 X) (f5_widest x1 R) := by
  rw [f4_widest, f5_widest, r_isHouse, pu_b, h.house]
  by_cases h1 : f4_isWithin x1 0 (R 1 1 - 1) = 0
  · rw [if_pos h1, if_pos h1]; exact t0 h
  · rw [if_neg h1, if_neg h1]
    obtain ⟨a, -, ha, rfl⟩ := houseN h.2.1 h1
    obtain ⟨X0, t1, t2, t3⟩ := h.take
    obtain ⟨p, q, f2, ⟨-, hb, hF, ⟨v, hv⟩, ⟨w, hw⟩⟩, e1, e2⟩ := pu_2 (F := fun n i (a1 : Int32 × Int32 × sl_M) => f4_widest_32 (nI a) n a1.1 a1.2.1 (nI i) a1.2.2) (G := fun n i (a1 : Int32 × Int32 × sl_M) => f5_widest_37 (nI a) (R 1 (77 + 3 * a + 1)) n a1.1 a1.2.1 (nI i) a1.2.2) (N := 41)
      (fun i a1 b1 => 1 ≤ i ∧ ((i = 1 ∧ a1.2.1 = 0 ∧ b1.2.1 = 0) ∨ (a1.1 = b1.1 ∧ a1.2.1 = b1.2.1 ∧ 1 < i)) ∧ Fr 1 X a1.2.2 ∧ (∃ v, RL a1.2.2 1 (upd (R 1) (77 + 3 * a + 1) v)) ∧ (∃ v, b1.2.2 = sM R (upd (R 1) (77 + 3 * a + 1) v))) (by
        rintro i ⟨b, l, M⟩ ⟨b2, l2, M2⟩ hi ⟨h1, hb, hF, ⟨v, hv⟩, ⟨w, hw⟩⟩
        dsimp only at hb hF hv hw
        have ho : ok (upd (R 1) (77 + 3 * a + 1) (nI i)) := h.2.1.u (oa_floor ha (by omega))
        have hv2 : RL (sl_up M (9 * 1 + 6) a (nI i)) 1 (upd (R 1) (77 + 3 * a + 1) (nI i)) := by
          have := x_floor hv ha (nI i)
          rwa [pu_uu] at this
        obtain ⟨g, hg, eg⟩ := Ssight_n (upd (R 1) (77 + 3 * a + 1) (nI i)) a
        have gp : 0 < pcf 24 g := pc_pos (Ssight_p (ho.hm ha).1 eg) hg
        have gl : pcf 24 g ≤ 24 := pc_le 24 24 g hg
        have x1 : ∀ n, f4_widest_32 (nI a) (n + 1) b l (nI i) M = (if nI (pcf 24 g) ≤ l then f4_widest_32 (nI a) n b l (nI (i + 1)) (sl_up M 15 a (nI i)) else f4_widest_32 (nI a) n (nI i) (nI (pcf 24 g)) (nI (i + 1)) (sl_up M 15 a (nI i))) := by
          intro n
          rw [f4_widest_32, if_neg (lnl (x := 40) (N := 40) rfl (by omega) (by omega)), pu_st rfl ha (by omega), pu_b, show f0_sightOf 1 (nI a) (sl_up M 15 a (nI i)) = _ from x_sight hv2 ho ha, pu_b, eg, j_ones hg, nI_1]
        have y1 : ∀ n, f5_widest_37 (nI a) (R 1 (77 + 3 * a + 1)) (n + 1) b2 l2 (nI i) M2 = (if nI (pcf 24 g) ≤ l2 then f5_widest_37 (nI a) (R 1 (77 + 3 * a + 1)) n b2 l2 (nI (i + 1)) (sM R (upd (R 1) (77 + 3 * a + 1) (nI i))) else f5_widest_37 (nI a) (R 1 (77 + 3 * a + 1)) n (nI i) (nI (pcf 24 g)) (nI (i + 1)) (sM R (upd (R 1) (77 + 3 * a + 1) (nI i)))) := by
          intro n
          rw [f5_widest_37, if_neg (lnl (x := 40) (N := 40) rfl (by omega) (by omega)), pu_stM (ix71 a) (by omega), pu_b, hw, sM_s, sM_1, pu_uu, r_sight ha (by rw [sM_1]; exact ho), pu_b, sM_1, eg, r_ones hg, pu_b, f5_widest_82, f5_widest_82, nI_1]
          by_cases z : nI (pcf 24 g) ≤ l2
          · rw [if_pos z, if_pos z, if_pos z]
          · rw [if_neg z, if_neg z, if_neg z]
        have F2 : Fr 1 X (sl_up M 15 a (nI i)) := hF.tr (Fr.up (j := 1) (k := 6) (by omega))
        rcases hb with ⟨rfl, rfl, rfl⟩ | ⟨rfl, rfl, hi2⟩
        · have z : ¬ nI (pcf 24 g) ≤ 0 := nI_nle gp (by omega)
          refine ⟨(nI 1, nI (pcf 24 g), sl_up M 15 a (nI 1)), (nI 1, nI (pcf 24 g), sM R (upd (R 1) (77 + 3 * a + 1) (nI 1))), ⟨by omega, Or.inr ⟨rfl, rfl, by omega⟩, F2, ⟨_, hv2⟩, ⟨_, rfl⟩⟩, fun n => ?_, fun n => ?_⟩
          · dsimp only; rw [x1 n, if_neg z]
          · dsimp only; rw [y1 n, if_neg z]
        · by_cases z : nI (pcf 24 g) ≤ l
          · refine ⟨(b, l, sl_up M 15 a (nI i)), (b, l, sM R (upd (R 1) (77 + 3 * a + 1) (nI i))), ⟨by omega, Or.inr ⟨rfl, rfl, by omega⟩, F2, ⟨_, hv2⟩, ⟨_, rfl⟩⟩, fun n => ?_, fun n => ?_⟩
            · dsimp only; rw [x1 n, if_pos z]
            · dsimp only; rw [y1 n, if_pos z]
          · refine ⟨(nI i, nI (pcf 24 g), sl_up M 15 a (nI i)), (nI i, nI (pcf 24 g), sM R (upd (R 1) (77 + 3 * a + 1) (nI i))), ⟨by omega, Or.inr ⟨rfl, rfl, by omega⟩, F2, ⟨_, hv2⟩, ⟨_, rfl⟩⟩, fun n => ?_, fun n => ?_⟩
            · dsimp only; rw [x1 n, if_neg z]
            · dsimp only; rw [y1 n, if_neg z]) 40 1 ((1 : Int32), (0 : Int32), X0) ((0 : Int32), (0 : Int32), R) (by omega) ⟨by omega, Or.inl ⟨rfl, rfl, rfl⟩, t3, ⟨_, by rw [pu_self]; exact t2⟩, ⟨_, by rw [pu_self, sM_self]⟩⟩ (f := 400) (by omega)
    dsimp only at e1 e2
    rcases hb with ⟨q1, -⟩ | ⟨q1, q2, -⟩
    · omega
    · rw [t1, pu_b, show f4_widest_32 (nI a) 400 1 0 1 X0 = _ from e1, f4_widest_32, if_pos (by decide), q1]
      rw [pu_ld (ix71 a) (by omega) (by omega), pu_b, show f5_widest_37 (nI a) (R 1 (77 + 3 * a + 1)) 400 0 0 1 R = _ from e2, f5_widest_37, if_pos (by decide), pu_stM (ix71 a) (by omega), pu_b, hw, sM_s, sM_1, pu_uu, pu_self, sM_self]
      exact Stq.of (h.trial hF)
/-- what the houses of a set see -/
noncomputable def mor (σ : Nat → Int32) (j : Nat) (n : Nat) : Int32 := orf (fun k => if bt (nI j) k then Ssight σ k else 0) n
theorem x_sightsOf {M : sl_M} {n : Nat} (hn : n ≤ 8) (e8 : M 0 8 = nI n) {σ : Nat → Int32} (hm : ∀ k, k < n → M 36 k = Ssight σ k) (j : Nat) : f4_sightsOf (nI j) M = some (mor σ j n) := by
  have main : ∀ (k i f : Nat), i + k = n → k < f → f4_sightsOf_4 M (nI j) f (mor σ j i) (nI i) = some (mor σ j n) := by
    intro k
    induction k with
    | zero =>
      intro i f hi hf
      obtain ⟨f, rfl⟩ : ∃ z, f = z + 1 := ⟨f - 1, by omega⟩
      have e : i = n := by omega
      subst e
      rw [f4_sightsOf_4, e8, if_pos (nI_le (Nat.le_refl _) (by omega))]
    | succ k ih =>
      intro i f hi hf
      obtain ⟨f, rfl⟩ : ∃ z, f = z + 1 := ⟨f - 1, by omega⟩
      have e : mor σ j (i + 1) = mor σ j i ||| (if bt (nI j) i then Ssight σ i else 0) := rfl
      have := ih (i + 1) f (by omega) (by omega)
      rw [f4_sightsOf_4, e8, if_neg (nI_ge (by omega) (by omega)), isIn_has, has_bt _ (by omega), nI_1]
      rw [e] at this
      by_cases q : bt (nI j) i = true
      · rw [if_pos q, if_neg (by decide), pu_ld rfl (show i < 8 by omega) (by omega), pu_b, hm i (by omega)]
        rw [if_pos q] at this; exact this
      · rw [if_neg q, if_pos rfl]
        rw [if_neg q, or_0] at this; exact this
  exact main n 0 400 (by omega) (by omega)
theorem bt_full {n : Nat} (hn : n ≤ 8) {k : Nat} (hk : k < n) : bt (nI (2 ^ n - 1)) k = true := (by decide +kernel : ∀ n, n < 9 → ∀ k, k < n → bt (nI (2 ^ n - 1)) k = true) n (by omega) k hk
theorem orf_cg {q q2 : Nat → Int32} : ∀ n, (∀ k, k < n → q k = q2 k) → orf q n = orf q2 n := by
  intro n
  induction n with
  | zero => intro _; rfl
  | succ n ih => intro h; rw [orf, orf, ih (fun k hk => h k (by omega)), h n (by omega)]
theorem mor_full (σ : Nat → Int32) {n : Nat} (hn : n ≤ 8) : mor σ (2 ^ n - 1) n = orf (Ssight σ) n := orf_cg n (fun k hk => if_pos (bt_full hn hk))
theorem pw_n : ∀ n, n < 9 → (1 : Int32) <<< (nI n &&& 31) = nI (2 ^ n) := by decide +kernel
theorem st_walk (h : Rel X R) : Stq (f4_walk X) (f5_walk R) := by
  obtain ⟨n1, n2⟩ := h.2.1.nh
  generalize hn : nh (R 1) = n at *
  have p1 : 0 < 2 ^ n := Nat.two_pow_pos n
  have p2 : 2 ^ n ≤ 256 := Nat.le_trans (Nat.pow_le_pow_right (by omega) n1) (by decide)
  -- the class marks the sights
  obtain ⟨X1, f2, ⟨m1, m2⟩, e1⟩ := pu_1 (F := fun f i (M : sl_M) => f4_walk_2 f (nI i) M) (N := n) (fun i M => (∀ r, r ≠ 36 → M r = X r) ∧ ∀ k, k < i → M 36 k = Ssight (R 1) k) (by
    rintro i M hi ⟨m1, m2⟩
    have hL : RL M 0 (R 1) := h.1.same (fun k hk => m1 _ (by omega))
    refine ⟨sl_up M 36 i (Ssight (R 1) i), ⟨fun r hr => by rw [pu_upn hr]; exact m1 r hr, fun k hk => ?_⟩, fun f => ?_⟩
    · rw [pu_ups]
      by_cases q : k = i
      · subst q; exact pu_us
      · rw [pu_un q]; exact m2 k (by omega)

    · rw [f4_walk_2, m1 0 (by omega), h.n, hn, if_neg (nI_ge hi (by omega)), x_sight hL h.2.1 (by omega), pu_b, pu_st rfl (show i < 8 by omega) (by omega), pu_b, nI_1]) n 0 X (by omega) ⟨fun _ _ => rfl, fun k hk => by omega⟩ (f := 400) (by omega)
  have e8 : X1 0 8 = nI n := by rw [m1 0 (by omega), h.n, hn]
  obtain ⟨R1, r1, r2, r3⟩ := r_find h.2.1
  have hr1 : R1 1 = R 1 := r2 1 (by omega)
  have hs : Sas (R 1) = mor (R 1) (2 ^ n - 1) n := by rw [mor_full _ n1, Sas, hn]

  rw [f4_walk, show f4_walk_2 400 0 X = _ from e1, f4_walk_2, e8, if_pos (nI_le (Nat.le_refl _) (by omega)), pw_n n (by omega), show nI (2 ^ n) - 1 = nI (2 ^ n - 1) from pk_sub (b := 1) (by omega), x_sightsOf n1 e8 m2, pu_b, f5_walk, r1, pu_b]
  dsimp only
  have hin : ∀ (kk : Int32 → Int32 → sl_M → Option (Int32 × sl_M)) (x2 : Int32) (j : Nat), f5_walk_27 kk (Sas (R 1)) x2 (nI j) 400 0 0 R1 = (if mor (R 1) j n = Sas (R 1) then (if x2 < 0 then f5_walk_90 kk (Sas (R 1)) (nI j) R1 else (f5_ones (nI j)).bind fun r5 => (f5_ones x2).bind fun r6 => (if r6 ≤ r5 then kk x2 (nI j + (1 : Int32)) R1 else f5_walk_90 kk (Sas (R 1)) (nI j) R1)) else kk x2 (nI j + (1 : Int32)) R1) := by
    intro kk x2 j
    have main : ∀ (k i f : Nat), i + k = n → k < f → f5_walk_27 kk (Sas (R 1)) x2 (nI j) f (mor (R 1) j i) (nI i) R1 = (if mor (R 1) j n = Sas (R 1) then (if x2 < 0 then f5_walk_90 kk (Sas (R 1)) (nI j) R1 else (f5_ones (nI j)).bind fun r5 => (f5_ones x2).bind fun r6 => (if r6 ≤ r5 then kk x2 (nI j + (1 : Int32)) R1 else f5_walk_90 kk (Sas (R 1)) (nI j) R1)) else kk x2 (nI j + (1 : Int32)) R1) := by
      intro k
      induction k with
      | zero =>
        intro i f hi hf
        obtain ⟨f, rfl⟩ : ∃ z, f = z + 1 := ⟨f - 1, by omega⟩
        have e : i = n := by omega
        subst e
        rw [f5_walk_27, hr1, pu_ld (x := (1 : Int32)) (k := 1) rfl (by omega) (by omega), pu_b, n2, if_pos (nI_le (Nat.le_refl _) (by omega))]
      | succ k ih =>
        intro i f hi hf
        obtain ⟨f, rfl⟩ : ∃ z, f = z + 1 := ⟨f - 1, by omega⟩
        have e : mor (R 1) j (i + 1) = mor (R 1) j i ||| (if bt (nI j) i then Ssight (R 1) i else 0) := rfl
        have := ih (i + 1) f (by omega) (by omega)
        rw [f5_walk_27, hr1, pu_ld (x := (1 : Int32)) (k := 1) rfl (by omega) (by omega), pu_b, n2, if_neg (nI_ge (by omega) (by omega)), has_bt _ (by omega), nI_1]
        rw [e] at this
        by_cases q : bt (nI j) i = true
        · rw [if_pos q, if_neg (by decide), pu_ld rfl (show i < 8 by omega) (by omega), pu_b, r3 i (by omega)]
          rw [if_pos q] at this; exact this
        · rw [if_neg q, if_pos rfl]
          rw [if_neg q] at this; exact this
    exact main n 0 400 (by omega) (by omega)
  obtain ⟨p, q, f3, hI, g1, g2⟩ := pu_2 (F := fun f i (a1 : Int32 × Int32) => f4_walk_64 (mor (R 1) (2 ^ n - 1) n) f a1.1 a1.2 (nI i) X1) (G := fun f i (x2 : Int32) => f5_walk_9 (Sas (R 1)) f x2 (nI i) R1) (N := 2 ^ n)
    (fun i a1 b1 => ((∀ j, j < i → ¬ mor (R 1) j n = Sas (R 1)) ∧ a1.2 = nI (n + 1) ∧ b1 = -1) ∨ ∃ k, k < 2 ^ n ∧ a1.1 = nI k ∧ b1 = nI k ∧ a1.2 = nI (pcf 24 k)) (by
      rintro i ⟨b, l⟩ b2 hi hb
      dsimp only at hb
      have hi24 : i < 2 ^ 24 := by omega
      have li : pcf 24 i ≤ n := pc_le 24 n i hi
      have x1 : ∀ f, f4_walk_64 (mor (R 1) (2 ^ n - 1) n) (f + 1) b l (nI i) X1 = (if l ≤ nI (pcf 24 i) then f4_walk_64 (mor (R 1) (2 ^ n - 1) n) f b l (nI (i + 1)) X1 else (if mor (R 1) i n = mor (R 1) (2 ^ n - 1) n then f4_walk_64 (mor (R 1) (2 ^ n - 1) n) f (nI i) (nI (pcf 24 i)) (nI (i + 1)) X1 else f4_walk_64 (mor (R 1) (2 ^ n - 1) n) f b l (nI (i + 1)) X1)) := by
        intro f
        rw [f4_walk_64, e8, pw_n n (by omega), if_neg (nI_ge hi (by omega)), j_ones hi24, x_sightsOf n1 e8 m2, pu_b, nI_1]
      have y1 : ∀ f, f5_walk_9 (Sas (R 1)) (f + 1) b2 (nI i) R1 = (if mor (R 1) i n = Sas (R 1) then (if b2 < 0 then f5_walk_9 (Sas (R 1)) f (nI i) (nI (i + 1)) R1 else (f5_ones b2).bind fun r6 => (if r6 ≤ nI (pcf 24 i) then f5_walk_9 (Sas (R 1)) f b2 (nI (i + 1)) R1 else f5_walk_9 (Sas (R 1)) f (nI i) (nI (i + 1)) R1)) else f5_walk_9 (Sas (R 1)) f b2 (nI (i + 1)) R1) := by
        intro f
        rw [f5_walk_9, hr1, pu_ld (x := (1 : Int32)) (k := 1) rfl (by omega) (by omega), pu_b, n2, pw_n n (by omega), if_neg (nI_ge hi (by omega)), hin, f5_walk_90, nI_1, r_ones hi24, pu_b]
      rw [hs] at *
      rcases hb with ⟨z1, rfl, rfl⟩ | ⟨k, k1, rfl, rfl, rfl⟩
      · have w : ¬ nI (n + 1) ≤ nI (pcf 24 i) := nI_ge (by omega) (by omega)
        by_cases q : mor (R 1) i n = mor (R 1) (2 ^ n - 1) n
        · refine ⟨(nI i, nI (pcf 24 i)), nI i, Or.inr ⟨i, hi, rfl, rfl, rfl⟩, fun f => ?_, fun f => ?_⟩
          · dsimp only; rw [x1 f, if_neg w, if_pos q]
          · rw [y1 f, if_pos q, if_pos (by decide)]
        · refine ⟨(b, nI (n + 1)), -1, Or.inl ⟨fun j hj => ?_, rfl, rfl⟩, fun f => ?_, fun f => ?_⟩
          · by_cases z : j = i
            · subst z; exact q
            · exact z1 j (by omega)
          · dsimp only; rw [x1 f, if_neg w, if_neg q]
          · rw [y1 f, if_neg q]
      · have k24 : k < 2 ^ 24 := by omega
        have kl : pcf 24 k ≤ 24 := pc_le 24 24 k k24
        by_cases q : mor (R 1) i n = mor (R 1) (2 ^ n - 1) n
        · by_cases w : nI (pcf 24 k) ≤ nI (pcf 24 i)
          · refine ⟨(nI k, nI (pcf 24 k)), nI k, Or.inr ⟨k, k1, rfl, rfl, rfl⟩, fun f => ?_, fun f => ?_⟩
            · dsimp only; rw [x1 f, if_pos w]
            · rw [y1 f, if_pos q, if_neg (nI_pos (by omega)), r_ones k24, pu_b, if_pos w]
          · refine ⟨(nI i, nI (pcf 24 i)), nI i, Or.inr ⟨i, hi, rfl, rfl, rfl⟩, fun f => ?_, fun f => ?_⟩
            · dsimp only; rw [x1 f, if_neg w, if_pos q]
            · rw [y1 f, if_pos q, if_neg (nI_pos (by omega)), r_ones k24, pu_b, if_neg w]
        · refine ⟨(nI k, nI (pcf 24 k)), nI k, Or.inr ⟨k, k1, rfl, rfl, rfl⟩, fun f => ?_, fun f => ?_⟩
          · dsimp only; rw [x1 f, if_neg q, ite_self]
          · rw [y1 f, if_neg q]) (2 ^ n) 0 ((0 : Int32), nI n + 1) (-1 : Int32) (by omega) (Or.inl ⟨fun j hj => by omega, nI_1 n, rfl⟩) (f := 400) (by omega)
  dsimp only at g1
  rw [show f4_walk_64 (mor (R 1) (2 ^ n - 1) n) 400 0 (nI n + 1) 0 X1 = _ from g1, show f5_walk_9 (Sas (R 1)) 400 (-1) 0 R1 = _ from g2, f4_walk_64, e8, pw_n n (by omega), if_pos (nI_le (Nat.le_refl _) (by omega)), f5_walk_9, hr1, pu_ld (x := (1 : Int32)) (k := 1) rfl (by omega) (by omega), pu_b, n2, pw_n n (by omega), if_pos (nI_le (Nat.le_refl _) (by omega))]
  rcases hI with ⟨z1, -⟩ | ⟨k, k1, q1, q2, -⟩
  · exact absurd hs.symm (z1 (2 ^ n - 1) (by omega))
  · rw [q1, q2]
    exact Stq.of ((h.keep (fun r hr => m1 r (by omega)) (fun _ _ => rfl) rfl rfl).six r2)
end CH
