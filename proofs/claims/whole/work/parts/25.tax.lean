/-! taxes -/
noncomputable def Stw (σ : Nat → Int32) (h c : Nat) : Int32 := if bt (Ssight σ h &&& (b1 (hm σ h) ^^^ (-1 : Int32))) c then Swor σ c else 0
noncomputable def Stax (σ : Nat → Int32) (h : Nat) : Int32 := smf (Stw σ h) 24 * σ 3 / 10
def nh (σ : Nat → Int32) : Nat := (σ 1).toNatClampNeg
noncomputable def Sall (σ : Nat → Int32) : Int32 := smf (Stax σ) (nh σ)
theorem ok.nh {σ : Nat → Int32} (o : ok σ) : nh σ ≤ 8 ∧ σ 1 = nI (nh σ) := by
  obtain ⟨n, hn, e⟩ := o.2.1
  have : Jvm.Pilot.@@N@@.nh σ = n := by unfold Jvm.Pilot.@@N@@.nh; rw [e, nI_clamp (by omega)]
  rw [this]; exact ⟨hn, e⟩
theorem x_wsl {M : sl_M} {j : Nat} {σ : Nat → Int32} (r : RL M j σ) (o : ok σ) {x : Int32} : ∀ (k c n : Nat), c + k = 24 → k < n → f0_worthSeenBy_22 j M x n (smf (fun c => if bt x c then Swor σ c else 0) c) (nI c) = some (smf (fun c => if bt x c then Swor σ c else 0) 24) := by
  intro k
  induction k with
  | zero =>
    intro c n hc hn
    obtain ⟨n, rfl⟩ : ∃ z, n = z + 1 := ⟨n - 1, by omega⟩
    have e1 : c = 24 := by omega
    subst e1
    rw [f0_worthSeenBy_22, if_pos (by decide)]
  | succ k ih =>
    intro c n hc hn
    obtain ⟨n, rfl⟩ : ∃ z, n = z + 1 := ⟨n - 1, by omega⟩
    rw [f0_worthSeenBy_22, if_neg (lge (x := 24) (N := 24) rfl (by omega) (by omega)), isIn_has, has_bt x (by omega), nI_1]
    have ih' := ih (c + 1) n (by omega) (by omega)
    rw [smf] at ih'
    cases hb : bt x c
    · rw [if_pos (show (if false = true then (1 : Int32) else 0) = 0 from rfl)]
      rw [hb] at ih'
      simpa using ih'
    · rw [if_neg (show ¬ (if true = true then (1 : Int32) else 0) = 0 by decide), x_worth r o (by omega), pu_b]
      rw [hb] at ih'
      simpa using ih'
theorem x_seen {M : sl_M} {j : Nat} {σ : Nat → Int32} (r : RL M j σ) (o : ok σ) {h : Nat} (hh : h < 8) : f0_worthSeenBy j (nI h) M = some (smf (Stw σ h) 24) := by
  obtain ⟨g1, g2⟩ := o.hm hh
  rw [f0_worthSeenBy, x_sight r o hh, pu_b, x_ld5 r hh, pu_b, g2]
  exact x_wsl r o 24 0 400 (by omega) (by omega)
theorem x_tax {M : sl_M} {j : Nat} {σ : Nat → Int32} (r : RL M j σ) (o : ok σ) {h : Nat} (hh : h < 8) : f0_taxOf j (nI h) M = some (Stax σ h) := by
  rw [f0_taxOf, x_seen r o hh, pu_b, r.2.2.2.2.2.1]
  rfl
theorem r_txl {M : sl_M} {x : Int32} : ∀ (k c n : Nat), c + k = 24 → k < n → f5_taxOf_21 M x n (smf (fun c => if bt x c then Swor (M 1) c else 0) c) (nI c) = some (smf (fun c => if bt x c then Swor (M 1) c else 0) 24 * M 1 3 / 10) := by
  intro k
  induction k with
  | zero =>
    intro c n hc hn
    obtain ⟨n, rfl⟩ : ∃ z, n = z + 1 := ⟨n - 1, by omega⟩
    have e1 : c = 24 := by omega
    subst e1
    rw [f5_taxOf_21, if_pos (by decide), pu_ld (x := (3 : Int32)) (k := 3) rfl (by omega) (by omega), pu_b]
  | succ k ih =>
    intro c n hc hn
    obtain ⟨n, rfl⟩ : ∃ z, n = z + 1 := ⟨n - 1, by omega⟩
    rw [f5_taxOf_21, if_neg (lge (x := 24) (N := 24) rfl (by omega) (by omega)), has_bt x (by omega), nI_1]
    have ih' := ih (c + 1) n (by omega) (by omega)
    rw [smf] at ih'
    cases hb : bt x c
    · rw [if_pos (show (if false = true then (1 : Int32) else 0) = 0 from rfl)]
      rw [hb] at ih'
      simpa using ih'
    · rw [if_neg (show ¬ (if true = true then (1 : Int32) else 0) = 0 by decide), r_worth (by omega), pu_b]
      rw [hb] at ih'
      simpa using ih'
theorem r_tax {M : sl_M} {h : Nat} (hh : h < 8) (o : ok (M 1)) : f5_taxOf (nI h) M = some (Stax (M 1) h) := by
  obtain ⟨g1, g2⟩ := o.hm hh
  rw [f5_taxOf, r_sight hh o, pu_b, r_home hh, pu_b, g2]
  exact r_txl 24 0 400 (by omega) (by omega)
theorem x_all {M : sl_M} {j : Nat} {σ : Nat → Int32} (r : RL M j σ) (o : ok σ) : f0_allTax j M = some (Sall σ) := by
  obtain ⟨n1, n2⟩ := o.nh
  have main : ∀ (k h n : Nat), h + k = nh σ → k < n → f0_allTax_4 j M n (smf (Stax σ) h) (nI h) = some (Sall σ) := by
    intro k
    induction k with
    | zero =>
      intro h n hc hn
      obtain ⟨n, rfl⟩ : ∃ z, n = z + 1 := ⟨n - 1, by omega⟩
      have e1 : h = nh σ := by omega
      subst e1
      rw [f0_allTax_4, r.2.2.2.1, n2, if_pos (nI_le (Nat.le_refl _) (by omega))]
      rfl
    | succ k ih =>
      intro h n hc hn
      obtain ⟨n, rfl⟩ : ∃ z, n = z + 1 := ⟨n - 1, by omega⟩
      rw [f0_allTax_4, r.2.2.2.1, n2, if_neg (nI_ge (by omega) (by omega)), x_tax r o (by omega), pu_b, nI_1]
      exact ih (h + 1) n (by omega) (by omega)
  exact main (nh σ) 0 400 (by omega) (by omega)
theorem r_all {M : sl_M} (o : ok (M 1)) : f5_allTax M = some (Sall (M 1)) := by
  obtain ⟨n1, n2⟩ := o.nh
  have main : ∀ (k h n : Nat), h + k = nh (M 1) → k < n → f5_allTax_4 M n (smf (Stax (M 1)) h) (nI h) = some (Sall (M 1)) := by
    intro k
    induction k with
    | zero =>
      intro h n hc hn
      obtain ⟨n, rfl⟩ : ∃ z, n = z + 1 := ⟨n - 1, by omega⟩
      have e1 : h = nh (M 1) := by omega
      subst e1
      rw [f5_allTax_4, pu_ld (x := (1 : Int32)) (k := 1) rfl (by omega) (by omega), pu_b, n2, if_pos (nI_le (Nat.le_refl _) (by omega))]
      rfl
    | succ k ih =>
      intro h n hc hn
      obtain ⟨n, rfl⟩ : ∃ z, n = z + 1 := ⟨n - 1, by omega⟩
      rw [f5_allTax_4, pu_ld (x := (1 : Int32)) (k := 1) rfl (by omega) (by omega), pu_b, n2, if_neg (nI_ge (by omega) (by omega)), r_tax (by omega) o, pu_b, nI_1]
      exact ih (h + 1) n (by omega) (by omega)
  exact main (nh (M 1)) 0 400 (by omega) (by omega)
/-- all sights -/
noncomputable def Sas (σ : Nat → Int32) : Int32 := orf (Ssight σ) (nh σ)
theorem x_as {M : sl_M} {j : Nat} {σ : Nat → Int32} (r : RL M j σ) (o : ok σ) : f0_allSight j M = some (Sas σ) := by
  obtain ⟨n1, n2⟩ := o.nh
  have main : ∀ (k h n : Nat), h + k = nh σ → k < n → f0_allSight_4 j M n (orf (Ssight σ) h) (nI h) = some (Sas σ) := by
    intro k
    induction k with
    | zero =>
      intro h n hc hn
      obtain ⟨n, rfl⟩ : ∃ z, n = z + 1 := ⟨n - 1, by omega⟩
      have e1 : h = nh σ := by omega
      subst e1
      rw [f0_allSight_4, r.2.2.2.1, n2, if_pos (nI_le (Nat.le_refl _) (by omega))]
      rfl
    | succ k ih =>
      intro h n hc hn
      obtain ⟨n, rfl⟩ : ∃ z, n = z + 1 := ⟨n - 1, by omega⟩
      rw [f0_allSight_4, r.2.2.2.1, n2, if_neg (nI_ge (by omega) (by omega)), x_sight r o (by omega), pu_b, nI_1]
      exact ih (h + 1) n (by omega) (by omega)
  exact main (nh σ) 0 400 (by omega) (by omega)
/-! the reference's own row -/
def sM (M : sl_M) (σ : Nat → Int32) : sl_M := fun r => if r = 1 then σ else M r
theorem sM_1 (M : sl_M) (σ : Nat → Int32) : sM M σ 1 = σ := rfl
theorem sM_n (M : sl_M) (σ : Nat → Int32) {r : Nat} (h : r ≠ 1) : sM M σ r = M r := if_neg h
theorem sM_s (M : sl_M) (σ τ : Nat → Int32) : sM (sM M σ) τ = sM M τ := by
  funext r
  unfold sM
  by_cases h : r = 1 <;> simp [h]
theorem sM_self (M : sl_M) : sM M (M 1) = M := by
  funext r
  unfold sM
  by_cases h : r = 1 <;> simp [h]
theorem up_sM (M : sl_M) (i : Nat) (v : Int32) : sl_up M 1 i v = sM M (upd (M 1) i v) := rfl
theorem pu_stM {M : sl_M} {k : Nat} {x v : Int32} (e : x = nI k) (h : k < 111) : sl_st M 1 111 x v = some (sM M (upd (M 1) k v)) := by
  rw [pu_st e h (by omega)]; rfl
theorem r_sets {M : sl_M} {c : Nat} (hc : c < 24) (k : Int32) : f5_sets (nI c) k M = some (sM M (setS (M 1) c k)) := by
  rw [f5_sets, pu_stM (ix5 c) (by omega), pu_b, pu_stM (ix52 c) (by omega), pu_b, sM_s]
  rfl
theorem mn99 {a n : Nat} (ha : a ≤ 99) (hn : n ≤ 100) : sl_mn 99 (nI a + nI n) = nI (min 99 (a + n)) := by
  rw [nI_add, show (99 : Int32) = nI 99 from rfl, mn_nI (by omega) (by omega)]
theorem r_yl {M : sl_M} {σ : Nat → Int32} (o : okC σ) : ∀ (k i n : Nat), i + k = 24 → k < n → f5_year_12 n (nI i) (sM M (upd (agI σ 1 i) 0 (σ 0 + 1))) = some (sM M (Sgrow σ 1)) := by
  intro k
  induction k with
  | zero =>
    intro i n hi hn
    obtain ⟨n, rfl⟩ : ∃ z, n = z + 1 := ⟨n - 1, by omega⟩
    have e1 : i = 24 := by omega
    subst e1
    rw [f5_year_12, if_pos (by decide)]
    rfl
  | succ k ih =>
    intro i n hi hn
    obtain ⟨n, rfl⟩ : ∃ z, n = z + 1 := ⟨n - 1, by omega⟩
    obtain ⟨a, ha, ea⟩ := (o i (by omega)).2.2
    have e0 : (sM M (upd (agI σ 1 i) 0 (σ 0 + 1))) 1 (5 + 3 * i + 2) = nI a := by
      rw [sM_1, pu_un (by omega), agI_at, ea]
    have key : ∀ v : Int32, v = sl_mn 99 (σ (5 + 3 * i + 2) + nI 1) → sM (sM M (upd (agI σ 1 i) 0 (σ 0 + 1))) (upd (upd (agI σ 1 i) 0 (σ 0 + 1)) (5 + 3 * i + 2) v) = sM M (upd (agI σ 1 (i + 1)) 0 (σ 0 + 1)) := by
      intro v hv
      rw [sM_s, ← agI_s, hv]
      congr 1
      funext x
      unfold upd
      by_cases h1 : x = 0
      · subst h1; simp
      · simp [h1]
    rw [f5_year_12, if_neg (lge (x := 24) (N := 24) rfl (by omega) (by omega)), pu_ld (ix52 i) (by omega) (by omega), pu_b, r_age (by omega), pu_b, e0]
    by_cases q : (99 : Int32) ≤ nI a
    · rw [if_pos q, pu_stM (ix52 i) (by omega), pu_b, sM_1, key _ _, nI_1]
      · exact ih (i + 1) n (by omega) (by omega)
      · rw [show (99 : Int32) = nI 99 from rfl, nI_leI (by omega) (by omega)] at q
        rw [ea, mn99 ha (by omega), Int32.add_zero]
        congr 1; omega
    · rw [if_neg q, pu_stM (ix52 i) (by omega), pu_b, sM_1, key _ _, nI_1]
      · exact ih (i + 1) n (by omega) (by omega)
      · rw [show (99 : Int32) = nI 99 from rfl, nI_leI (by omega) (by omega)] at q
        rw [ea, mn99 ha (by omega), nI_1]
        congr 1; omega
theorem r_year {M : sl_M} (o : okC (M 1)) : f5_year M = some (sM M (Sgrow (M 1) 1)) := by
  rw [f5_year, pu_ld (x := (0 : Int32)) (k := 0) rfl (by omega) (by omega), pu_b, pu_stM (x := (0 : Int32)) (k := 0) rfl (by omega), pu_b]
  have := r_yl (M := M) o 24 0 400 (by omega) (by omega)
  rw [agI_0] at this
  exact this
theorem Sg_age (σ : Nat → Int32) (n : Nat) {c : Nat} (hc : c < 24) : Sgrow σ n (5 + 3 * c + 2) = sl_mn 99 (σ (5 + 3 * c + 2) + nI n) := by
  unfold Sgrow
  rw [pu_un (by omega)]
  unfold agI
  rw [if_pos (by omega)]
theorem Sg_0 (σ : Nat → Int32) (n : Nat) : Sgrow σ n 0 = σ 0 + nI n := pu_us
theorem Sg_n (σ : Nat → Int32) (n : Nat) {k : Nat} (h0 : k ≠ 0) (h : ¬ (7 ≤ k ∧ (k - 7) % 3 = 0 ∧ k < 79)) : Sgrow σ n k = σ k := by
  unfold Sgrow
  rw [pu_un h0]
  unfold agI
  rw [if_neg (by omega)]
theorem Sg_S {σ : Nat → Int32} (o : okC σ) {n : Nat} (hn : n ≤ 100) : Sgrow (Sgrow σ n) 1 = Sgrow σ (n + 1) := by
  funext k
  by_cases h0 : k = 0
  · subst h0
    rw [Sg_0, Sg_0, Sg_0, Int32.add_assoc, nI_add]
  · by_cases h : 7 ≤ k ∧ (k - 7) % 3 = 0 ∧ k < 79
    · obtain ⟨c, hc, rfl⟩ : ∃ c, c < 24 ∧ k = 5 + 3 * c + 2 := ⟨(k - 7) / 3, by omega, by omega⟩
      obtain ⟨a, ha, ea⟩ := (o c hc).2.2
      rw [Sg_age _ _ hc, Sg_age _ _ hc, Sg_age _ _ hc, ea, mn99 ha hn, mn99 (by omega) (by omega)]
      by_cases q : n + 1 ≤ 100
      · rw [mn99 ha q]; congr 1; omega
      · have : n = 100 := by omega
        subst this
        rw [nI_add, show (99 : Int32) = nI 99 from rfl, mn_nI (by omega) (by omega)]
        exact congrArg nI (by omega)
    · rw [Sg_n _ _ h0 h, Sg_n _ _ h0 h, Sg_n _ _ h0 h]
theorem Sg_okC {σ : Nat → Int32} (o : okC σ) {n : Nat} (hn : n ≤ 100) : okC (Sgrow σ n) := by
  intro c hc
  obtain ⟨h1, h2, a, ha, ea⟩ := o c hc
  refine ⟨?_, ?_, ?_⟩
  · rw [Sg_n _ _ (by omega) (by omega)]; exact h1
  · rw [Sg_n _ _ (by omega) (by omega)]; exact h2
  · exact ⟨min 99 (a + n), by omega, by rw [Sg_age _ _ hc, ea, mn99 ha hn]⟩
theorem Sg_z {σ : Nat → Int32} (o : okC σ) : Sgrow σ 0 = σ := by
  funext k
  by_cases h0 : k = 0
  · subst h0
    rw [Sg_0, show nI 0 = 0 from rfl, Int32.add_zero]
  · by_cases h : 7 ≤ k ∧ (k - 7) % 3 = 0 ∧ k < 79
    · obtain ⟨c, hc, rfl⟩ : ∃ c, c < 24 ∧ k = 5 + 3 * c + 2 := ⟨(k - 7) / 3, by omega, by omega⟩
      obtain ⟨a, ha, ea⟩ := (o c hc).2.2
      rw [Sg_age _ _ hc, ea, mn99 ha (by omega)]; congr 1; omega
    · rw [Sg_n _ _ h0 h]
theorem r_years {M : sl_M} (o : okC (M 1)) {n : Nat} (hn : n ≤ 100) : f5_yearsGo (nI n) M = some (sM M (Sgrow (M 1) n)) := by
  have main : ∀ (k i f : Nat), i + k = n → k < f → f5_yearsGo_2 (nI n) f (nI i) (sM M (Sgrow (M 1) i)) = some (sM M (Sgrow (M 1) n)) := by
    intro k
    induction k with
    | zero =>
      intro i f hi hf
      obtain ⟨f, rfl⟩ : ∃ z, f = z + 1 := ⟨f - 1, by omega⟩
      have e1 : i = n := by omega
      subst e1
      rw [f5_yearsGo_2, if_pos (nI_le (Nat.le_refl _) (by omega))]
    | succ k ih =>
      intro i f hi hf
      obtain ⟨f, rfl⟩ : ∃ z, f = z + 1 := ⟨f - 1, by omega⟩
      rw [f5_yearsGo_2, if_neg (nI_ge (by omega) (by omega)), r_year (by rw [sM_1]; exact Sg_okC o (by omega)), pu_b, sM_1, sM_s, Sg_S o (by omega), nI_1]
      exact ih (i + 1) f (by omega) (by omega)
  have := main n 0 400 (by omega) (by omega)
  rw [Sg_z o, sM_self] at this
  exact this
/-! what is tried and put back -/
def oM (M : sl_M) : sl_M := fun r => if r = 3 then (fun k => if k < 111 then M 1 k else M 3 k) else M r
theorem oM_n (M : sl_M) {r : Nat} (h : r ≠ 3) : oM M r = M r := if_neg h
theorem r_puts (M : sl_M) : f5_puts M = some (oM M) := by
  have main : ∀ (k i f : Nat), i + k = 111 → k < f → f5_puts_2 f (nI i) (fun r => if r = 3 then (fun k => if k < i then M 1 k else M 3 k) else M r) = some (oM M) := by
    intro k
    induction k with
    | zero =>
      intro i f hi hf
      obtain ⟨f, rfl⟩ : ∃ z, f = z + 1 := ⟨f - 1, by omega⟩
      have e1 : i = 111 := by omega
      subst e1
      rw [f5_puts_2, if_pos (by decide)]
      rfl
    | succ k ih =>
      intro i f hi hf
      obtain ⟨f, rfl⟩ : ∃ z, f = z + 1 := ⟨f - 1, by omega⟩
      rw [f5_puts_2, if_neg (lge (x := 111) (N := 111) rfl (by omega) (by omega)), pu_ld rfl (show i < 111 by omega) (by omega), pu_b, pu_st rfl (show i < 111 by omega) (by omega), pu_b, nI_1, ← ih (i + 1) f (by omega) (by omega)]
      congr 1
      funext r
      by_cases h3 : r = 3
      · subst h3
        rw [pu_ups]
        funext x
        unfold upd
        by_cases hx : x = i
        · subst hx; simp
        · by_cases h4 : x < i
          · have : x < i + 1 := by omega
            simp [hx, h4, this]
          · have : ¬ x < i + 1 := by omega
            simp [hx, h4, this]
      · rw [pu_upn h3]; simp [h3]
  have := main 111 0 400 (by omega) (by omega)
  rw [show (fun r => if r = 3 then (fun k => if k < 0 then M 1 k else M 3 k) else M r) = M from ?_] at this
  · exact this
  · funext r
    by_cases h3 : r = 3
    · subst h3; simp
    · simp [h3]
theorem r_back (M : sl_M) : f5_putsBack M = some (sM M (fun k => if k < 111 then M 3 k else M 1 k)) := by
  have main : ∀ (k i f : Nat), i + k = 111 → k < f → f5_putsBack_2 f (nI i) (sM M (fun k => if k < i then M 3 k else M 1 k)) = some (sM M (fun k => if k < 111 then M 3 k else M 1 k)) := by
    intro k
    induction k with
    | zero =>
      intro i f hi hf
      obtain ⟨f, rfl⟩ : ∃ z, f = z + 1 := ⟨f - 1, by omega⟩
      have e1 : i = 111 := by omega
      subst e1
      rw [f5_putsBack_2, if_pos (by decide)]
    | succ k ih =>
      intro i f hi hf
      obtain ⟨f, rfl⟩ : ∃ z, f = z + 1 := ⟨f - 1, by omega⟩
      rw [f5_putsBack_2, if_neg (lge (x := 111) (N := 111) rfl (by omega) (by omega)), pu_ld rfl (show i < 111 by omega) (by omega), pu_b, pu_stM rfl (show i < 111 by omega), pu_b, nI_1, ← ih (i + 1) f (by omega) (by omega), sM_s, sM_1, sM_n _ _ (by omega)]
      congr 2
      funext x
      unfold upd
      by_cases hx : x = i
      · subst hx; simp
      · by_cases h4 : x < i
        · have : x < i + 1 := by omega
          simp [hx, h4, this]
        · have : ¬ x < i + 1 := by omega
          simp [hx, h4, this]
  have := main 111 0 400 (by omega) (by omega)
  rw [show (fun k => if k < 0 then M 3 k else M 1 k) = M 1 from ?_, sM_self] at this
  · exact this
  · funext k; simp
/-- behind a trial: the row as it was -/
theorem r_tried {M : sl_M} {τ : Nat → Int32} (h : ∀ k, 111 ≤ k → τ k = M 1 k) : f5_putsBack (sM (oM M) τ) = some (oM M) := by
  rw [r_back, sM_s]
  congr 1
  funext r
  by_cases h1 : r = 1
  · subst h1
    rw [sM_1, oM_n M (by omega)]
    funext k
    rw [sM_1, sM_n _ _ (by omega)]
    show (if k < 111 then (if 3 = 3 then (fun k => if k < 111 then M 1 k else M 3 k) else M 3) k else τ k) = M 1 k
    by_cases hk : k < 111
    · simp [hk]
    · rw [if_neg hk]; exact h k (by omega)
  · rw [sM_n _ _ h1]
