/-! numbers within their bounds, place by place -/
def okAt (i : Nat) (v : Int32) : Prop := (i = 0 → ∃ y, y ≤ 999 ∧ v = nI y) ∧ (i = 1 → ∃ n, n ≤ 8 ∧ v = nI n) ∧ (i = 2 → ∃ z, 1 ≤ z ∧ z ≤ 23 ∧ v = nI z) ∧ (i = 3 → ∃ r, r ≤ 99 ∧ v = nI r) ∧
  (∀ c, c < 24 → i = 5 + 3 * c → ∃ k, k < 7 ∧ v = nI k) ∧ (∀ c, c < 24 → i = 5 + 3 * c + 1 → ∃ k, k ≤ 99 ∧ v = nI k) ∧ (∀ c, c < 24 → i = 5 + 3 * c + 2 → ∃ k, k ≤ 99 ∧ v = nI k) ∧
  (∀ h, h < 8 → i = 77 + 3 * h → ∃ k, k < 24 ∧ v = nI k) ∧ (∀ h, h < 8 → i = 77 + 3 * h + 1 → ∃ k, k ≤ 40 ∧ v = nI k) ∧ (∀ h, h < 8 → i = 77 + 3 * h + 2 → ∃ k, k < 4 ∧ v = nI k) ∧ (∀ k, k < 10 → i = 101 + k → v = -1 ∨ ∃ c, c < 24 ∧ v = nI c)
theorem ok_iff {σ : Nat → Int32} : ok σ ↔ ∀ i, okAt i (σ i) := by
  constructor
  · intro o i
    refine ⟨?_, ?_, ?_, ?_, ?_, ?_, ?_, ?_, ?_, ?_, ?_⟩
    · rintro rfl; exact o.1
    · rintro rfl; exact o.2.1
    · rintro rfl; exact o.2.2.1
    · rintro rfl; exact o.2.2.2.1
    · rintro c hc rfl; exact (o.2.2.2.2.1 c hc).1
    · rintro c hc rfl; exact (o.2.2.2.2.1 c hc).2.1
    · rintro c hc rfl; exact (o.2.2.2.2.1 c hc).2.2
    · rintro c hc rfl; exact (o.2.2.2.2.2.1 c hc).1
    · rintro c hc rfl; exact (o.2.2.2.2.2.1 c hc).2.1
    · rintro c hc rfl; exact (o.2.2.2.2.2.1 c hc).2.2
    · rintro c hc rfl; exact o.2.2.2.2.2.2 c hc
  · intro h
    exact ⟨(h 0).1 rfl, (h 1).2.1 rfl, (h 2).2.2.1 rfl, (h 3).2.2.2.1 rfl, fun c hc => ⟨(h _).2.2.2.2.1 c hc rfl, (h _).2.2.2.2.2.1 c hc rfl, (h _).2.2.2.2.2.2.1 c hc rfl⟩, fun c hc => ⟨(h _).2.2.2.2.2.2.2.1 c hc rfl, (h _).2.2.2.2.2.2.2.2.1 c hc rfl, (h _).2.2.2.2.2.2.2.2.2.1 c hc rfl⟩, fun c hc => (h _).2.2.2.2.2.2.2.2.2.2 c hc rfl⟩
theorem ok.u {σ : Nat → Int32} (o : ok σ) {i : Nat} {v : Int32} (h : okAt i v) : ok (upd σ i v) := by
  rw [ok_iff] at o ⊢
  intro k
  by_cases q : k = i
  · subst q; rw [pu_us]; exact h
  · rw [pu_un q]; exact o k
theorem oa_kind {c k : Nat} (hc : c < 24) (hk : k < 7) : okAt (5 + 3 * c) (nI k) := by
  refine ⟨?_, ?_, ?_, ?_, ?_, ?_, ?_, ?_, ?_, ?_, ?_⟩ <;> intros <;> first | (exfalso; omega) | exact ⟨k, by omega, rfl⟩
theorem oa_high {c k : Nat} (hc : c < 24) (hk : k ≤ 99) : okAt (5 + 3 * c + 1) (nI k) := by
  refine ⟨?_, ?_, ?_, ?_, ?_, ?_, ?_, ?_, ?_, ?_, ?_⟩ <;> intros <;> first | (exfalso; omega) | exact ⟨k, by omega, rfl⟩
theorem oa_age {c k : Nat} (hc : c < 24) (hk : k ≤ 99) : okAt (5 + 3 * c + 2) (nI k) := by
  refine ⟨?_, ?_, ?_, ?_, ?_, ?_, ?_, ?_, ?_, ?_, ?_⟩ <;> intros <;> first | (exfalso; omega) | exact ⟨k, by omega, rfl⟩
theorem oa_home {h k : Nat} (hc : h < 8) (hk : k < 24) : okAt (77 + 3 * h) (nI k) := by
  refine ⟨?_, ?_, ?_, ?_, ?_, ?_, ?_, ?_, ?_, ?_, ?_⟩ <;> intros <;> first | (exfalso; omega) | exact ⟨k, by omega, rfl⟩
theorem oa_floor {h k : Nat} (hc : h < 8) (hk : k ≤ 40) : okAt (77 + 3 * h + 1) (nI k) := by
  refine ⟨?_, ?_, ?_, ?_, ?_, ?_, ?_, ?_, ?_, ?_, ?_⟩ <;> intros <;> first | (exfalso; omega) | exact ⟨k, by omega, rfl⟩
theorem oa_open {h k : Nat} (hc : h < 8) (hk : k < 4) : okAt (77 + 3 * h + 2) (nI k) := by
  refine ⟨?_, ?_, ?_, ?_, ?_, ?_, ?_, ?_, ?_, ?_, ?_⟩ <;> intros <;> first | (exfalso; omega) | exact ⟨k, by omega, rfl⟩
theorem oa_year {k : Nat} (hk : k ≤ 999) : okAt 0 (nI k) := by
  refine ⟨?_, ?_, ?_, ?_, ?_, ?_, ?_, ?_, ?_, ?_, ?_⟩ <;> intros <;> first | (exfalso; omega) | exact ⟨k, by omega, rfl⟩
theorem oa_houses {k : Nat} (hk : k ≤ 8) : okAt 1 (nI k) := by
  refine ⟨?_, ?_, ?_, ?_, ?_, ?_, ?_, ?_, ?_, ?_, ?_⟩ <;> intros <;> first | (exfalso; omega) | exact ⟨k, by omega, rfl⟩
theorem oa_haze {k : Nat} (h1 : 1 ≤ k) (hk : k ≤ 23) : okAt 2 (nI k) := by
  refine ⟨?_, ?_, ?_, ?_, ?_, ?_, ?_, ?_, ?_, ?_, ?_⟩ <;> intros <;> first | (exfalso; omega) | exact ⟨k, by omega, by omega, rfl⟩
theorem oa_rate {k : Nat} (hk : k ≤ 99) : okAt 3 (nI k) := by
  refine ⟨?_, ?_, ?_, ?_, ?_, ?_, ?_, ?_, ?_, ?_, ?_⟩ <;> intros <;> first | (exfalso; omega) | exact ⟨k, by omega, rfl⟩
theorem oa_seed (v : Int32) : okAt 4 v := by
  refine ⟨?_, ?_, ?_, ?_, ?_, ?_, ?_, ?_, ?_, ?_, ?_⟩ <;> intros <;> exfalso <;> omega
theorem oa_spot {k : Nat} {v : Int32} (hk : k < 10) (hv : v = -1 ∨ ∃ c, c < 24 ∧ v = nI c) : okAt (101 + k) v := by
  refine ⟨?_, ?_, ?_, ?_, ?_, ?_, ?_, ?_, ?_, ?_, ?_⟩ <;> intros <;> first | (exfalso; omega) | exact hv
theorem ok.set {σ : Nat → Int32} (o : ok σ) {c k : Nat} (hc : c < 24) (hk : k < 7) : ok (setS σ c (nI k)) := (o.u (oa_kind hc hk)).u (oa_age hc (k := 0) (by omega))
theorem ok.grow {σ : Nat → Int32} (o : ok σ) {n y : Nat} (hn : n ≤ 60) (hy : σ 0 = nI y) (h : y + n ≤ 999) : ok (Sgrow σ n) := by
  refine ⟨⟨y + n, h, by rw [Sg_0, hy, nI_add]⟩, ?_, ?_, ?_, Sg_okC o.2.2.2.2.1 (by omega), fun i hi => ?_, fun i hi => ?_⟩
  · rw [Sg_n _ _ (by omega) (by omega)]; exact o.2.1
  · rw [Sg_n _ _ (by omega) (by omega)]; exact o.2.2.1
  · rw [Sg_n _ _ (by omega) (by omega)]; exact o.2.2.2.1
  · have q : ∀ k, 77 ≤ k → Sgrow σ n k = σ k := fun k hk => by
      unfold Sgrow agI
      rw [pu_un (by omega)]
      by_cases z : 7 ≤ k ∧ (k - 7) % 3 = 0 ∧ k < 7 + 3 * 24
      · exfalso; omega
      · rw [if_neg z]
    rw [q _ (by omega), q _ (by omega), q _ (by omega)]; exact o.2.2.2.2.2.1 i hi
  · rw [Sg_n _ _ (by omega) (by omega)]; exact o.2.2.2.2.2.2 i hi
/-! class and reference side by side -/
def Rel (X R : sl_M) : Prop :=
  RL X 0 (R 1) ∧ ok (R 1) ∧ (∃ b : Bool, X 27 3 = (if b then 1 else 0) ∧ R 0 4 = (if b then 1 else 0) ∧ (b = true → RL X 2 (R 2) ∧ ok (R 2))) ∧ (∀ k, k < 7 → X 35 k = R 4 k) ∧
  (∃ t, t ≤ 120 ∧ X 28 1 = nI t ∧ R 0 11 = nI t ∧ ∀ i, i < t → X 29 i = R 7 i ∧ ∃ b, b < 256 ∧ R 7 i = nI b) ∧
  ∀ s, s < 4 → X 32 s = R 8 s ∧ X 33 s = R 9 s ∧ ∃ n, n ≤ 40 ∧ R 9 s = nI n ∧ ∀ i, i < n → X 34 (40 * s + i) = R 10 (40 * s + i)
/-- the two answer alike and stay side by side -/
def Stq (x y : Option (Int32 × sl_M)) : Prop := ∃ r X R, x = some (r, X) ∧ y = some (r, R) ∧ Rel X R
theorem Stq.of {X R : sl_M} {r : Int32} (h : Rel X R) : Stq (some (r, X)) (some (r, R)) := ⟨r, X, R, rfl, rfl, h⟩
/-- nothing but scratch has changed -/
theorem Rel.keep {X R X2 R2 : sl_M} (h : Rel X R) (hX : ∀ r, (r < 9 ∨ (18 ≤ r ∧ r < 36)) → X2 r = X r) (hR : ∀ r, (r = 1 ∨ r = 2 ∨ r = 4 ∨ r = 7 ∨ r = 8 ∨ r = 9 ∨ r = 10) → R2 r = R r) (h4 : R2 0 4 = R 0 4) (h11 : R2 0 11 = R 0 11) : Rel X2 R2 := by
  obtain ⟨a, b, c, d, e, f⟩ := h
  have q0 : ∀ i, i < 9 → X2 (9 * 0 + i) = X (9 * 0 + i) := fun i hi => hX _ (by omega)
  have q2 : ∀ i, i < 9 → X2 (9 * 2 + i) = X (9 * 2 + i) := fun i hi => hX _ (by omega)
  rw [Rel, hR 1 (by omega), hR 2 (by omega), hR 4 (by omega), hR 7 (by omega), hR 8 (by omega), hR 9 (by omega), hR 10 (by omega), h4, h11, hX 27 (by omega), hX 35 (by omega), hX 28 (by omega), hX 29 (by omega), hX 32 (by omega), hX 33 (by omega), hX 34 (by omega)]
  refine ⟨a.same q0, b, ?_, d, e, f⟩
  obtain ⟨z, c1, c2, c3⟩ := c
  exact ⟨z, c1, c2, fun hz => ⟨(c3 hz).1.same q2, (c3 hz).2⟩⟩
/-- the land itself has changed, on both sides -/
theorem Rel.land {X R X2 : sl_M} {σ : Nat → Int32} (h : Rel X R) (hL : RL X2 0 σ) (ho : ok σ) (hF : Fr 0 X X2) : Rel X2 (sM R σ) := by
  obtain ⟨a, b, c, d, e, f⟩ := h
  have q2 : ∀ i, i < 9 → X2 (9 * 2 + i) = X (9 * 2 + i) := fun i hi => hF _ (by omega)
  rw [Rel, sM_1, sM_n _ _ (by omega), sM_n _ _ (by omega), sM_n _ _ (by omega), sM_n _ _ (by omega), sM_n _ _ (by omega), sM_n _ _ (by omega), sM_n _ _ (by omega), hF 27 (by omega), hF 35 (by omega), hF 28 (by omega), hF 29 (by omega), hF 32 (by omega), hF 33 (by omega), hF 34 (by omega)]
  refine ⟨hL, ho, ?_, d, e, f⟩
  obtain ⟨z, c1, c2, c3⟩ := c
  exact ⟨z, c1, c2, fun hz => ⟨(c3 hz).1.same q2, (c3 hz).2⟩⟩
theorem t_any {X R : sl_M} (h : Rel X R) {k : Nat} {kI cI : Int32} (hk : k < 7) (e1 : kI = nI k) (e2 : (-1000001 : Int32) - cI = kI) (e3 : (-1000001 : Int32) - kI = cI) : Stq ((f4_tell kI X).bind fun r => some (r.1, r.2)) ((f5_finds cI R).bind fun r => some (r.1, r.2)) := by
  obtain ⟨a, b, c, d, e, f⟩ := h
  rw [f4_tell, f5_finds, e2, e1, pu_ld (f := X 35) rfl hk (by omega), pu_ld (f := R 4) rfl hk (by omega)]
  simp only [pu_b]
  rw [pu_st (M := X) rfl hk (by omega), pu_st (M := R) rfl hk (by omega)]
  simp only [pu_b]
  rw [← e1, e3]
  refine Stq.of ?_
  rw [Rel]
  have q0 : ∀ i, i < 9 → sl_up X 35 k (X 35 k + 1) (9 * 0 + i) = X (9 * 0 + i) := fun i hi => pu_upn (by omega)
  have q2 : ∀ i, i < 9 → sl_up X 35 k (X 35 k + 1) (9 * 2 + i) = X (9 * 2 + i) := fun i hi => pu_upn (by omega)
  simp only [show ∀ r, r ≠ 35 → sl_up X 35 k (X 35 k + 1) r = X r from fun r hr => pu_upn hr, show ∀ r, r ≠ 4 → sl_up R 4 k (R 4 k + 1) r = R r from fun r hr => pu_upn hr, ne_eq, Nat.reduceEqDiff, not_false_eq_true]
  refine ⟨a.same q0, b, ?_, fun i hi => ?_, e, f⟩
  · obtain ⟨z, c1, c2, c3⟩ := c
    exact ⟨z, c1, c2, fun hz => ⟨(c3 hz).1.same q2, (c3 hz).2⟩⟩
  · rw [pu_ups, pu_ups]
    by_cases q : i = k
    · subst q; rw [pu_us, pu_us, d i hi]
    · rw [pu_un q, pu_un q]; exact d i hi
theorem t0 {X R : sl_M} (h : Rel X R) : Stq ((f4_tell (0 : Int32) X).bind fun r => some (r.1, r.2)) ((f5_finds (-1000001 : Int32) R).bind fun r => some (r.1, r.2)) := t_any h (k := 0) (by omega) rfl (by decide) (by decide)
theorem t1 {X R : sl_M} (h : Rel X R) : Stq ((f4_tell (1 : Int32) X).bind fun r => some (r.1, r.2)) ((f5_finds (-1000002 : Int32) R).bind fun r => some (r.1, r.2)) := t_any h (k := 1) (by omega) rfl (by decide) (by decide)
theorem t2 {X R : sl_M} (h : Rel X R) : Stq ((f4_tell (2 : Int32) X).bind fun r => some (r.1, r.2)) ((f5_finds (-1000003 : Int32) R).bind fun r => some (r.1, r.2)) := t_any h (k := 2) (by omega) rfl (by decide) (by decide)
theorem t3 {X R : sl_M} (h : Rel X R) : Stq ((f4_tell (3 : Int32) X).bind fun r => some (r.1, r.2)) ((f5_finds (-1000004 : Int32) R).bind fun r => some (r.1, r.2)) := t_any h (k := 3) (by omega) rfl (by decide) (by decide)
theorem t4 {X R : sl_M} (h : Rel X R) : Stq ((f4_tell (4 : Int32) X).bind fun r => some (r.1, r.2)) ((f5_finds (-1000005 : Int32) R).bind fun r => some (r.1, r.2)) := t_any h (k := 4) (by omega) rfl (by decide) (by decide)
theorem t5 {X R : sl_M} (h : Rel X R) : Stq ((f4_tell (5 : Int32) X).bind fun r => some (r.1, r.2)) ((f5_finds (-1000006 : Int32) R).bind fun r => some (r.1, r.2)) := t_any h (k := 5) (by omega) rfl (by decide) (by decide)
theorem t6 {X R : sl_M} (h : Rel X R) : Stq ((f4_tell (6 : Int32) X).bind fun r => some (r.1, r.2)) ((f5_finds (-1000007 : Int32) R).bind fun r => some (r.1, r.2)) := t_any h (k := 6) (by omega) rfl (by decide) (by decide)
/-! the tests of arguments are the same -/
theorem e_cell (x : Int32) : f5_isCell x = f4_isCell x := in_w x 0 23
theorem e_kind (x : Int32) : f5_isKind x = f4_isKind x := in_w x 0 6
theorem e_floor (x : Int32) : f5_isFloor x = f4_isFloor x := in_w x 1 40
theorem e_ahead (x : Int32) : f5_isAhead x = f4_isSpan x := in_w x 0 60
theorem e_tax (x : Int32) : f5_isTax x = f4_isTaxAsked x := in_w x 0 99999
theorem e_in (x a b : Int32) {a2 b2 : Int64} (ha : a.toInt64 = a2) (hb : b.toInt64 = b2) : f5_in x.toInt64 a2 b2 = f4_isWithin x a b := by subst ha; subst hb; exact in_w x a b
theorem cellN {x : Int32} (h : ¬ f4_isCell x = 0) : ∃ c, c < 24 ∧ x = nI c := by
  obtain ⟨c, hc, e⟩ := wi_n (n := 23) (b := 23) rfl h
  exact ⟨c, by omega, e⟩
theorem kindN {x : Int32} (h : ¬ f4_isKind x = 0) : ∃ c, c < 7 ∧ x = nI c := by
  obtain ⟨c, hc, e⟩ := wi_n (n := 6) (b := 6) rfl h
  exact ⟨c, by omega, e⟩
theorem floorN {x : Int32} (h : ¬ f4_isFloor x = 0) : ∃ c, 1 ≤ c ∧ c ≤ 40 ∧ x = nI c := wi_n1 (m := 1) (n := 40) rfl rfl h
theorem spanN {x : Int32} (h : ¬ f4_isSpan x = 0) : ∃ c, c ≤ 60 ∧ x = nI c := wi_n (n := 60) (b := 60) rfl h
theorem Rel.house {X R : sl_M} (h : Rel X R) {x : Int32} : f4_isHouse x X = f4_isWithin x 0 (R 1 1 - 1) := by
  rw [f4_isHouse, show X 0 8 = R 1 1 from h.1.2.2.2.1]
theorem houseN {σ : Nat → Int32} (o : ok σ) {x : Int32} (h : ¬ f4_isWithin x 0 (σ 1 - 1) = 0) : ∃ c, c < nh σ ∧ c < 8 ∧ x = nI c := by
  obtain ⟨n1, n2⟩ := o.nh
  rw [n2] at h
  by_cases q : nh σ = 0
  · rw [q] at h
    exfalso
    obtain ⟨h1, h2⟩ := wi_yes h
    rw [show nI 0 - 1 = (-1 : Int32) from rfl] at h2
    rw [Int32.lt_iff_toInt_lt] at h1 h2
    simp at h1 h2
    omega
  · obtain ⟨m, hm⟩ : ∃ m, nh σ = m + 1 := ⟨nh σ - 1, by omega⟩
    rw [hm, nI_pred] at h
    obtain ⟨c, hc, e⟩ := wi_n (n := m) (b := nI m) (nI_toInt (by omega)) h
    exact ⟨c, by omega, by omega, e⟩
