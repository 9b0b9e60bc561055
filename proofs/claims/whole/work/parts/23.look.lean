theorem lge {N : Nat} {x : Int32} {c : Nat} (hN : x = nI N) (h : c < N) (h2 : N < 2 ^ 31) : ¬ x ≤ nI c := by subst hN; exact nI_ge h h2
theorem lle {N : Nat} {x : Int32} {c : Nat} (hN : x = nI N) (h : N ≤ c) (h2 : c < 2 ^ 31) : x ≤ nI c := by subst hN; exact nI_le h h2
/-! the steepest line -/
theorem st_new {a b c : Int} {m n k : Int} (hm : 0 < m) (hn : 0 < n) (hk : 0 < k) (h1 : a * m ≤ b * k) (h2 : b * n < c * m) : a * n < c * k := by
  have e1 : a * m * n ≤ b * k * n := Int.mul_le_mul_of_nonneg_right h1 (by omega)
  have e2 : b * n * k < c * m * k := Int.mul_lt_mul_of_pos_right h2 hk
  have e3 : a * n * m < c * k * m := by
    have x1 : a * n * m = a * m * n := by rw [Int.mul_assoc, Int.mul_comm n m, ← Int.mul_assoc]
    have x2 : c * k * m = c * m * k := by rw [Int.mul_assoc, Int.mul_comm k m, ← Int.mul_assoc]
    have x3 : b * k * n = b * n * k := by rw [Int.mul_assoc, Int.mul_comm k n, ← Int.mul_assoc]
    rw [x1, x2]; omega
  exact Int.lt_of_mul_lt_mul_right e3 (by omega)
/-- what the walk outwards holds before distance d -/
def lkI (σ : Nat → Int32) (h : Nat) (e : Bool) (d : Nat) (sr sf seen : Int32) : Prop :=
  ((d = 1 ∧ sr = -1 ∧ sf = 0) ∨ ∃ m, 1 ≤ m ∧ m < d ∧ sr = ri σ h e m ∧ sf = nI m ∧ ∀ b, 1 ≤ b → b < d → (ri σ h e b).toInt * m ≤ (ri σ h e m).toInt * b) ∧
  ∀ i, i < 32 → (bt seen i = true ↔ ∃ b, 1 ≤ b ∧ b < d ∧ i = cel e (hm σ h) b ∧ vis σ h e b)
theorem vis_i {σ : Nat → Int32} (o : ok σ) {h : Nat} (hh : h < 8) {e : Bool} {d : Nat} (hd : okD e (hm σ h) d) : vis σ h e d ↔ ∀ b, 1 ≤ b → b < d → (ri σ h e b).toInt * d < (ri σ h e d).toInt * b := by
  have hd2 : d ≤ 24 := by cases e <;> simp [okD] at hd <;> omega
  unfold vis
  constructor
  · intro z b h1 h2
    have := z b h1 h2
    rwa [Int32.lt_iff_toInt_lt, mul_ri (ri_b o hh (hd.mono (by omega))) (by omega), mul_ri (ri_b o hh hd) (by omega)] at this
  · intro z b h1 h2
    have := z b h1 h2
    rwa [Int32.lt_iff_toInt_lt, mul_ri (ri_b o hh (hd.mono (by omega))) (by omega), mul_ri (ri_b o hh hd) (by omega)]
theorem lk_step {σ : Nat → Int32} (o : ok σ) {h : Nat} (hh : h < 8) {e : Bool} {d : Nat} (h1 : 1 ≤ d) (hd : okD e (hm σ h) d) {sr sf seen : Int32} (hI : lkI σ h e d sr sf seen) :
    (ri σ h e d * sf ≤ sr * nI d ∧ lkI σ h e (d + 1) sr sf seen) ∨ (¬ ri σ h e d * sf ≤ sr * nI d ∧ lkI σ h e (d + 1) (ri σ h e d) (nI d) (seen ||| b1 (cel e (hm σ h) d))) := by
  have hd2 : d ≤ 24 := by cases e <;> simp [okD] at hd <;> omega
  have hl := hd.lt
  obtain ⟨hS, hB⟩ := hI
  have seenT : vis σ h e d → ∀ i, i < 32 → (bt (seen ||| b1 (cel e (hm σ h) d)) i = true ↔ ∃ b, 1 ≤ b ∧ b < d + 1 ∧ i = cel e (hm σ h) b ∧ vis σ h e b) := by
    intro hv i hi
    rw [b_or, b1_bt (by omega) hi, Bool.or_eq_true, hB i hi, decide_eq_true_eq]
    constructor
    · rintro (⟨b, x1, x2, x3, x4⟩ | x)
      · exact ⟨b, x1, by omega, x3, x4⟩
      · exact ⟨d, h1, by omega, x, hv⟩
    · rintro ⟨b, x1, x2, x3, x4⟩
      by_cases hb : b = d
      · subst hb; exact Or.inr x3
      · exact Or.inl ⟨b, x1, by omega, x3, x4⟩
  have seenF : ¬ vis σ h e d → ∀ i, i < 32 → (bt seen i = true ↔ ∃ b, 1 ≤ b ∧ b < d + 1 ∧ i = cel e (hm σ h) b ∧ vis σ h e b) := by
    intro hv i hi
    rw [hB i hi]
    constructor
    · rintro ⟨b, x1, x2, x3, x4⟩
      exact ⟨b, x1, by omega, x3, x4⟩
    · rintro ⟨b, x1, x2, x3, x4⟩
      by_cases hb : b = d
      · subst hb; exact absurd x4 hv
      · exact ⟨b, x1, by omega, x3, x4⟩
  rcases hS with ⟨rfl, rfl, rfl⟩ | ⟨m, hm1, hm2, rfl, rfl, hmax⟩
  · right
    have hv : vis σ h e 1 := fun b x1 x2 => by omega
    refine ⟨?_, Or.inr ⟨1, by omega, by omega, rfl, rfl, fun b x1 x2 => ?_⟩, seenT hv⟩
    · rw [Int32.mul_zero]; decide
    · have : b = 1 := by omega
      subst this; omega
  · have hmd := hd.mono (Nat.le_of_lt hm2)
    have c1 : (ri σ h e d * nI m ≤ ri σ h e m * nI d) ↔ (ri σ h e d).toInt * m ≤ (ri σ h e m).toInt * d := by
      rw [Int32.le_iff_toInt_le, mul_ri (ri_b o hh hd) (by omega), mul_ri (ri_b o hh hmd) (by omega)]
    by_cases q : ri σ h e d * nI m ≤ ri σ h e m * nI d
    · left
      have q2 := c1.mp q
      have hv : ¬ vis σ h e d := by
        intro z
        have := (vis_i o hh hd).mp z m hm1 hm2
        omega
      refine ⟨q, Or.inr ⟨m, hm1, by omega, rfl, rfl, fun b x1 x2 => ?_⟩, seenF hv⟩
      by_cases hb : b = d
      · subst hb; exact q2
      · exact hmax b x1 (by omega)
    · right
      have q2 : (ri σ h e m).toInt * d < (ri σ h e d).toInt * m := Int.not_le.mp (fun z => q (c1.mpr z))
      have key : ∀ b, 1 ≤ b → b < d → (ri σ h e b).toInt * d < (ri σ h e d).toInt * b := fun b x1 x2 =>
        st_new (m := (m : Int)) (n := (d : Int)) (k := (b : Int)) (by omega) (by omega) (by omega) (hmax b x1 x2) q2
      refine ⟨q, Or.inr ⟨d, h1, by omega, rfl, rfl, fun b x1 x2 => ?_⟩, seenT ((vis_i o hh hd).mpr key)⟩
      by_cases hb : b = d
      · subst hb; omega
      · have := key b x1 (by omega); omega
theorem x_lk {M : sl_M} {j : Nat} {σ : Nat → Int32} (r : RL M j σ) (o : ok σ) {h : Nat} (hh : h < 8) {e : Bool} {N : Nat} (hN : okD e (hm σ h) N) : ∀ (k d n : Nat) (sr sf seen : Int32), d + k = N + 1 → 1 ≤ d → k < n → lkI σ h e d sr sf seen → ∃ sr2 sf2 x, lkI σ h e (N + 1) sr2 sf2 x ∧ f0_lookOut_47 j M (stp e) (nI (hm σ h)) (Seye σ h) (nI N) n sr sf seen (nI d) = some x := by
  have hN2 : N ≤ 24 := by cases e <;> simp [okD] at hN <;> omega
  intro k
  induction k with
  | zero =>
    intro d n sr sf seen hd h1 hn hI
    obtain ⟨n, rfl⟩ : ∃ z, n = z + 1 := ⟨n - 1, by omega⟩
    have e1 : d = N + 1 := by omega
    subst e1
    exact ⟨sr, sf, seen, hI, by rw [f0_lookOut_47, if_pos (nI_lt (by omega) (by omega))]⟩
  | succ k ih =>
    intro d n sr sf seen hd h1 hn hI
    obtain ⟨n, rfl⟩ : ∃ z, n = z + 1 := ⟨n - 1, by omega⟩
    have hdd : okD e (hm σ h) d := hN.mono (by omega)
    have step : f0_lookOut_47 j M (stp e) (nI (hm σ h)) (Seye σ h) (nI N) (n + 1) sr sf seen (nI d) = if ri σ h e d * sf ≤ sr * nI d then f0_lookOut_47 j M (stp e) (nI (hm σ h)) (Seye σ h) (nI N) n sr sf seen (nI (d + 1)) else f0_lookOut_47 j M (stp e) (nI (hm σ h)) (Seye σ h) (nI N) n (ri σ h e d) (nI d) (seen ||| b1 (cel e (hm σ h) d)) (nI (d + 1)) := by
      rw [f0_lookOut_47, if_neg (nI_nlt (by omega) (by omega)), cel_x hdd, x_ld4 r hdd.lt, pu_b, nI_1]
      rfl
    rw [step]
    rcases lk_step o hh h1 hdd hI with ⟨q, hI2⟩ | ⟨q, hI2⟩
    · rw [if_pos q]; exact ih (d + 1) n sr sf seen (by omega) (by omega) (by omega) hI2
    · rw [if_neg q]; exact ih (d + 1) n _ _ _ (by omega) (by omega) (by omega) hI2
theorem mn_nI {a b : Nat} (ha : a < 2 ^ 31) (hb : b < 2 ^ 31) : sl_mn (nI a) (nI b) = nI (min a b) := by
  unfold sl_mn
  by_cases h : b < a
  · rw [if_pos (nI_lt h ha), Nat.min_eq_right (by omega)]
  · rw [if_neg (nI_nlt (by omega) hb), Nat.min_eq_left (by omega)]
theorem x_look {M : sl_M} {j : Nat} {σ : Nat → Int32} (r : RL M j σ) (o : ok σ) {h : Nat} (hh : h < 8) (e : Bool) {z : Nat} (hz : z ≤ 23) (ez : σ 2 = nI z) : ∃ x, f0_lookOut j (nI h) (stp e) M = some x ∧ ∀ i, i < 32 → (bt x i = true ↔ ∃ b, 1 ≤ b ∧ b ≤ z ∧ okD e (hm σ h) b ∧ i = cel e (hm σ h) b ∧ vis σ h e b) := by
  obtain ⟨g1, g2⟩ := o.hm hh
  have I0 : lkI σ h e 1 (-1) 0 0 := ⟨Or.inl ⟨rfl, rfl, rfl⟩, fun i _ => by rw [b_0]; constructor; (intro q; cases q); (rintro ⟨b, x1, x2, -⟩; omega)⟩
  have main : ∀ N, okD e (hm σ h) N → (∀ b, (b ≤ N ↔ b ≤ z ∧ okD e (hm σ h) b)) → ∀ t1 t0 : Int32, sl_mn t1 t0 = nI N → ∃ x, f0_lookOut_30 j (stp e) (nI (hm σ h)) (Seye σ h) t0 t1 M = some x ∧ ∀ i, i < 32 → (bt x i = true ↔ ∃ b, 1 ≤ b ∧ b ≤ z ∧ okD e (hm σ h) b ∧ i = cel e (hm σ h) b ∧ vis σ h e b) := by
    intro N hN hb t1 t0 ht
    have hN2 : N ≤ 24 := by cases e <;> simp [okD] at hN <;> omega
    obtain ⟨sr2, sf2, x, hI, hx⟩ := x_lk r o hh hN N 1 400 (-1) 0 0 (by omega) (by omega) (by omega) I0
    refine ⟨x, by rw [f0_lookOut_30, ht]; exact hx, fun i hi => ?_⟩
    rw [hI.2 i hi]
    constructor
    · rintro ⟨b, x1, x2, x3, x4⟩
      have := (hb b).mp (by omega)
      exact ⟨b, x1, this.1, this.2, x3, x4⟩
    · rintro ⟨b, x1, x2, x3, x4, x5⟩
      have := (hb b).mpr ⟨x2, x3⟩
      exact ⟨b, x1, by omega, x4, x5⟩
  rw [f0_lookOut, x_ld5 r hh, pu_b, x_eye r o hh, pu_b, g2, r.2.2.2.2.1, ez]
  cases e
  · rw [if_neg (by decide)]
    exact main (min z (hm σ h)) (by simp only [okD, Bool.false_eq_true, if_false]; omega) (fun b => by simp only [okD, Bool.false_eq_true, if_false]; omega) _ _ (mn_nI (by omega) (by omega))
  · rw [if_pos (by decide)]
    exact main (min z (23 - hm σ h)) (by simp only [okD, if_true]; omega) (fun b => by simp only [okD, if_true]; omega) _ _ (by rw [show (23 : Int32) = nI 23 from rfl, pk_sub (by omega), mn_nI (by omega) (by omega)])
/-! the sight -/
/-- the cell c is seen from the house, not its own -/
def sv (σ : Nat → Int32) (h : Nat) (c : Nat) : Prop := ∃ e d, 1 ≤ d ∧ okD e (hm σ h) d ∧ c = cel e (hm σ h) d ∧ twd σ h e d = true ∧ vis σ h e d
noncomputable def svb (σ : Nat → Int32) (h : Nat) (c : Nat) : Bool := @decide (c = hm σ h ∨ sv σ h c) (Classical.propDecidable _)
noncomputable def Ssight (σ : Nat → Int32) (h : Nat) : Int32 := orf (fun c => if svb σ h c then b1 c else 0) 24
theorem svb_t {σ : Nat → Int32} {h c : Nat} : svb σ h c = true ↔ (c = hm σ h ∨ sv σ h c) := by
  unfold svb
  exact @decide_eq_true_iff _ (Classical.propDecidable _)
theorem Ssight_bt {σ : Nat → Int32} {h i : Nat} (hi : i < 32) : bt (Ssight σ h) i = true ↔ i < 24 ∧ (i = hm σ h ∨ sv σ h i) := by
  unfold Ssight
  rw [orf_bt (p := svb σ h) (fun _ => rfl) 24 (by omega) i hi, Bool.and_eq_true, decide_eq_true_eq, svb_t]
theorem sv_lt {σ : Nat → Int32} {h c : Nat} (x : sv σ h c) : c < 24 := by
  obtain ⟨e, d, -, hd, rfl, -⟩ := x
  exact hd.lt
theorem bt_ext {x y : Int32} (h : ∀ i, i < 32 → (bt x i = true ↔ bt y i = true)) : x = y := b_ext (fun i hi => by
  have := h i hi
  cases hx : bt x i <;> cases hy : bt y i <;> simp_all)
theorem x_sight {M : sl_M} {j : Nat} {σ : Nat → Int32} (r : RL M j σ) (o : ok σ) {h : Nat} (hh : h < 8) : f0_sightOf j (nI h) M = some (Ssight σ h) := by
  obtain ⟨g1, g2⟩ := o.hm hh
  obtain ⟨z, hz1, hz2, ez⟩ := o.2.2.1
  obtain ⟨k, hk, ek⟩ := (o.2.2.2.2.2.1 h hh).2.2
  obtain ⟨xw, hw, bw⟩ := x_look r o hh false hz2 ez
  obtain ⟨xe, he, be⟩ := x_look r o hh true hz2 ez
  have ow : (σ (77 + 3 * h + 2) &&& (1 : Int32) = 0 ↔ opb σ h false = false) := by unfold opb; rw [ek]; exact (op_1 k hk).1
  have oe : (σ (77 + 3 * h + 2) &&& (2 : Int32) = 0 ↔ opb σ h true = false) := by unfold opb; rw [ek]; exact (op_1 k hk).2
  have tw : ∀ e d, d ≤ 24 → (twd σ h e d = true ↔ d ≤ z ∧ opb σ h e = true) := by
    intro e d hd
    unfold twd
    rw [Bool.and_eq_true, decide_eq_true_eq, ez, nI_leI (by omega) (by omega)]
  have svi : ∀ i, sv σ h i ↔ (opb σ h false = true ∧ ∃ b, 1 ≤ b ∧ b ≤ z ∧ okD false (hm σ h) b ∧ i = cel false (hm σ h) b ∧ vis σ h false b) ∨ (opb σ h true = true ∧ ∃ b, 1 ≤ b ∧ b ≤ z ∧ okD true (hm σ h) b ∧ i = cel true (hm σ h) b ∧ vis σ h true b) := by
    intro i
    constructor
    · rintro ⟨e, d, x1, x2, x3, x4, x5⟩
      have hd2 : d ≤ 24 := by cases e <;> simp [okD] at x2 <;> omega
      have := (tw e d hd2).mp x4
      cases e
      · exact Or.inl ⟨this.2, d, x1, this.1, x2, x3, x5⟩
      · exact Or.inr ⟨this.2, d, x1, this.1, x2, x3, x5⟩
    · rintro (⟨y, d, x1, x2, x3, x4, x5⟩ | ⟨y, d, x1, x2, x3, x4, x5⟩)
      · exact ⟨false, d, x1, x3, x4, (tw _ d (by omega)).mpr ⟨x2, y⟩, x5⟩
      · exact ⟨true, d, x1, x3, x4, (tw _ d (by omega)).mpr ⟨x2, y⟩, x5⟩
  have fin : ∀ (X : Int32), (∀ i, i < 32 → (bt X i = true ↔ i = hm σ h ∨ (opb σ h false = true ∧ bt xw i = true) ∨ (opb σ h true = true ∧ bt xe i = true))) → X = Ssight σ h := by
    intro X hX
    apply bt_ext
    intro i hi
    rw [hX i hi, Ssight_bt hi, svi i, bw i hi, be i hi]
    constructor
    · rintro (rfl | x)
      · exact ⟨g1, Or.inl rfl⟩
      · exact ⟨sv_lt ((svi i).mpr x), Or.inr x⟩
    · rintro ⟨-, x⟩
      exact x
  have home : (1 : Int32) <<< (nI (hm σ h) &&& 31) = b1 (hm σ h) := rfl
  have east : ∀ x2 : Int32, f0_sightOf_29 j (nI h) x2 M = some (if opb σ h true then x2 ||| xe else x2) := by
    intro x2
    rw [f0_sightOf_29, x_ld7 r hh, pu_b]
    by_cases q : σ (77 + 3 * h + 2) &&& (2 : Int32) = 0
    · rw [if_pos q, oe.mp q]; rfl
    · have : opb σ h true = true := by
        cases q3 : opb σ h true
        · exact absurd (oe.mpr q3) q
        · rfl
      rw [if_neg q, show f0_lookOut j (nI h) (1 : Int32) M = some xe from he, pu_b, this]; rfl
  rw [f0_sightOf, x_ld5 r hh, pu_b, x_ld7 r hh, pu_b, g2, home]
  by_cases q : σ (77 + 3 * h + 2) &&& (1 : Int32) = 0
  · have q1 := ow.mp q
    rw [if_pos q, east]
    congr 1
    apply fin
    intro i hi
    cases q2 : opb σ h true
    · simp [b1_bt (show hm σ h < 32 by omega) hi, q1]
    · simp [b_or, b1_bt (show hm σ h < 32 by omega) hi, q1]
  · have q1 : opb σ h false = true := by
      cases q3 : opb σ h false
      · exact absurd (ow.mpr q3) q
      · rfl
    rw [if_neg q, show f0_lookOut j (nI h) (-1 : Int32) M = some xw from hw, pu_b, east]
    congr 1
    apply fin
    intro i hi
    cases q2 : opb σ h true
    · simp [b_or, b1_bt (show hm σ h < 32 by omega) hi, q1]
    · simp [b_or, b1_bt (show hm σ h < 32 by omega) hi, q1, or_assoc]
theorem cel_all {p c : Nat} (hp : p < 24) (hc : c < 24) (hne : c ≠ p) : ∃ e d, 1 ≤ d ∧ okD e p d ∧ c = cel e p d := by
  by_cases h : p < c
  · exact ⟨true, c - p, by omega, by simp only [okD, if_true]; omega, by simp only [cel, if_true]; omega⟩
  · exact ⟨false, p - c, by omega, by simp only [okD, Bool.false_eq_true, if_false]; omega, by simp only [cel, Bool.false_eq_true, if_false]; omega⟩
theorem cel_uniq {p : Nat} {e e2 : Bool} {d d2 : Nat} (h1 : 1 ≤ d) (h2 : 1 ≤ d2) (o1 : okD e p d) (o2 : okD e2 p d2) (q : cel e p d = cel e2 p d2) : e = e2 ∧ d = d2 := by
  cases e <;> cases e2 <;> simp [okD, cel] at o1 o2 q ⊢ <;> omega
theorem r_sl {M : sl_M} {h : Nat} (hh : h < 8) (o : ok (M 1)) : ∀ (k c n : Nat) (s : Int32), c + k = 24 → k < n → (∀ i, i < 32 → (bt s i = true ↔ i = hm (M 1) h ∨ (i < c ∧ sv (M 1) h i))) → ∃ x, f5_sightOf_10 M (nI h) n s (nI c) = some x ∧ ∀ i, i < 32 → (bt x i = true ↔ i = hm (M 1) h ∨ sv (M 1) h i) := by
  obtain ⟨g1, g2⟩ := o.hm hh
  intro k
  induction k with
  | zero =>
    intro c n s hc hn hs
    obtain ⟨n, rfl⟩ : ∃ z, n = z + 1 := ⟨n - 1, by omega⟩
    have e1 : c = 24 := by omega
    subst e1
    refine ⟨s, by rw [f5_sightOf_10, if_pos (by decide)], fun i hi => ?_⟩
    rw [hs i hi]
    constructor
    · rintro (x | ⟨-, x⟩)
      · exact Or.inl x
      · exact Or.inr x
    · rintro (x | x)
      · exact Or.inl x
      · exact Or.inr ⟨sv_lt x, x⟩
  | succ k ih =>
    intro c n s hc hn hs
    obtain ⟨n, rfl⟩ : ∃ z, n = z + 1 := ⟨n - 1, by omega⟩
    have no : (¬ sv (M 1) h c ∨ c = hm (M 1) h) → ∀ s2, s2 = s ||| (0 : Int32) → ∃ x, f5_sightOf_10 M (nI h) n s2 (nI c + 1) = some x ∧ ∀ i, i < 32 → (bt x i = true ↔ i = hm (M 1) h ∨ sv (M 1) h i) := by
      intro hno s2 e2
      rw [nI_1]
      refine ih (c + 1) n s2 (by omega) (by omega) (fun i hi => ?_)
      rw [e2, b_or, b_0, Bool.or_false, hs i hi]
      constructor
      · rintro (x | ⟨y, x⟩)
        · exact Or.inl x
        · exact Or.inr ⟨by omega, x⟩
      · rintro (x | ⟨y, x⟩)
        · exact Or.inl x
        · by_cases hi2 : i = c
          · subst hi2
            rcases hno with q | q
            · exact absurd x q
            · exact Or.inl q
          · exact Or.inr ⟨by omega, x⟩
    rw [f5_sightOf_10, if_neg (lge (x := 24) (N := 24) rfl (show c < 24 by omega) (by omega))]
    by_cases hp : c = hm (M 1) h
    · subst hp
      rw [r_towards0 hh o, pu_b, if_pos rfl, f5_sightOf_41]
      exact no (Or.inr rfl) _ rfl
    · obtain ⟨e, d, h1, hd, rfl⟩ := cel_all g1 (show c < 24 by omega) hp
      rw [r_towards hh o h1 hd, pu_b]
      cases ht : twd (M 1) h e d
      · rw [if_pos (show (if false = true then (1 : Int32) else 0) = 0 from rfl), f5_sightOf_41]
        refine no (Or.inl ?_) _ rfl
        rintro ⟨e2, d2, y1, y2, y3, y4, y5⟩
        obtain ⟨rfl, rfl⟩ := cel_uniq h1 y1 hd y2 y3
        rw [ht] at y4; cases y4
      · rw [if_neg (show ¬ (if true = true then (1 : Int32) else 0) = 0 by decide), r_hider hh o h1 hd, pu_b]
        by_cases hv : vis (M 1) h e d
        · have q : ¬ 0 ≤ hfo e (hm (M 1) h) (ff (hq (M 1) h e d) (d - 1) 1) := by
            rw [hfo_neg (d := d) (by omega) hd]
            exact fun z => z ((vis_ff h1).mpr hv)
          have hsv : sv (M 1) h (cel e (hm (M 1) h) d) := ⟨e, d, h1, hd, rfl, ht, hv⟩
          rw [if_neg q, nI_1]
          refine ih _ n _ (by omega) (by omega) (fun i hi => ?_)
          rw [b_or, Bool.or_eq_true, hs i hi, show (1 : Int32) <<< (nI (cel e (hm (M 1) h) d) &&& 31) = b1 (cel e (hm (M 1) h) d) from rfl, b1_bt (by omega) hi, decide_eq_true_eq]
          constructor
          · rintro ((x | ⟨y, x⟩) | rfl)
            · exact Or.inl x
            · exact Or.inr ⟨by omega, x⟩
            · exact Or.inr ⟨by omega, hsv⟩
          · rintro (x | ⟨y, x⟩)
            · exact Or.inl (Or.inl x)
            · by_cases hi2 : i = cel e (hm (M 1) h) d
              · exact Or.inr hi2
              · exact Or.inl (Or.inr ⟨by omega, x⟩)
        · have q : 0 ≤ hfo e (hm (M 1) h) (ff (hq (M 1) h e d) (d - 1) 1) := by
            rw [hfo_neg (d := d) (by omega) hd]
            exact fun z => hv ((vis_ff h1).mp z)
          rw [if_pos q, f5_sightOf_41]
          refine no (Or.inl ?_) _ rfl
          rintro ⟨e2, d2, y1, y2, y3, y4, y5⟩
          obtain ⟨rfl, rfl⟩ := cel_uniq h1 y1 hd y2 y3
          exact hv y5
theorem r_sight {M : sl_M} {h : Nat} (hh : h < 8) (o : ok (M 1)) : f5_sightOf (nI h) M = some (Ssight (M 1) h) := by
  obtain ⟨g1, g2⟩ := o.hm hh
  rw [f5_sightOf, r_home hh, pu_b, g2]
  obtain ⟨x, hx, hb⟩ := r_sl hh o 24 0 400 (b1 (hm (M 1) h)) (by omega) (by omega) (fun i hi => by
    rw [b1_bt (by omega) hi, decide_eq_true_eq]
    constructor
    · exact Or.inl
    · rintro (x | ⟨y, -⟩)
      · exact x
      · omega)
  rw [show (1 : Int32) <<< (nI (hm (M 1) h) &&& 31) = b1 (hm (M 1) h) from rfl, show (0 : Int32) = nI 0 from rfl, hx]
  congr 1
  apply bt_ext
  intro i hi
  rw [hb i hi, Ssight_bt hi]
  constructor
  · rintro (rfl | x)
    · exact ⟨g1, Or.inl rfl⟩
    · exact ⟨sv_lt x, Or.inr x⟩
  · rintro ⟨-, x⟩
    exact x
