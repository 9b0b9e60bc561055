/-! the class's hider -/
section HX
variable {M : sl_M} {j : Nat} {σ : Nat → Int32}
theorem x_hf (r : RL M j σ) {h : Nat} {e : Bool} {d : Nat} (hd : okD e (hm σ h) d) : ∀ (k b n : Nat), b + k = d → 1 ≤ b → k < n → f0_hiderOf_48 j M (nI (hm σ h)) (Seye σ h) (stp e) (nI d) (ri σ h e d) n (nI b) = some (hfo e (hm σ h) (ff (hq σ h e d) k b)) := by
  have hdb : d < 2 ^ 31 := by cases e <;> simp [okD] at hd <;> omega
  intro k
  induction k with
  | zero =>
    intro b n hb h1 hn
    obtain ⟨n, rfl⟩ : ∃ z, n = z + 1 := ⟨n - 1, by omega⟩
    have e1 : b = d := by omega
    subst e1
    rw [f0_hiderOf_48, if_pos (nI_le (Nat.le_refl _) hdb)]; rfl
  | succ k ih =>
    intro b n hb h1 hn
    obtain ⟨n, rfl⟩ : ∃ z, n = z + 1 := ⟨n - 1, by omega⟩
    have hbd : okD e (hm σ h) b := hd.mono (by omega)
    rw [f0_hiderOf_48, if_neg (nI_ge (by omega) hdb), cel_x hbd, x_ld4 r hbd.lt, pu_b, ff]
    show (if ri σ h e b * nI d < ri σ h e d * nI b then _ else _) = _
    by_cases q : ri σ h e b * nI d < ri σ h e d * nI b
    · have q2 : ¬ hq σ h e d b = true := by simp [hq, q]
      rw [if_pos q, if_neg q2, nI_1]
      exact ih (b + 1) n (by omega) (by omega) (by omega)
    · have q2 : hq σ h e d b = true := by simp [hq, q]
      rw [if_neg q, if_pos q2]; rfl
theorem x_hider (r : RL M j σ) (o : ok σ) {h : Nat} (hh : h < 8) {e : Bool} {d : Nat} (h1 : 1 ≤ d) (hd : okD e (hm σ h) d) : f0_hiderOf j (nI h) (nI (cel e (hm σ h) d)) M = some (hfo e (hm σ h) (ff (hq σ h e d) (d - 1) 1)) := by
  obtain ⟨g1, g2⟩ := o.hm hh
  have hl := hd.lt
  have key : f0_hiderOf_24 j (nI (cel e (hm σ h) d)) (nI (hm σ h)) (Seye σ h) (stp e) M = some (hfo e (hm σ h) (ff (hq σ h e d) (d - 1) 1)) := by
    rw [f0_hiderOf_24, x_ld4 r hl, pu_b, show sl_ab (nI (cel e (hm σ h) d) - nI (hm σ h)) = nI d from cel_z hd]
    exact x_hf r hd (d - 1) 1 400 (by omega) (by omega) (by cases e <;> simp [okD] at hd <;> omega)
  rw [f0_hiderOf, x_ld5 r hh, pu_b, x_eye r o hh, pu_b, g2]
  cases e
  · simp only [okD, Bool.false_eq_true, if_false] at hd
    have : ¬ nI (hm σ h) ≤ nI (cel false (hm σ h) d) := nI_ge (by simp [cel]; omega) (by omega)
    rw [if_neg this]; exact key
  · simp only [okD, if_true] at hd
    have : nI (hm σ h) ≤ nI (cel true (hm σ h) d) := nI_le (by simp [cel]) (by simp [cel]; omega)
    rw [if_pos this]; exact key
end HX
/-! towards -/
def opb (σ : Nat → Int32) (h : Nat) (e : Bool) : Bool := bt (σ (77 + 3 * h + 2)) (if e then 1 else 0)
def twd (σ : Nat → Int32) (h : Nat) (e : Bool) (d : Nat) : Bool := decide (nI d ≤ σ 2) && opb σ h e
theorem op_1 : ∀ k, k < 4 → ((nI k &&& (1 : Int32) = 0 ↔ bt (nI k) 0 = false) ∧ (nI k &&& (2 : Int32) = 0 ↔ bt (nI k) 1 = false)) := by decide +kernel
theorem not_le32 {a b : Int32} : ¬ a ≤ b ↔ b < a := by
  rw [Int32.le_iff_toInt_le, Int32.lt_iff_toInt_lt]; omega
theorem not_lt32 {a b : Int32} : ¬ a < b ↔ b ≤ a := by
  rw [Int32.le_iff_toInt_le, Int32.lt_iff_toInt_lt]; omega
theorem cel_ne {e : Bool} {p d : Nat} (h1 : 1 ≤ d) (hd : okD e p d) : ¬ nI (cel e p d) = nI p ∧ ¬ nI (cel e p d) - nI p = 0 := by
  have hl := hd.lt
  have hp : p < 24 := by cases e <;> simp [okD] at hd <;> omega
  have n1 : ¬ nI (cel e p d) = nI p := by
    intro q
    have := (nI_eq (by omega) (by omega)).mp q
    cases e <;> simp [okD, cel] at hd this <;> omega
  refine ⟨n1, fun q => n1 ?_⟩
  have := congrArg (· + nI p) q
  simpa [Int32.sub_eq_add_neg, Int32.add_assoc, Int32.add_left_neg, Int32.add_zero, Int32.zero_add] using this
theorem cel_sg {e : Bool} {p d : Nat} (h1 : 1 ≤ d) (hd : okD e p d) : (0 ≤ nI (cel e p d) - nI p ↔ e = true) ∧ (nI p ≤ nI (cel e p d) ↔ e = true) := by
  have hl := hd.lt
  have hp : p < 24 := by cases e <;> simp [okD] at hd <;> omega
  rw [Int32.le_iff_toInt_le, pk_sub_toInt (by omega) (by omega), Int32.le_iff_toInt_le, nI_toInt (by omega), nI_toInt (by omega)]
  cases e
  · simp only [okD, cel, Bool.false_eq_true, if_false] at hd ⊢
    simp; omega
  · simp only [okD, cel, if_true] at hd ⊢
    simp; omega
theorem r_towards {M : sl_M} {h : Nat} (hh : h < 8) (o : ok (M 1)) {e : Bool} {d : Nat} (h1 : 1 ≤ d) (hd : okD e (hm (M 1) h) d) : f5_isTowards (nI h) (nI (cel e (hm (M 1) h) d)) M = some (if twd (M 1) h e d then 1 else 0) := by
  obtain ⟨g1, g2⟩ := o.hm hh
  rw [f5_isTowards, r_home hh, pu_b, g2, if_neg (cel_ne h1 hd).2, pu_ld (x := (2 : Int32)) (k := 2) rfl (by omega) (by omega), pu_b, cel_z hd]
  unfold twd
  by_cases q : M 1 2 < nI d
  · have : ¬ nI d ≤ M 1 2 := not_le32.mpr q
    rw [if_pos q]; simp [this]
  · have q2 : nI d ≤ M 1 2 := not_lt32.mp q
    rw [if_neg q, r_open hh, pu_b]
    have k0 : ∀ b : Bool, f5_isTowards_39 (if b then (1 : Int32) else 0) (M 1 (77 + 3 * h + 2)) M = some (if bt (M 1 (77 + 3 * h + 2)) (if b then 1 else 0) then 1 else 0) := by
      intro b
      rw [f5_isTowards_39]
      have := has_bt (M 1 (77 + 3 * h + 2)) (i := if b then 1 else 0) (by cases b <;> decide)
      rw [show (if b then (1 : Int32) else 0) = nI (if b then 1 else 0) by cases b <;> rfl, this]
      cases bt (M 1 (77 + 3 * h + 2)) (if b then 1 else 0) <;> rfl
    have k1 := k0 e
    unfold opb
    cases e
    · rw [if_neg (by rw [(cel_sg h1 hd).1]; decide)]
      rw [show (if false = true then (1 : Int32) else 0) = 0 from rfl] at k1
      rw [k1]; simp [q2]
    · rw [if_pos (by rw [(cel_sg h1 hd).1])]
      rw [show (if true = true then (1 : Int32) else 0) = 1 from rfl] at k1
      rw [k1]; simp [q2]
theorem r_towards0 {M : sl_M} {h : Nat} (hh : h < 8) (o : ok (M 1)) : f5_isTowards (nI h) (nI (hm (M 1) h)) M = some 0 := by
  obtain ⟨g1, g2⟩ := o.hm hh
  rw [f5_isTowards, r_home hh, pu_b, g2, if_pos (Int32.sub_self _)]
theorem x_towards {M : sl_M} {j : Nat} {σ : Nat → Int32} (r : RL M j σ) (o : ok σ) {h : Nat} (hh : h < 8) {e : Bool} {d : Nat} (h1 : 1 ≤ d) (hd : okD e (hm σ h) d) : f0_looksTowards j (nI h) (nI (cel e (hm σ h) d)) M = some (if twd σ h e d then 1 else 0) := by
  obtain ⟨g1, g2⟩ := o.hm hh
  have key : ∀ t : Int32, (σ (77 + 3 * h + 2) &&& t = 0 ↔ opb σ h e = false) → f0_looksTowards_17 j (nI h) (nI (cel e (hm σ h) d)) (nI (hm σ h)) t M = some (if twd σ h e d then 1 else 0) := by
    intro t ht
    rw [f0_looksTowards_17, if_neg (cel_ne h1 hd).1, x_ld7 r hh, pu_b, r.2.2.2.2.1, show sl_ab (nI (cel e (hm σ h) d) - nI (hm σ h)) = nI d from cel_z hd]
    unfold twd
    by_cases q : σ (77 + 3 * h + 2) &&& t = 0
    · rw [if_pos q, ht.mp q]; simp
    · have q1 : opb σ h e = true := by
        cases q3 : opb σ h e
        · exact absurd (ht.mpr q3) q
        · rfl
      rw [if_neg q, q1]
      by_cases q2 : σ 2 < nI d
      · have : ¬ nI d ≤ σ 2 := not_le32.mpr q2
        rw [if_pos q2]; simp [this]
      · rw [if_neg q2]; simp [not_lt32.mp q2]
  obtain ⟨k, hk, ek⟩ := (o.2.2.2.2.2.1 h hh).2.2
  rw [f0_looksTowards, x_ld5 r hh, pu_b, g2]
  cases e
  · rw [if_neg (by rw [(cel_sg h1 hd).2]; decide)]
    exact key 1 (by unfold opb; rw [ek]; exact (op_1 k hk).1)
  · rw [if_pos (by rw [(cel_sg h1 hd).2])]
    exact key 2 (by unfold opb; rw [ek]; exact (op_1 k hk).2)
theorem x_towards0 {M : sl_M} {j : Nat} {σ : Nat → Int32} (r : RL M j σ) (o : ok σ) {h : Nat} (hh : h < 8) : f0_looksTowards j (nI h) (nI (hm σ h)) M = some 0 := by
  obtain ⟨g1, g2⟩ := o.hm hh
  rw [f0_looksTowards, x_ld5 r hh, pu_b, g2, if_pos (nI_le (Nat.le_refl _) (by omega)), f0_looksTowards_17, if_pos rfl]
/-! numbers of the lines -/
theorem mul_ri {x : Int32} {d : Nat} (hx : -1000 ≤ x.toInt ∧ x.toInt ≤ 1000) (hd : d ≤ 1000) : (x * nI d).toInt = x.toInt * d := by
  rw [Int32.toInt_mul, nI_toInt (by omega)]
  have h1 : -1000000 ≤ x.toInt * (d : Int) ∧ x.toInt * (d : Int) ≤ 1000000 := by
    have a0 : (0 : Int) ≤ (d : Int) := Int.natCast_nonneg d
    have a1 : (d : Int) ≤ 1000 := by omega
    constructor
    · have := Int.mul_le_mul_of_nonneg_right hx.1 a0
      omega
    · have := Int.mul_le_mul_of_nonneg_right hx.2 a0
      omega
  rw [Int.bmod_eq_of_le (by omega) (by omega)]
theorem top_b {σ : Nat → Int32} (o : ok σ) {c : Nat} (hc : c < 24) : 0 ≤ (Stop σ c).toInt ∧ (Stop σ c).toInt ≤ 300 := by
  obtain ⟨⟨k, hk, ek⟩, ⟨g, hg, eg⟩, ⟨a, ha, ea⟩⟩ := o.2.2.2.2.1 c hc
  unfold Stop f0_topFor
  rw [eg, ea, mn30]
  have w : ∃ b, b ≤ 30 ∧ (if (30 : Int32) ≤ nI a then (30 : Int32) else nI a) = nI b := by
    by_cases q : (30 : Int32) ≤ nI a
    · exact ⟨30, by omega, by rw [if_pos q]; rfl⟩
    · rw [if_neg q]
      refine ⟨a, ?_, rfl⟩
      rw [show (30 : Int32) = nI 30 from rfl, nI_leI (by omega) (by omega)] at q
      omega
  obtain ⟨b, hb, eb⟩ := w
  rw [eb]
  split
  · simp
  · split
    · rw [show (5 : Int32) = nI 5 from rfl, nI_add, nI_toInt (by omega)]; omega
    · split
      · rw [nI_add, nI_toInt (by omega)]; omega
      · split
        · rw [show (2 : Int32) = nI 2 from rfl, nI_add, pk_div (by omega) (by omega) (by omega), nI_add, nI_toInt (by omega)]; omega
        · rw [nI_toInt (by omega)]; omega
theorem sub_b {x y : Int32} (hx : 0 ≤ x.toInt ∧ x.toInt ≤ 400) (hy : 0 ≤ y.toInt ∧ y.toInt ≤ 400) : (x - y).toInt = x.toInt - y.toInt := by
  rw [Int32.toInt_sub, Int.bmod_eq_of_le (by omega) (by omega)]
theorem add_b {x y : Int32} (hx : 0 ≤ x.toInt ∧ x.toInt ≤ 400) (hy : 0 ≤ y.toInt ∧ y.toInt ≤ 400) : (x + y).toInt = x.toInt + y.toInt := by
  rw [Int32.toInt_add, Int.bmod_eq_of_le (by omega) (by omega)]
theorem eye_b {σ : Nat → Int32} (o : ok σ) {h : Nat} (hh : h < 8) : 0 ≤ (Seye σ h).toInt ∧ (Seye σ h).toInt ≤ 340 := by
  obtain ⟨g1, -⟩ := o.hm hh
  obtain ⟨k, hk, ek⟩ := (o.2.2.2.2.2.1 h hh).2.1
  have t := top_b o g1
  unfold Seye
  rw [ek, add_b ⟨t.1, by omega⟩ (by rw [nI_toInt (by omega)]; omega), nI_toInt (by omega)]
  omega
theorem ri_b {σ : Nat → Int32} (o : ok σ) {h : Nat} (hh : h < 8) {e : Bool} {d : Nat} (hd : okD e (hm σ h) d) : -1000 ≤ (ri σ h e d).toInt ∧ (ri σ h e d).toInt ≤ 1000 := by
  have t := top_b o hd.lt
  have y := eye_b o hh
  unfold ri
  rw [sub_b ⟨t.1, by omega⟩ ⟨y.1, by omega⟩]
  omega
/-- seen at distance d: every cell between has a lower line -/
def vis (σ : Nat → Int32) (h : Nat) (e : Bool) (d : Nat) : Prop := ∀ b, 1 ≤ b → b < d → ri σ h e b * nI d < ri σ h e d * nI b
theorem ff_none {q : Nat → Bool} : ∀ (k b : Nat), ff q k b = none ↔ ∀ i, b ≤ i → i < b + k → q i = false := by
  intro k
  induction k with
  | zero => intro b; simp [ff]; omega
  | succ k ih =>
    intro b
    rw [ff]
    by_cases h : q b = true
    · rw [if_pos h]
      constructor
      · intro z; cases z
      · intro z
        have := z b (Nat.le_refl _) (by omega)
        rw [h] at this; cases this
    · rw [if_neg h, ih (b + 1)]
      constructor
      · intro z i h1 h2
        by_cases hi : i = b
        · subst hi; simpa using h
        · exact z i (by omega) (by omega)
      · intro z i h1 h2
        exact z i (by omega) (by omega)
theorem vis_ff {σ : Nat → Int32} {h : Nat} {e : Bool} {d : Nat} (h1 : 1 ≤ d) : ff (hq σ h e d) (d - 1) 1 = none ↔ vis σ h e d := by
  rw [ff_none]
  unfold vis hq
  constructor
  · intro z b hb hd
    have := z b hb (by omega)
    simpa using this
  · intro z b hb hd
    have := z b hb (by omega)
    simp [this]
theorem hfo_neg {e : Bool} {p : Nat} {q : Nat → Bool} {k b d : Nat} (hb : b + k = d) (hd : okD e p d) : (0 ≤ hfo e p (ff q k b)) ↔ ff q k b ≠ none := by
  have key : ∀ (k b x : Nat), b + k = d → ff q k b = some x → x ≤ d := by
    intro k
    induction k with
    | zero => intro b x _ h; simp [ff] at h
    | succ k ih =>
      intro b x h1 h2
      rw [ff] at h2
      by_cases hq : q b = true
      · rw [if_pos hq] at h2; cases h2; omega
      · rw [if_neg hq] at h2; exact ih (b + 1) x (by omega) h2
  cases hf : ff q k b with
  | none => simp [hfo]
  | some x =>
    have hx := key k b x hb hf
    have hl := (hd.mono hx).lt
    simp only [hfo, ne_eq, reduceCtorEq, not_false_eq_true, iff_true]
    exact nI_pos' (by omega)
