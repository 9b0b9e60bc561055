/-! the land as a row of 111 ints, its sights and taxes -/
def hm (σ : Nat → Int32) (h : Nat) : Nat := (σ (77 + 3 * h)).toNatClampNeg
def Stop (σ : Nat → Int32) (c : Nat) : Int32 := f0_topFor (σ (5 + 3 * c)) (σ (5 + 3 * c + 1)) (σ (5 + 3 * c + 2))
def wor (k : Int32) : Int32 := if k = 1 then 5 else if k = 2 then 3 else if k = 3 then 20 else if k = 4 then 0 else if k = 6 then 3 else 1
def Swor (σ : Nat → Int32) (c : Nat) : Int32 := wor (σ (5 + 3 * c))
def Seye (σ : Nat → Int32) (h : Nat) : Int32 := Stop σ (hm σ h) + σ (77 + 3 * h + 1)
def okC (σ : Nat → Int32) : Prop := ∀ c, c < 24 → (∃ k, k < 7 ∧ σ (5 + 3 * c) = nI k) ∧ (∃ k, k ≤ 99 ∧ σ (5 + 3 * c + 1) = nI k) ∧ ∃ k, k ≤ 99 ∧ σ (5 + 3 * c + 2) = nI k
def okH (σ : Nat → Int32) : Prop := ∀ h, h < 8 → (∃ k, k < 24 ∧ σ (77 + 3 * h) = nI k) ∧ (∃ k, k ≤ 40 ∧ σ (77 + 3 * h + 1) = nI k) ∧ ∃ k, k < 4 ∧ σ (77 + 3 * h + 2) = nI k
def okS (σ : Nat → Int32) : Prop := ∀ k, k < 10 → σ (101 + k) = -1 ∨ ∃ c, c < 24 ∧ σ (101 + k) = nI c
def ok (σ : Nat → Int32) : Prop := (∃ y, y ≤ 999 ∧ σ 0 = nI y) ∧ (∃ n, n ≤ 8 ∧ σ 1 = nI n) ∧ (∃ z, 1 ≤ z ∧ z ≤ 23 ∧ σ 2 = nI z) ∧ (∃ r, r ≤ 99 ∧ σ 3 = nI r) ∧ okC σ ∧ okH σ ∧ okS σ
theorem ok.hm {σ : Nat → Int32} (h : ok σ) {i : Nat} (hi : i < 8) : hm σ i < 24 ∧ σ (77 + 3 * i) = nI (hm σ i) := by
  obtain ⟨k, hk, e⟩ := (h.2.2.2.2.2.1 i hi).1
  have : Jvm.Pilot.@@N@@.hm σ i = k := by unfold Jvm.Pilot.@@N@@.hm; rw [e, nI_clamp (by omega)]
  rw [this]
  exact ⟨hk, e⟩
/-- the picture of a land of the class -/
def RL (M : sl_M) (j : Nat) (σ : Nat → Int32) : Prop :=
  (∀ c, c < 24 → M (9 * j + 1) c = σ (5 + 3 * c) ∧ M (9 * j + 2) c = σ (5 + 3 * c + 1) ∧ M (9 * j + 3) c = σ (5 + 3 * c + 2) ∧ M (9 * j + 4) c = Stop σ c) ∧
  (∀ h, h < 8 → M (9 * j + 5) h = σ (77 + 3 * h) ∧ M (9 * j + 6) h = σ (77 + 3 * h + 1) ∧ M (9 * j + 7) h = σ (77 + 3 * h + 2)) ∧
  (∀ k, k < 10 → M (9 * j + 8) k = σ (101 + k)) ∧ M (9 * j) 8 = σ 1 ∧ M (9 * j) 9 = σ 2 ∧ M (9 * j) 10 = σ 3 ∧ M (9 * j) 11 = σ 0 ∧ M (9 * j) 12 = σ 4
theorem ix5 (c : Nat) : (5 : Int32) + (3 : Int32) * nI c = nI (5 + 3 * c) := by
  show nI 5 + nI 3 * nI c = _
  rw [pk_mul, nI_add]
theorem ix51 (c : Nat) : (5 : Int32) + (3 : Int32) * nI c + (1 : Int32) = nI (5 + 3 * c + 1) := by rw [ix5]; exact nI_1 _
theorem ix52 (c : Nat) : (5 : Int32) + (3 : Int32) * nI c + (2 : Int32) = nI (5 + 3 * c + 2) := by
  rw [ix5]; show nI _ + nI 2 = _; rw [nI_add]
theorem ix7 (c : Nat) : (77 : Int32) + (3 : Int32) * nI c = nI (77 + 3 * c) := by
  show nI 77 + nI 3 * nI c = _
  rw [pk_mul, nI_add]
theorem ix71 (c : Nat) : (77 : Int32) + (3 : Int32) * nI c + (1 : Int32) = nI (77 + 3 * c + 1) := by rw [ix7]; exact nI_1 _
theorem ix72 (c : Nat) : (77 : Int32) + (3 : Int32) * nI c + (2 : Int32) = nI (77 + 3 * c + 2) := by
  rw [ix7]; show nI _ + nI 2 = _; rw [nI_add]
section R
variable {M : sl_M}
theorem r_kind {c : Nat} (h : c < 24) : f5_kindOf (nI c) M = some (M 1 (5 + 3 * c)) := by
  rw [f5_kindOf, pu_ld (ix5 c) (by omega) (by omega)]; rfl
theorem r_high {c : Nat} (h : c < 24) : f5_heightOf (nI c) M = some (M 1 (5 + 3 * c + 1)) := by
  rw [f5_heightOf, pu_ld (ix51 c) (by omega) (by omega)]; rfl
theorem r_age {c : Nat} (h : c < 24) : f5_ageOf (nI c) M = some (M 1 (5 + 3 * c + 2)) := by
  rw [f5_ageOf, pu_ld (ix52 c) (by omega) (by omega)]; rfl
theorem r_home {h : Nat} (hh : h < 8) : f5_cellAt (nI h) M = some (M 1 (77 + 3 * h)) := by
  rw [f5_cellAt, pu_ld (ix7 h) (by omega) (by omega)]; rfl
theorem r_open {h : Nat} (hh : h < 8) : f5_openOf (nI h) M = some (M 1 (77 + 3 * h + 2)) := by
  rw [f5_openOf, pu_ld (ix72 h) (by omega) (by omega)]; rfl
theorem mn30 (a : Int32) : sl_mn a 30 = if (30 : Int32) ≤ a then 30 else a := by
  unfold sl_mn
  by_cases h : (30 : Int32) < a
  · rw [if_pos h, if_pos (by rw [Int32.le_iff_toInt_le]; rw [Int32.lt_iff_toInt_lt] at h; omega)]
  · rw [if_neg h]
    by_cases h2 : (30 : Int32) ≤ a
    · rw [if_pos h2]
      rw [Int32.le_iff_toInt_le] at h2
      rw [Int32.lt_iff_toInt_lt] at h
      exact Int32.toInt_inj.mp (by omega)
    · rw [if_neg h2]
theorem r_top20 {c : Nat} (h : c < 24) {t : Int32} (ht : t = sl_mn (M 1 (5 + 3 * c + 2)) 30) : f5_top_20 (nI c) t M = some (Stop (M 1) c) := by
  subst ht
  rw [f5_top_20, r_kind h, pu_b, r_high h, r_age h]
  unfold Stop f0_topFor
  simp only [pu_b]
  split
  · rfl
  · split
    · rfl
    · split
      · rfl
      · split <;> rfl
theorem r_top {c : Nat} (h : c < 24) : f5_top (nI c) M = some (Stop (M 1) c) := by
  rw [f5_top, r_age h, pu_b]
  by_cases h3 : (30 : Int32) ≤ M 1 (5 + 3 * c + 2)
  · rw [if_pos h3]
    exact r_top20 h (by rw [mn30, if_pos h3])
  · rw [if_neg h3, pu_b]
    exact r_top20 h (by rw [mn30, if_neg h3])
theorem r_worth {c : Nat} (h : c < 24) : f5_worth (nI c) M = some (Swor (M 1) c) := by
  rw [f5_worth, r_kind h, pu_b]
  unfold Swor wor
  split
  · rfl
  · split
    · rfl
    · split
      · rfl
      · split
        · rfl
        · split <;> rfl
theorem r_eye {h : Nat} (hh : h < 8) (o : ok (M 1)) : f5_eye (nI h) M = some (Seye (M 1) h) := by
  obtain ⟨h1, h2⟩ := o.hm hh
  rw [f5_eye, r_home hh, pu_b, h2, r_top h1, pu_b, pu_ld (ix71 h) (by omega) (by omega)]
  rfl
theorem r_isHouse {x : Int32} : f5_isHouse x M = some (f4_isWithin x 0 (M 1 1 - 1)) := by
  rw [f5_isHouse, pu_ld (x := (1 : Int32)) (k := 1) rfl (by omega) (by omega), pu_b]
  have e := in_w x 0 (M 1 1 - 1)
  rw [show ((0 : Int32).toInt64) = (0 : Int64) from rfl] at e
  rw [e]
  rcases f4_isWithin_b (x0 := x) (x1 := 0) (x2 := M 1 1 - 1) with h | h <;> rw [h] <;> rfl
end R
section X
variable {M : sl_M} {j : Nat} {σ : Nat → Int32}
theorem x_ld1 (h : RL M j σ) {c : Nat} (hc : c < 24) : sl_ld (M (9 * j + 1)) 24 (nI c) = some (σ (5 + 3 * c)) := by rw [pu_ld rfl hc (by omega), (h.1 c hc).1]
theorem x_ld2 (h : RL M j σ) {c : Nat} (hc : c < 24) : sl_ld (M (9 * j + 2)) 24 (nI c) = some (σ (5 + 3 * c + 1)) := by rw [pu_ld rfl hc (by omega), (h.1 c hc).2.1]
theorem x_ld3 (h : RL M j σ) {c : Nat} (hc : c < 24) : sl_ld (M (9 * j + 3)) 24 (nI c) = some (σ (5 + 3 * c + 2)) := by rw [pu_ld rfl hc (by omega), (h.1 c hc).2.2.1]
theorem x_ld4 (h : RL M j σ) {c : Nat} (hc : c < 24) : sl_ld (M (9 * j + 4)) 24 (nI c) = some (Stop σ c) := by rw [pu_ld rfl hc (by omega), (h.1 c hc).2.2.2]
theorem x_ld5 (h : RL M j σ) {c : Nat} (hc : c < 8) : sl_ld (M (9 * j + 5)) 8 (nI c) = some (σ (77 + 3 * c)) := by rw [pu_ld rfl hc (by omega), (h.2.1 c hc).1]
theorem x_ld6 (h : RL M j σ) {c : Nat} (hc : c < 8) : sl_ld (M (9 * j + 6)) 8 (nI c) = some (σ (77 + 3 * c + 1)) := by rw [pu_ld rfl hc (by omega), (h.2.1 c hc).2.1]
theorem x_ld7 (h : RL M j σ) {c : Nat} (hc : c < 8) : sl_ld (M (9 * j + 7)) 8 (nI c) = some (σ (77 + 3 * c + 2)) := by rw [pu_ld rfl hc (by omega), (h.2.1 c hc).2.2]
theorem x_ld8 (h : RL M j σ) {c : Nat} (hc : c < 10) : sl_ld (M (9 * j + 8)) 10 (nI c) = some (σ (101 + c)) := by rw [pu_ld rfl hc (by omega), h.2.2.1 c hc]
theorem x_eye (r : RL M j σ) (o : ok σ) {h : Nat} (hh : h < 8) : f0_eyeOf j (nI h) M = some (Seye σ h) := by
  obtain ⟨h1, h2⟩ := o.hm hh
  rw [f0_eyeOf, x_ld5 r hh, pu_b, h2, x_ld4 r h1, pu_b, x_ld6 r hh]
  rfl
theorem wo_all : ∀ k, k < 7 → sl_wo.getD k 0 = wor (nI k) := by decide +kernel
theorem x_worth (r : RL M j σ) (o : ok σ) {c : Nat} (hc : c < 24) : f0_worthOf j (nI c) M = some (Swor σ c) := by
  obtain ⟨k, hk, e⟩ := (o.2.2.2.2.1 c hc).1
  rw [f0_worthOf, x_ld1 r hc, pu_b, e, pu_ld rfl hk (by omega), pu_b, wo_all k hk]
  unfold Swor
  rw [e]
end X
/-! who hides: cells by their distance d from the house, to the east or to the west -/
def cel (e : Bool) (p d : Nat) : Nat := if e then p + d else p - d
def okD (e : Bool) (p d : Nat) : Prop := if e then p + d < 24 else d ≤ p ∧ p < 24
def stp (e : Bool) : Int32 := if e then 1 else -1
theorem okD.lt {e : Bool} {p d : Nat} (h : okD e p d) : cel e p d < 24 := by
  cases e
  · simp only [okD, cel, Bool.false_eq_true, if_false] at h ⊢; omega
  · simp only [okD, cel, if_true] at h ⊢; omega
theorem okD.mono {e : Bool} {p d d2 : Nat} (h : okD e p d) (h2 : d2 ≤ d) : okD e p d2 := by
  cases e
  · simp only [okD, Bool.false_eq_true, if_false] at h ⊢; omega
  · simp only [okD, if_true] at h ⊢; omega
theorem neg_nI (d : Nat) : (-1 : Int32) * nI d = -nI d := by rw [Int32.neg_mul, Int32.one_mul]
theorem sub_nI {p d : Nat} (h : d ≤ p) : nI p + -nI d = nI (p - d) := by rw [← Int32.sub_eq_add_neg, pk_sub h]
theorem cel_x {e : Bool} {p d : Nat} (h : okD e p d) : nI p + stp e * nI d = nI (cel e p d) := by
  cases e
  · simp only [okD, cel, stp, Bool.false_eq_true, if_false] at h ⊢
    rw [neg_nI, sub_nI h.1]
  · simp only [okD, cel, stp, if_true] at h ⊢
    rw [Int32.one_mul, nI_add]
theorem cel_s {e : Bool} {p d : Nat} (h : okD e p (d + 1)) : nI (cel e p d) + stp e = nI (cel e p (d + 1)) := by
  cases e
  · simp only [okD, cel, stp, Bool.false_eq_true, if_false] at h ⊢
    have e1 : p - d = (p - (d + 1)) + 1 := by omega
    rw [e1, pk_m1]
  · simp only [okD, cel, stp, if_true] at h ⊢
    rw [nI_1]; rfl
theorem cel_z {e : Bool} {p d : Nat} (h : okD e p d) : f5_size (nI (cel e p d) - nI p) = nI d := by
  unfold f5_size
  cases e
  · simp only [okD, cel, Bool.false_eq_true, if_false] at h ⊢
    by_cases h0 : d = 0
    · subst h0
      rw [Nat.sub_zero, Int32.sub_self]; rfl
    · have hn : ¬ (0 : Int32) ≤ nI (p - d) - nI p := by
        rw [Int32.le_iff_toInt_le, pk_sub_toInt (by omega) (by omega)]
        simp; omega
      rw [if_neg hn, ← pk_sub h.1, Int32.sub_eq_add_neg (a := nI p), Int32.add_comm, Int32.sub_eq_add_neg (a := -nI d + nI p), Int32.add_assoc, Int32.add_right_neg, Int32.add_zero]
      simp
  · simp only [okD, cel, if_true] at h ⊢
    rw [pk_sub (by omega), show p + d - p = d by omega, if_pos (nI_pos' (by omega))]
theorem cel_inj {e : Bool} {p d d2 : Nat} (h : okD e p d) (h2 : okD e p d2) (q : cel e p d = cel e p d2) : d = d2 := by
  cases e
  · simp only [okD, cel, Bool.false_eq_true, if_false] at h h2 q; omega
  · simp only [okD, cel, if_true] at h h2 q; omega
def ff (q : Nat → Bool) : Nat → Nat → Option Nat
  | 0, _ => none
  | n + 1, b => if q b then some b else ff q n (b + 1)
def ri (σ : Nat → Int32) (h : Nat) (e : Bool) (d : Nat) : Int32 := Stop σ (cel e (hm σ h) d) - Seye σ h
/-- the cell at distance b hides the one at distance d -/
def hq (σ : Nat → Int32) (h : Nat) (e : Bool) (d : Nat) (b : Nat) : Bool := !decide (ri σ h e b * nI d < ri σ h e d * nI b)
def hfo (e : Bool) (p : Nat) (o : Option Nat) : Int32 := match o with
  | none => -1
  | some b => nI (cel e p b)
section HR
variable {M : sl_M}
theorem r_hiding {h : Nat} (hh : h < 8) (o : ok (M 1)) {e : Bool} {d b : Nat} (hd : okD e (hm (M 1) h) d) (hb : okD e (hm (M 1) h) b) :
    f5_isHiding (nI h) (nI (cel e (hm (M 1) h) b)) (nI (cel e (hm (M 1) h) d)) M = some (if hq (M 1) h e d b then 1 else 0) := by
  obtain ⟨h1, h2⟩ := o.hm hh
  rw [f5_isHiding, r_eye hh o, pu_b, r_home hh, pu_b, pu_b, h2, r_top hb.lt, pu_b, r_top hd.lt, pu_b, cel_z hd, cel_z hb]
  unfold hq ri
  by_cases q : (Stop (M 1) (cel e (hm (M 1) h) b) - Seye (M 1) h) * nI d < (Stop (M 1) (cel e (hm (M 1) h) d) - Seye (M 1) h) * nI b
  · rw [if_pos q]; simp [q]
  · rw [if_neg q]; simp [q]
theorem r_hf {h : Nat} (hh : h < 8) (o : ok (M 1)) {e : Bool} {d : Nat} (hd : okD e (hm (M 1) h) d) : ∀ (k b n : Nat), b + k = d → 1 ≤ b → k < n → f5_hider_24 M (nI h) (nI (cel e (hm (M 1) h) d)) (stp e) n (nI (cel e (hm (M 1) h) b)) = some (hfo e (hm (M 1) h) (ff (hq (M 1) h e d) k b)) := by
  intro k
  induction k with
  | zero =>
    intro b n hb h1 hn
    obtain ⟨n, rfl⟩ : ∃ z, n = z + 1 := ⟨n - 1, by omega⟩
    have e1 : b = d := by omega
    subst e1
    rw [f5_hider_24, if_pos rfl, f5_hider_50, if_pos rfl]; rfl
  | succ k ih =>
    intro b n hb h1 hn
    obtain ⟨n, rfl⟩ : ∃ z, n = z + 1 := ⟨n - 1, by omega⟩
    have hbd : okD e (hm (M 1) h) b := hd.mono (by omega)
    have hne : ¬ nI (cel e (hm (M 1) h) b) = nI (cel e (hm (M 1) h) d) := by
      intro q
      have l1 := hbd.lt
      have l2 := hd.lt
      have := cel_inj hbd hd ((nI_eq (by omega) (by omega)).mp q)
      omega
    rw [f5_hider_24, if_neg hne, r_hiding hh o hd hbd, pu_b, ff]
    by_cases q : hq (M 1) h e d b = true
    · rw [if_pos q, if_neg (by decide), f5_hider_50, if_neg hne, if_pos q]; rfl
    · rw [if_neg q, if_pos rfl, if_neg q, cel_s (hd.mono (by omega))]
      exact ih (b + 1) n (by omega) (by omega) (by omega)
theorem r_hider {h : Nat} (hh : h < 8) (o : ok (M 1)) {e : Bool} {d : Nat} (h1 : 1 ≤ d) (hd : okD e (hm (M 1) h) d) : f5_hider (nI h) (nI (cel e (hm (M 1) h) d)) M = some (hfo e (hm (M 1) h) (ff (hq (M 1) h e d) (d - 1) 1)) := by
  obtain ⟨g1, g2⟩ := o.hm hh
  have hl := hd.lt
  have key : f5_hider_14 (nI h) (nI (cel e (hm (M 1) h) d)) (stp e) M = some (hfo e (hm (M 1) h) (ff (hq (M 1) h e d) (d - 1) 1)) := by
    rw [f5_hider_14, r_home hh, pu_b, g2]
    have e0 : nI (hm (M 1) h) + stp e = nI (cel e (hm (M 1) h) 1) := by
      have := cel_s (e := e) (p := hm (M 1) h) (d := 0) (hd.mono h1)
      rwa [show cel e (hm (M 1) h) 0 = hm (M 1) h by cases e <;> simp [cel]] at this
    rw [e0]
    exact r_hf hh o hd (d - 1) 1 400 (by omega) (by omega) (by cases e <;> simp [okD] at hd <;> omega)
  rw [f5_hider, r_home hh, pu_b, g2]
  cases e
  · simp only [okD, Bool.false_eq_true, if_false] at hd
    have : nI (cel false (hm (M 1) h) d) ≤ nI (hm (M 1) h) := nI_le (by simp [cel]) (by omega)
    rw [if_pos this]; exact key
  · simp only [okD, if_true] at hd
    have : ¬ nI (cel true (hm (M 1) h) d) ≤ nI (hm (M 1) h) := nI_ge (by simp [cel]; omega) (by omega)
    rw [if_neg this]; exact key
end HR
