/-! tokens -/
def s45 (v : Int32) : Nat := if v = 59 then 3 else 4
def s31 (v : Int32) : Nat := if v < 48 then s45 v else if 57 < v then s45 v else 2
def s0 (v : Int32) : Nat := if v < 97 then s31 v else if 122 < v then s31 v else 1
def sr (b : Nat → Int32) (t i : Nat) : Nat := if i < t then s0 (b i) else 0
theorem s0_all : ∀ n, n < 256 → (s0 (nI n) = 1 → ¬ f5_isLetter (nI n) = 0 ∧ 97 ≤ n ∧ n ≤ 122) ∧ (¬ s0 (nI n) = 1 → f5_isLetter (nI n) = 0) ∧ (s0 (nI n) = 2 → ¬ f5_isDigit (nI n) = 0 ∧ 48 ≤ n ∧ n ≤ 57) ∧ (¬ s0 (nI n) = 2 → f5_isDigit (nI n) = 0) ∧ (s0 (nI n) = 3 ↔ nI n = 59) ∧ 1 ≤ s0 (nI n) ∧ s0 (nI n) ≤ 4 := by decide +kernel
def vl (b : Nat → Int32) (f : Nat) : Nat → Nat
  | 0 => 0
  | k + 1 => if vl b f k ≤ 999 then vl b f k * 10 + ((b (f + k)).toNatClampNeg - 48) else vl b f k
def T0 (X0 R0 : sl_M) (t : Nat) : Prop := t ≤ 120 ∧ R0 0 11 = nI t ∧ ∀ i, i < t → X0 29 i = R0 7 i ∧ ∃ c, c < 256 ∧ R0 7 i = nI c
def FXx (X0 X : sl_M) : Prop := ∀ r, r ≠ 28 → (r < 9 ∨ 18 ≤ r) → X r = X0 r
def FRr (R0 R : sl_M) : Prop := (∀ r, r ≠ 0 → r ≠ 1 → R r = R0 r) ∧ ∀ k, k < 12 → R 0 k = R0 0 k
def Tk (b : Nat → Int32) (t f e : Nat) : Prop := f ≤ e ∧ e ≤ t ∧ (f < t → f < e) ∧ (sr b t f = 1 → ∀ i, f ≤ i → i < e → sr b t i = 1) ∧ (sr b t f = 2 → ∀ i, f ≤ i → i < e → sr b t i = 2)
theorem FXx.up {X0 X : sl_M} (h : FXx X0 X) (k : Nat) (v : Int32) : FXx X0 (sl_up X 28 k v) := fun r r1 r2 => by rw [pu_upn r1]; exact h r r1 r2
theorem FRr.up {R0 R : sl_M} (h : FRr R0 R) {k : Nat} (hk : 12 ≤ k) (v : Int32) : FRr R0 (sl_up R 0 k v) := ⟨fun r r0 r1 => by rw [pu_upn r0]; exact h.1 r r0 r1, fun j hj => by rw [pu_ups, pu_un (by omega)]; exact h.2 j hj⟩
theorem up_self (M : sl_M) (r i : Nat) : sl_up M r i (M r i) = M := by
  funext q
  by_cases h : q = r
  · subst h; rw [pu_ups, pu_self]
  · rw [pu_upn h]
section TK
variable {X0 R0 X R : sl_M} {t : Nat}
theorem T0.b (T : T0 X0 R0 t) (hx : FXx X0 X) {i : Nat} (hi : i < t) : sl_ld (X 29) 120 (nI i) = some (R0 7 i) := by
  rw [pu_ld rfl (show i < 120 by have := T.1; omega) (by omega), hx 29 (by omega) (by omega), (T.2.2 i hi).1]
theorem T0.r (T : T0 X0 R0 t) (hr : FRr R0 R) {i : Nat} (hi : i < t) : sl_ld (R 7) 120 (nI i) = some (R0 7 i) := by
  rw [pu_ld rfl (show i < 120 by have := T.1; omega) (by omega), hr.1 7 (by omega) (by omega)]
theorem x_sort (T : T0 X0 R0 t) (hx : FXx X0 X) (h1 : X 28 1 = nI t) (i : Nat) (hi : i ≤ t) : f2_sortAt (nI i) X = some (nI (sr (R0 7) t i)) := by
  have ht := T.1
  rw [f2_sortAt, h1, sr]
  by_cases q : i < t
  · rw [if_pos (nI_lt q (by omega)), if_pos q, T.b hx q, pu_b, s0]
    have e31 : ∀ v, f2_sortAt_31 v X = some (nI (s31 v)) := by
      intro v
      have e45 : f2_sortAt_45 v X = some (nI (s45 v)) := by
        rw [f2_sortAt_45, s45]
        by_cases z : v = 59
        · rw [if_pos z, if_pos z]; rfl
        · rw [if_neg z, if_neg z]; rfl
      rw [f2_sortAt_31, s31, e45]
      by_cases z : v < 48
      · rw [if_pos z, if_pos z]
      · rw [if_neg z, if_neg z]
        by_cases z2 : 57 < v
        · rw [if_pos z2, if_pos z2]
        · rw [if_neg z2, if_neg z2]; rfl
    rw [e31]
    by_cases z : R0 7 i < 97
    · rw [if_pos z, if_pos z]
    · rw [if_neg z, if_neg z]
      by_cases z2 : 122 < R0 7 i
      · rw [if_pos z2, if_pos z2]
      · rw [if_neg z2, if_neg z2]; rfl
  · rw [if_neg (nI_nlt (by omega) (by omega)), if_neg q]; rfl
theorem r_byte (T : T0 X0 R0 t) (hr : FRr R0 R) {i : Nat} (hi : i ≤ t) : f5_byteAt (nI i) R = some (if i < t then R0 7 i else -1) := by
  have ht := T.1
  rw [f5_byteAt, hr.2 11 (by omega), T.2.1]
  by_cases q : i < t
  · rw [if_neg (nI_ge q (by omega)), T.r hr q, pu_b, if_pos q]
  · rw [if_pos (nI_le (by omega) (by omega)), if_neg q]
theorem b_let (T : T0 X0 R0 t) {i : Nat} : f5_isLetter (if i < t then R0 7 i else -1) = 0 ↔ ¬ sr (R0 7) t i = 1 := by
  rw [sr]
  by_cases q : i < t
  · rw [if_pos q, if_pos q]
    obtain ⟨c, hc, e⟩ := (T.2.2 i q).2
    obtain ⟨a1, a2, -⟩ := s0_all c hc
    rw [e]
    exact ⟨fun z w => (a1 w).1 z, a2⟩
  · rw [if_neg q, if_neg q]
    exact ⟨fun _ => by decide, fun _ => by decide⟩
theorem b_dig (T : T0 X0 R0 t) {i : Nat} : f5_isDigit (if i < t then R0 7 i else -1) = 0 ↔ ¬ sr (R0 7) t i = 2 := by
  rw [sr]
  by_cases q : i < t
  · rw [if_pos q, if_pos q]
    obtain ⟨c, hc, e⟩ := (T.2.2 i q).2
    obtain ⟨-, -, a1, a2, -⟩ := s0_all c hc
    rw [e]
    exact ⟨fun z w => (a1 w).1 z, a2⟩
  · rw [if_neg q, if_neg q]
    exact ⟨fun _ => by decide, fun _ => by decide⟩
/-- the class, within a token -/
def XS (X0 Xs : sl_M) (b : Nat → Int32) (t f : Nat) (X : sl_M) (i : Nat) : Prop :=
  FXx X0 X ∧ X 28 1 = nI t ∧ X 28 4 = nI f ∧ X 28 3 = nI (sr b t f) ∧ X 28 2 = nI i ∧ (sr b t f = 2 → X 28 5 = nI (vl b f (i - f))) ∧ ∀ r, r ≠ 28 → X r = Xs r
theorem vl_le (T : T0 X0 R0 t) (f : Nat) : ∀ k, f + k ≤ t → vl (R0 7) f k ≤ 20000 := by
  intro k
  induction k with
  | zero => intro _; exact Nat.zero_le _
  | succ k ih =>
    intro h
    have := ih (by omega)
    rw [vl]
    by_cases q : vl (R0 7) f k ≤ 999
    · rw [if_pos q]
      obtain ⟨c, hc, e⟩ := (T.2.2 (f + k) (by omega)).2
      rw [e, nI_clamp (by omega)]
      omega
    · rw [if_neg q]; exact this
theorem x_adv (T : T0 X0 R0 t) {Xs : sl_M} {f i : Nat} (h : XS X0 Xs (R0 7) t f X i) (hf : f ≤ i) (hi : i < t) (hs : sr (R0 7) t i = sr (R0 7) t f) : ∃ X', XS X0 Xs (R0 7) t f X' (i + 1) ∧ ∀ n, f2_step_116 (f2_step_63 n) X = f2_step_63 n X' := by
  obtain ⟨a1, a2, a3, a4, a5, a6, a7⟩ := h
  have ht := T.1
  by_cases q : sr (R0 7) t f = 2
  · have e5 := a6 q
    have hv := vl_le T f (i - f) (by omega)
    obtain ⟨c, hc, e⟩ := (T.2.2 i hi).2
    have hd : 48 ≤ c ∧ c ≤ 57 := by
      have := (s0_all c hc).2.2.1
      rw [q, sr, if_pos hi, e] at hs
      exact (this hs).2
    have ed : (R0 7 (f + (i - f))).toNatClampNeg - 48 = c - 48 := by rw [show f + (i - f) = i by omega, e, nI_clamp (by omega)]
    refine ⟨sl_up (sl_up X 28 5 (nI (vl (R0 7) f (i + 1 - f)))) 28 2 (nI (i + 1)), ⟨(a1.up _ _).up _ _, ?_, ?_, ?_, ?_, ?_, fun r hr => by rw [pu_upn hr, pu_upn hr]; exact a7 r hr⟩, fun n => ?_⟩
    · rw [pu_ups, pu_un (by omega), pu_ups, pu_un (by omega)]; exact a2
    · rw [pu_ups, pu_un (by omega), pu_ups, pu_un (by omega)]; exact a3
    · rw [pu_ups, pu_un (by omega), pu_ups, pu_un (by omega)]; exact a4
    · rw [pu_ups, pu_us]
    · intro _; rw [pu_ups, pu_un (by omega), pu_ups, pu_us]
    · have eN : f2_takeDigit (R0 7 i - 48) X = some (sl_up X 28 5 (nI (vl (R0 7) f (i + 1 - f)))) := by
        rw [f2_takeDigit, e5, show i + 1 - f = (i - f) + 1 by omega, vl, ed]
        by_cases z : vl (R0 7) f (i - f) ≤ 999
        · rw [if_pos (lek (x := 999) (N := 999) rfl z (by omega)), if_pos z, e, show nI c - 48 = nI (c - 48) from pk_sub (b := 48) hd.1, show nI (vl (R0 7) f (i - f)) * 10 = nI (vl (R0 7) f (i - f) * 10) from pk_mul _ 10, nI_add]
        · rw [if_neg (lnk (x := 999) (N := 999) rfl (by omega) (by omega)), if_neg z]
      rw [f2_step_116, a4, q, if_pos (show nI 2 = 2 from rfl), a5, T.b a1 hi, pu_b, eN, pu_b, f2_step_140, pu_ups, pu_un (by omega), a5, nI_1]
  · refine ⟨sl_up X 28 2 (nI (i + 1)), ⟨a1.up _ _, ?_, ?_, ?_, ?_, fun z => absurd z q, fun r hr => by rw [pu_upn hr]; exact a7 r hr⟩, fun n => ?_⟩
    · rw [pu_ups, pu_un (by omega)]; exact a2
    · rw [pu_ups, pu_un (by omega)]; exact a3
    · rw [pu_ups, pu_un (by omega)]; exact a4
    · rw [pu_ups, pu_us]
    · have hq : sr (R0 7) t f < 2 ^ 31 := by
        rw [← hs, sr, if_pos hi]
        obtain ⟨c, hc, e⟩ := (T.2.2 i hi).2
        have := (s0_all c hc).2.2.2.2.2.2
        rw [e]; omega
      rw [f2_step_116, a4, if_neg (show ¬ nI (sr (R0 7) t f) = 2 from fun z => q ((nI_eq hq (by omega)).mp z)), f2_step_140, a5, nI_1]
/-- the reference, within a token -/
def RS (R0 Rs : sl_M) (f : Nat) (R : sl_M) (i : Nat) : Prop := FRr R0 R ∧ R 0 12 = nI f ∧ R 0 13 = nI i ∧ (∀ k, 14 ≤ k → R 0 k = Rs 0 k) ∧ R 1 = Rs 1
theorem sr_lt (T : T0 X0 R0 t) (i : Nat) : sr (R0 7) t i < 5 := by
  rw [sr]
  by_cases q : i < t
  · rw [if_pos q]
    obtain ⟨c, hc, e⟩ := (T.2.2 i q).2
    have := (s0_all c hc).2.2.2.2.2.2
    rw [e]; omega
  · rw [if_neg q]; omega
theorem sr_eq (T : T0 X0 R0 t) (i j : Nat) : nI (sr (R0 7) t i) = nI (sr (R0 7) t j) ↔ sr (R0 7) t i = sr (R0 7) t j := nI_eq (by have := sr_lt T i; omega) (by have := sr_lt T j; omega)
theorem sr_n (T : T0 X0 R0 t) (i : Nat) {k : Nat} (hk : k < 5) {x : Int32} (e : x = nI k) : nI (sr (R0 7) t i) = x ↔ sr (R0 7) t i = k := by subst e; exact nI_eq (by have := sr_lt T i; omega) (by omega)
theorem s_run (T : T0 X0 R0 t) {Xs Rs : sl_M} {f : Nat} (hft : f < t) : ∀ (k i n m : Nat) (X R : sl_M), i + k = t → f < i → k < n → k < m → XS X0 Xs (R0 7) t f X i → RS R0 Rs f R i → (sr (R0 7) t f = 1 → ∀ j, f ≤ j → j < i → sr (R0 7) t j = 1) → (sr (R0 7) t f = 2 → ∀ j, f ≤ j → j < i → sr (R0 7) t j = 2) →
    ∃ e X' R', f2_step_63 n X = some X' ∧ f5_token_86 (f5_isLetter (R0 7 f)) (f5_isDigit (R0 7 f)) m R = some R' ∧ Tk (R0 7) t f e ∧ XS X0 Xs (R0 7) t f X' e ∧ RS R0 Rs f R' e := by
  have ht := T.1
  have hl : f5_isLetter (R0 7 f) = 0 ↔ ¬ sr (R0 7) t f = 1 := by have := b_let T (i := f); rwa [if_pos hft] at this
  have hd : f5_isDigit (R0 7 f) = 0 ↔ ¬ sr (R0 7) t f = 2 := by have := b_dig T (i := f); rwa [if_pos hft] at this
  intro k
  induction k with
  | zero =>
    intro i n m X R hi hf hn hm hX hR h1 h2
    obtain ⟨n, rfl⟩ : ∃ z, n = z + 1 := ⟨n - 1, by omega⟩
    obtain ⟨m, rfl⟩ : ∃ z, m = z + 1 := ⟨m - 1, by omega⟩
    have e : i = t := by omega
    subst e
    refine ⟨i, X, R, ?_, ?_, ⟨by omega, by omega, fun _ => hf, h1, h2⟩, hX, hR⟩
    · rw [f2_step_63, hX.2.1, hX.2.2.2.2.1, if_pos (nI_le (Nat.le_refl _) (by omega))]
    · have l0 : f5_isLetter (if i < i then R0 7 i else -1) = 0 := by rw [if_neg (by omega)]; decide
      have d0 : f5_isDigit (if i < i then R0 7 i else -1) = 0 := by rw [if_neg (by omega)]; decide
      rw [f5_token_86, hR.2.2.1, r_byte T hR.1 (by omega), pu_b, if_pos l0, f5_token_104, hR.2.2.1, r_byte T hR.1 (by omega), pu_b, if_pos d0, ite_self, ite_self]
  | succ k ih =>
    intro i n m X R hi hf hn hm hX hR h1 h2
    obtain ⟨n, rfl⟩ : ∃ z, n = z + 1 := ⟨n - 1, by omega⟩
    obtain ⟨m, rfl⟩ : ∃ z, m = z + 1 := ⟨m - 1, by omega⟩
    have li := b_let T (i := i)
    have di := b_dig T (i := i)
    have x1 : f2_step_63 (n + 1) X = if sr (R0 7) t i = sr (R0 7) t f then (if sr (R0 7) t f = 1 then f2_step_116 (f2_step_63 n) X else if sr (R0 7) t f = 2 then f2_step_116 (f2_step_63 n) X else some X) else some X := by
      rw [f2_step_63, hX.2.1, hX.2.2.2.2.1, if_neg (nI_ge (show i < t by omega) (by omega)), x_sort T hX.1 hX.2.1 i (by omega), pu_b, hX.2.2.2.1, hX.2.2.1, if_neg (show ¬ nI i = nI f from fun z => by have := (nI_eq (by omega) (by omega)).mp z; omega)]
      simp only [sr_eq T, sr_n T f (k := 1) (by omega) (x := 1) rfl, sr_n T f (k := 2) (by omega) (x := 2) rfl]
    have y1 : f5_token_86 (f5_isLetter (R0 7 f)) (f5_isDigit (R0 7 f)) (m + 1) R = if sr (R0 7) t f = 1 ∧ sr (R0 7) t i = 1 ∨ sr (R0 7) t f = 2 ∧ sr (R0 7) t i = 2 then f5_token_86 (f5_isLetter (R0 7 f)) (f5_isDigit (R0 7 f)) m (sl_up R 0 13 (nI (i + 1))) else some R := by
      have e122 : f5_token_122 (f5_token_86 (f5_isLetter (R0 7 f)) (f5_isDigit (R0 7 f)) m) (f5_isLetter (R0 7 f)) (f5_isDigit (R0 7 f)) R = f5_token_86 (f5_isLetter (R0 7 f)) (f5_isDigit (R0 7 f)) m (sl_up R 0 13 (nI (i + 1))) := by
        rw [f5_token_122, hR.2.2.1, nI_1]
      have e104 : f5_token_104 (f5_token_86 (f5_isLetter (R0 7 f)) (f5_isDigit (R0 7 f)) m) (f5_isLetter (R0 7 f)) (f5_isDigit (R0 7 f)) R = if sr (R0 7) t f = 2 ∧ sr (R0 7) t i = 2 then f5_token_86 (f5_isLetter (R0 7 f)) (f5_isDigit (R0 7 f)) m (sl_up R 0 13 (nI (i + 1))) else some R := by
        rw [f5_token_104, e122, hR.2.2.1, r_byte T hR.1 (by omega), pu_b]
        by_cases z : sr (R0 7) t f = 2
        · rw [if_neg (fun w => hd.mp w z)]
          by_cases z2 : sr (R0 7) t i = 2
          · rw [if_neg (fun w => di.mp w z2), if_pos ⟨z, z2⟩]
          · rw [if_pos (di.mpr z2), if_neg (fun w => z2 w.2)]
        · rw [if_pos (hd.mpr z), if_neg (fun w => z w.1)]
      rw [f5_token_86, e104, e122, hR.2.2.1, r_byte T hR.1 (by omega), pu_b]
      by_cases z : sr (R0 7) t f = 1
      · have z3 : ¬ (sr (R0 7) t f = 2 ∧ sr (R0 7) t i = 2) := fun w => by omega
        rw [if_neg (fun w => hl.mp w z), if_neg z3]
        by_cases z2 : sr (R0 7) t i = 1
        · rw [if_neg (fun w => li.mp w z2), if_pos (Or.inl ⟨z, z2⟩)]
        · rw [if_pos (li.mpr z2), if_neg (fun w => by omega)]
      · rw [if_pos (hl.mpr z)]
        by_cases z2 : sr (R0 7) t f = 2 ∧ sr (R0 7) t i = 2
        · rw [if_pos z2, if_pos (Or.inr z2)]
        · rw [if_neg z2, if_neg (fun w => by omega)]
    by_cases q : sr (R0 7) t f = 1 ∧ sr (R0 7) t i = 1 ∨ sr (R0 7) t f = 2 ∧ sr (R0 7) t i = 2
    · obtain ⟨X', g1, g2⟩ := x_adv T hX (by omega) (by omega) (by omega)
      have hR' : RS R0 Rs f (sl_up R 0 13 (nI (i + 1))) (i + 1) := ⟨hR.1.up (by omega) _, by rw [pu_ups, pu_un (by omega)]; exact hR.2.1, by rw [pu_ups, pu_us], fun k hk => by rw [pu_ups, pu_un (by omega)]; exact hR.2.2.2.1 k hk, by rw [pu_upn (by omega)]; exact hR.2.2.2.2⟩
      obtain ⟨e, X2, R2, k1, k2, k3⟩ := ih (i + 1) n m X' _ (by omega) (by omega) (by omega) (by omega) g1 hR' (fun w j j1 j2 => by
        by_cases u : j = i
        · subst u; omega
        · exact h1 w j j1 (by omega)) (fun w j j1 j2 => by
        by_cases u : j = i
        · subst u; omega
        · exact h2 w j j1 (by omega))
      refine ⟨e, X2, R2, ?_, ?_, k3⟩
      · rw [x1, if_pos (by omega), g2]
        by_cases u : sr (R0 7) t f = 1
        · rw [if_pos u]; exact k1
        · rw [if_neg u, if_pos (by omega)]; exact k1
      · rw [y1, if_pos q]; exact k2
    · refine ⟨i, X, R, ?_, ?_, ⟨by omega, by omega, fun _ => hf, h1, h2⟩, hX, hR⟩
      · rw [x1]
        by_cases u : sr (R0 7) t i = sr (R0 7) t f
        · rw [if_pos u, if_neg (by omega), if_neg (by omega)]
        · rw [if_neg u]
      · rw [y1, if_neg q]
/-- past the blanks -/
noncomputable def tkT (R : sl_M) : Option sl_M := (f5_byteAt (R 0 12) R).bind fun r3 => (f5_byteAt (R 0 12) R).bind fun r4 => (if (R 0 11) ≤ (R 0 12) then f5_token_86 (f5_isLetter r3) (f5_isDigit r4) 400 (sl_up R 0 13 (R 0 12)) else f5_token_86 (f5_isLetter r3) (f5_isDigit r4) 400 (sl_up R 0 13 ((R 0 12) + (1 : Int32))))
theorem s_skip (T : T0 X0 R0 t) {Xs Rs : sl_M} : ∀ (k e n m : Nat) (X R : sl_M), e + k = t → k < n → k < m → FXx X0 X → X 28 1 = nI t → X 28 2 = nI e → (∀ r, r ≠ 28 → X r = Xs r) → FRr R0 R → R 0 12 = nI e → (∀ k, 14 ≤ k → R 0 k = Rs 0 k) → R 1 = Rs 1 →
    ∃ f X' R', e ≤ f ∧ f ≤ t ∧ f2_step_0 n X = f2_step_38 X' ∧ f5_token_8 m R = tkT R' ∧ FXx X0 X' ∧ X' 28 1 = nI t ∧ X' 28 2 = nI f ∧ (∀ r, r ≠ 28 → X' r = Xs r) ∧ FRr R0 R' ∧ R' 0 12 = nI f ∧ (∀ k, 14 ≤ k → R' 0 k = Rs 0 k) ∧ R' 1 = Rs 1 := by
  have ht := T.1
  intro k
  induction k with
  | zero =>
    intro e n m X R he hn hm a1 a2 a3 a4 b1' b2 b3 b4
    obtain ⟨n, rfl⟩ : ∃ z, n = z + 1 := ⟨n - 1, by omega⟩
    obtain ⟨m, rfl⟩ : ∃ z, m = z + 1 := ⟨m - 1, by omega⟩
    refine ⟨e, X, R, by omega, by omega, ?_, ?_, a1, a2, a3, a4, b1', b2, b3, b4⟩
    · rw [f2_step_0, a2, a3, if_pos (nI_le (by omega) (by omega))]
    · rw [f5_token_8, b2, r_byte T b1' (by omega), pu_b, if_neg (by rw [if_neg (by omega)]; decide), tkT, b2, r_byte T b1' (by omega)]
  | succ k ih =>
    intro e n m X R he hn hm a1 a2 a3 a4 b1' b2 b3 b4
    obtain ⟨n, rfl⟩ : ∃ z, n = z + 1 := ⟨n - 1, by omega⟩
    obtain ⟨m, rfl⟩ : ∃ z, m = z + 1 := ⟨m - 1, by omega⟩
    by_cases q : R0 7 e = 32
    · obtain ⟨f, X2, R2, c1, c2, c3, c4, c5⟩ := ih (e + 1) n m (sl_up X 28 2 (nI (e + 1))) (sl_up R 0 12 (nI (e + 1))) (by omega) (by omega) (by omega) (a1.up _ _) (by rw [pu_ups, pu_un (by omega)]; exact a2) (by rw [pu_ups, pu_us]) (fun r hr => by rw [pu_upn hr]; exact a4 r hr) (b1'.up (by omega) _) (by rw [pu_ups, pu_us]) (fun k hk => by rw [pu_ups, pu_un (by omega)]; exact b3 k hk) (by rw [pu_upn (by omega)]; exact b4)
      refine ⟨f, X2, R2, by omega, c2, ?_, ?_, c5⟩
      · rw [f2_step_0, a2, a3, if_neg (nI_ge (by omega) (by omega)), T.b a1 (by omega), pu_b, if_pos q, nI_1]; exact c3
      · rw [f5_token_8, b2, r_byte T b1' (by omega), pu_b, if_pos (show (if e < t then R0 7 e else -1) = 32 by rw [if_pos (by omega)]; exact q), nI_1]; exact c4
    · refine ⟨e, X, R, by omega, by omega, ?_, ?_, a1, a2, a3, a4, b1', b2, b3, b4⟩
      · rw [f2_step_0, a2, a3, if_neg (nI_ge (by omega) (by omega)), T.b a1 (by omega), pu_b, if_neg q]
      · rw [f5_token_8, b2, r_byte T b1' (by omega), pu_b, if_neg (show ¬ (if e < t then R0 7 e else -1) = 32 by rw [if_pos (by omega)]; exact q), tkT, b2, r_byte T b1' (by omega)]
theorem s_step (T : T0 X0 R0 t) (a1 : FXx X0 X) (a2 : X 28 1 = nI t) {e : Nat} (he : e ≤ t) (a3 : X 28 2 = nI e) (b1' : FRr R0 R) (b2 : R 0 13 = nI e) :
    ∃ f e' X' R', f2_step X = some X' ∧ f5_token R = some R' ∧ e ≤ f ∧ Tk (R0 7) t f e' ∧ XS X0 X (R0 7) t f X' e' ∧ RS R0 R f R' e' := by
  have ht := T.1
  obtain ⟨f, X2, R2, c1, c2, c3, c4, c5, c6, c7, c8, c9, c10, c11, c12⟩ := s_skip T (Xs := X) (Rs := R) (t - e) e 400 400 X (sl_up R 0 12 (nI e)) (by omega) (by omega) (by omega) a1 a2 a3 (fun _ _ => rfl) (b1'.up (by omega) _) (by rw [pu_ups, pu_us]) (fun k hk => by rw [pu_ups, pu_un (by omega)]) (by rw [pu_upn (by omega)])
  have e0 : f5_token R = tkT R2 := by rw [f5_token, b2]; exact c4
  have e1 : f2_step X = f2_step_38 X2 := c3
  have hs : f2_step_38 X2 = f2_step_63 400 (sl_up (sl_up (sl_up X2 28 4 (nI f)) 28 3 (nI (sr (R0 7) t f))) 28 5 0) := by
    rw [f2_step_38, c7, pu_ups, pu_un (by omega), c7, x_sort T (c5.up _ _) (by rw [pu_ups, pu_un (by omega)]; exact c6) f c2, pu_b]
  have hX : XS X0 X (R0 7) t f (sl_up (sl_up (sl_up X2 28 4 (nI f)) 28 3 (nI (sr (R0 7) t f))) 28 5 0) f := by
    refine ⟨((c5.up _ _).up _ _).up _ _, ?_, ?_, ?_, ?_, fun _ => ?_, fun r hr => by rw [pu_upn hr, pu_upn hr, pu_upn hr]; exact c8 r hr⟩
    · rw [pu_ups, pu_un (by omega), pu_ups, pu_un (by omega), pu_ups, pu_un (by omega)]; exact c6
    · rw [pu_ups, pu_un (by omega), pu_ups, pu_un (by omega), pu_ups, pu_us]
    · rw [pu_ups, pu_un (by omega), pu_ups, pu_us]
    · rw [pu_ups, pu_un (by omega), pu_ups, pu_un (by omega), pu_ups, pu_un (by omega)]; exact c7
    · rw [pu_ups, pu_us, Nat.sub_self]; rfl
  by_cases q : f < t
  · obtain ⟨X3, g1, g2⟩ := x_adv T hX (Nat.le_refl _) q rfl
    have hR : RS R0 R f (sl_up R2 0 13 (nI (f + 1))) (f + 1) := ⟨c9.up (by omega) _, by rw [pu_ups, pu_un (by omega)]; exact c10, by rw [pu_ups, pu_us], fun k hk => by rw [pu_ups, pu_un (by omega)]; exact c11 k hk, by rw [pu_upn (by omega)]; exact c12⟩
    have one : ∀ s, sr (R0 7) t f = s → ∀ j, f ≤ j → j < f + 1 → sr (R0 7) t j = s := fun s w j j1 j2 => by
      have ej : j = f := by omega
      rw [ej]; exact w
    obtain ⟨e', X4, R4, k1, k2, k3, k4, k5⟩ := s_run T (Xs := X) (Rs := R) q (t - (f + 1)) (f + 1) 399 400 X3 _ (by omega) (by omega) (by omega) (by omega) g1 hR (one 1) (one 2)
    refine ⟨f, e', X4, R4, ?_, ?_, c1, k3, k4, k5⟩
    · rw [e1, hs, f2_step_63, hX.2.1, hX.2.2.2.2.1, if_neg (nI_ge q (by omega)), x_sort T hX.1 hX.2.1 f c2, pu_b, hX.2.2.2.1, if_pos rfl, hX.2.2.1, if_pos rfl, g2]; exact k1
    · rw [e0, tkT, c10, r_byte T c9 c2, pu_b, pu_b, if_pos q, c9.2 11 (by omega), T.2.1, if_neg (nI_ge q (by omega)), nI_1]; exact k2
  · have e : f = t := by omega
    subst e
    refine ⟨f, f, _, sl_up R2 0 13 (nI f), ?_, ?_, c1, ⟨by omega, by omega, fun w => by omega, fun w j j1 j2 => by omega, fun w j j1 j2 => by omega⟩, hX, ⟨c9.up (by omega) _, by rw [pu_ups, pu_un (by omega)]; exact c10, by rw [pu_ups, pu_us], fun k hk => by rw [pu_ups, pu_un (by omega)]; exact c11 k hk, by rw [pu_upn (by omega)]; exact c12⟩⟩
    · rw [e1, hs, f2_step_63, hX.2.1, hX.2.2.2.2.1, if_pos (nI_le (Nat.le_refl _) (by omega))]
    · rw [e0, tkT, c10, r_byte T c9 c2, pu_b, pu_b, if_neg (show ¬ f < f by omega), c9.2 11 (by omega), T.2.1, if_pos (nI_le (Nat.le_refl _) (by omega)), show f5_isLetter (-1) = 0 by decide, show f5_isDigit (-1) = 0 by decide, f5_token_86, if_pos rfl, f5_token_104, if_pos rfl]
end TK
