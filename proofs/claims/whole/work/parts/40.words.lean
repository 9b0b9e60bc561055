/-! words -/
def cdn (d : Nat → Nat) : Nat → Nat
  | 0 => 0
  | k + 1 => 32 * cdn d k + d k
def wdn (d : Nat → Nat) : Nat → Nat
  | 0 => 0
  | k + 1 => if wdn d k ≤ 36028797018963967 then 32 * wdn d k + d k else wdn d k
theorem cdn_b {d : Nat → Nat} : ∀ k, (∀ i, i < k → 1 ≤ d i ∧ d i ≤ 26) → cdn d k < 32 ^ k ∧ (0 < k → 32 ^ (k - 1) ≤ cdn d k) := by
  intro k
  induction k with
  | zero => intro _; exact ⟨Nat.zero_lt_one, fun h => by omega⟩
  | succ k ih =>
    intro h
    obtain ⟨h1, h2⟩ := ih (fun i hi => h i (by omega))
    obtain ⟨d1, d2⟩ := h k (by omega)
    rw [cdn]
    refine ⟨by rw [Nat.pow_succ]; omega, fun _ => ?_⟩
    rcases Nat.eq_zero_or_pos k with z | z
    · subst z; show 32 ^ 0 ≤ _; omega
    · have := h2 z
      rw [show k + 1 - 1 = (k - 1) + 1 by omega, Nat.pow_succ]
      omega
theorem cdn_inj {d d2 : Nat → Nat} : ∀ k l, (∀ i, i < k → 1 ≤ d i ∧ d i ≤ 26) → (∀ i, i < l → 1 ≤ d2 i ∧ d2 i ≤ 26) → (cdn d k = cdn d2 l ↔ k = l ∧ ∀ i, i < l → d i = d2 i) := by
  intro k
  induction k with
  | zero =>
    intro l _ h2
    cases l with
    | zero => exact ⟨fun _ => ⟨rfl, fun i hi => by omega⟩, fun _ => rfl⟩
    | succ l =>
      have := h2 l (by omega)
      constructor
      · intro h; rw [cdn, cdn] at h; omega
      · rintro ⟨h, -⟩; omega
  | succ k ih =>
    intro l h1 h2
    have a := h1 k (by omega)
    cases l with
    | zero =>
      constructor
      · intro h; rw [cdn, cdn] at h; omega
      · rintro ⟨h, -⟩; omega
    | succ l =>
      have b := h2 l (by omega)
      have q := ih l (fun i hi => h1 i (by omega)) (fun i hi => h2 i (by omega))
      rw [cdn, cdn]
      constructor
      · intro h
        obtain ⟨q1, q2⟩ := q.mp (by omega)
        refine ⟨by omega, fun i hi => ?_⟩
        by_cases z : i = l
        · subst z; subst q1; omega
        · exact q2 i (by omega)
      · rintro ⟨h, h3⟩
        have e : k = l := by omega
        have := q.mpr ⟨e, fun i hi => h3 i (by omega)⟩
        have e2 := h3 l (by omega)
        rw [this]
        rw [e]
        omega
theorem wdn_c {d : Nat → Nat} : ∀ k, k ≤ 6 → (∀ i, i < k → 1 ≤ d i ∧ d i ≤ 26) → wdn d k = cdn d k := by
  intro k
  induction k with
  | zero => intro _ _; rfl
  | succ k ih =>
    intro hk h
    have e := ih (by omega) (fun i hi => h i (by omega))
    have b := (cdn_b k (fun i hi => h i (by omega))).1
    have : 32 ^ k ≤ 32 ^ 5 := Nat.pow_le_pow_right (by omega) (by omega)
    have e5 : 32 ^ 5 = 33554432 := rfl
    rw [wdn, cdn, e, if_pos (by omega)]
theorem wdn_m {d : Nat → Nat} (k : Nat) : ∀ j, wdn d k ≤ wdn d (k + j) := by
  intro j
  induction j with
  | zero => exact Nat.le_refl _
  | succ j ih =>
    rw [show k + (j + 1) = (k + j) + 1 by omega, wdn]
    by_cases q : wdn d (k + j) ≤ 36028797018963967
    · rw [if_pos q]; omega
    · rw [if_neg q]; exact ih
theorem wdn_u {d : Nat → Nat} : ∀ k, (∀ i, i < k → d i ≤ 26) → wdn d k < 2 ^ 61 := by
  intro k
  induction k with
  | zero => intro _; exact Nat.two_pow_pos 61
  | succ k ih =>
    intro h
    have := ih (fun i hi => h i (by omega))
    have d1 := h k (by omega)
    rw [wdn]
    by_cases q : wdn d k ≤ 36028797018963967
    · rw [if_pos q]; omega
    · rw [if_neg q]; exact this
theorem wdn_eq {d d2 : Nat → Nat} {k l : Nat} (hl : l ≤ 5) (h1 : ∀ i, i < k → 1 ≤ d i ∧ d i ≤ 26) (h2 : ∀ i, i < l → 1 ≤ d2 i ∧ d2 i ≤ 26) : wdn d k = cdn d2 l ↔ k = l ∧ ∀ i, i < l → d i = d2 i := by
  rcases Nat.lt_or_ge k 6 with q | q
  · rw [wdn_c k (by omega) h1]; exact cdn_inj k l h1 h2
  · have m := wdn_m (d := d) 6 (k - 6)
    rw [show 6 + (k - 6) = k by omega, wdn_c 6 (by omega) (fun i hi => h1 i (by omega))] at m
    have b := (cdn_b 6 (fun i hi => h1 i (by omega))).2 (by omega)
    have b2 := (cdn_b l h2).1
    have : 32 ^ l ≤ 32 ^ 5 := Nat.pow_le_pow_right (by omega) (by omega)
    have e5 : 32 ^ (6 - 1) = 33554432 := rfl
    have e5' : 32 ^ 5 = 33554432 := rfl
    constructor
    · intro h; omega
    · rintro ⟨h, -⟩; omega
def wby (w i : Nat) : Nat := ((sl_by.getD w []).getD i 0).toNatClampNeg
def wco (w : Nat) : Nat := cdn (fun i => wby w i - 96) (sl_ln.getD w 0)
theorem wby_all : ∀ w, w < 17 → sl_ln.getD w 0 ≤ 5 ∧ 0 < wco w ∧ wco w < 2 ^ 30 ∧ ∀ i, i < 5 → (i < sl_ln.getD w 0 → 97 ≤ wby w i ∧ wby w i ≤ 122) ∧ nI (wby w i) = (sl_by.getD w []).getD i 0 := by decide +kernel
theorem lgw {n c : Nat} {C : Int64} (eC : C = lN c) (hn : n < 2 ^ 62) (hc : c < 2 ^ 62) : lg_cmp (lN n) C = 0 ↔ n = c := by
  subst eC
  unfold lg_cmp
  by_cases q : lN n > lN c
  · have := (pk_lLT (a := c) (b := n) (by omega) (by omega)).mp q
    rw [if_pos q]
    exact ⟨fun h => absurd h (by decide), fun h => by omega⟩
  · have q2 : ¬ c < n := fun z => q ((pk_lLT (a := c) (b := n) (by omega) (by omega)).mpr z)
    rw [if_neg q]
    by_cases z : lN n = lN c
    · rw [if_pos z]
      exact ⟨fun _ => (pk_lEQ (by omega) (by omega)).mp z, fun _ => rfl⟩
    · rw [if_neg z]
      exact ⟨fun h => absurd h (by decide), fun h => absurd (by rw [h]) z⟩
theorem lgl {n c : Nat} {C : Int64} (eC : C = lN c) (hn : n < 2 ^ 62) (hc : c < 2 ^ 62) : lg_cmp (lN n) C ≤ 0 ↔ n ≤ c := by
  subst eC
  unfold lg_cmp
  by_cases q : lN n > lN c
  · have := (pk_lLT (a := c) (b := n) (by omega) (by omega)).mp q
    rw [if_pos q]
    exact ⟨fun h => absurd h (by decide), fun h => by omega⟩
  · have q2 : ¬ c < n := fun z => q ((pk_lLT (a := c) (b := n) (by omega) (by omega)).mpr z)
    rw [if_neg q]
    by_cases z : lN n = lN c
    · rw [if_pos z]; exact ⟨fun _ => by omega, fun _ => by decide⟩
    · rw [if_neg z]; exact ⟨fun _ => by omega, fun _ => by decide⟩
def isw (b : Nat → Int32) (t f e w : Nat) : Prop := sr b t f = 1 ∧ e - f = sl_ln.getD w 0 ∧ ∀ i, i < sl_ln.getD w 0 → b (f + i) = (sl_by.getD w []).getD i 0
noncomputable def cR (b : Nat → Int32) (t f e : Nat) : Nat := if sr b t f = 1 then wdn (fun i => (b (f + i)).toNatClampNeg - 96) (e - f) else 0
section WD
variable {X0 R0 X R : sl_M} {t f e : Nat}
theorem let_d (T : T0 X0 R0 t) (K : Tk (R0 7) t f e) (h1 : sr (R0 7) t f = 1) {i : Nat} (hi : i < e - f) : ∃ c, 97 ≤ c ∧ c ≤ 122 ∧ R0 7 (f + i) = nI c := by
  have hl : f + i < t := by have := K.2.1; omega
  have s := K.2.2.2.1 h1 (f + i) (by omega) (by omega)
  rw [sr, if_pos hl] at s
  obtain ⟨c, hc, ec⟩ := (T.2.2 (f + i) hl).2
  rw [ec] at s
  obtain ⟨a1, -⟩ := s0_all c hc
  exact ⟨c, (a1 s).2.1, (a1 s).2.2, ec⟩
theorem cR_b (T : T0 X0 R0 t) (K : Tk (R0 7) t f e) : cR (R0 7) t f e < 2 ^ 61 := by
  rw [cR]
  by_cases q : sr (R0 7) t f = 1
  · rw [if_pos q]
    refine wdn_u _ (fun i hi => ?_)
    obtain ⟨c, c1, c2, ec⟩ := let_d T K q hi
    show (R0 7 (f + i)).toNatClampNeg - 96 ≤ 26
    rw [ec, nI_clamp (by omega)]
    omega
  · rw [if_neg q]; decide
theorem cR_w (T : T0 X0 R0 t) (K : Tk (R0 7) t f e) {w : Nat} (hw : w < 17) : cR (R0 7) t f e = wco w ↔ isw (R0 7) t f e w := by
  obtain ⟨w1, w2, w3, w4⟩ := wby_all w hw
  rw [cR, isw]
  by_cases q : sr (R0 7) t f = 1
  · rw [if_pos q, wco, wdn_eq w1 (fun i hi => by
      obtain ⟨c, c1, c2, ec⟩ := let_d T K q hi
      show 1 ≤ (R0 7 (f + i)).toNatClampNeg - 96 ∧ (R0 7 (f + i)).toNatClampNeg - 96 ≤ 26
      rw [ec, nI_clamp (by omega)]
      omega) (fun i hi => by
      have := (w4 i (by omega)).1 hi
      show 1 ≤ wby w i - 96 ∧ wby w i - 96 ≤ 26
      omega)]
    constructor
    · rintro ⟨h1, h2⟩
      refine ⟨q, h1, fun i hi => ?_⟩
      obtain ⟨c, c1, c2, ec⟩ := let_d T K q (i := i) (by omega)
      have := h2 i hi
      have e2 := (w4 i (by omega)).1 hi
      rw [ec, nI_clamp (by omega)] at this
      rw [ec, ← (w4 i (by omega)).2]
      exact congrArg nI (by omega)
    · rintro ⟨-, h1, h2⟩
      refine ⟨h1, fun i hi => ?_⟩
      rw [h2 i hi]
      rfl
  · rw [if_neg q]
    exact ⟨fun h => by omega, fun h => absurd h.1 q⟩
theorem r_word (T : T0 X0 R0 t) (K : Tk (R0 7) t f e) (hr : FRr R0 R) (h2 : R 0 12 = nI f) (h3 : R 0 13 = nI e) (h5 : R 0 15 = 0) : f5_word R = some (lN (cR (R0 7) t f e)) := by
  have ht := T.1
  have k1 := K.1
  have k2 := K.2.1
  have hl := b_let T (i := f)
  rw [f5_word, h2, cR]
  by_cases q : sr (R0 7) t f = 1
  · rw [if_pos q]
    have main : ∀ (k i n : Nat), i + k = e - f → k < n → f5_word_7 R n (lN (wdn (fun i => (R0 7 (f + i)).toNatClampNeg - 96) i)) (nI (f + i)) = some (lN (wdn (fun i => (R0 7 (f + i)).toNatClampNeg - 96) (e - f))) := by
      intro k
      induction k with
      | zero =>
        intro i n hi hn
        obtain ⟨n, rfl⟩ : ∃ z, n = z + 1 := ⟨n - 1, by omega⟩
        have ei : i = e - f := by omega
        subst ei
        rw [f5_word_7, h3, if_pos (nI_le (by omega) (by omega)), h5, if_pos rfl, h2, r_byte T hr (by omega), pu_b, if_neg (fun z => hl.mp z q)]
      | succ k ih =>
        intro i n hi hn
        obtain ⟨n, rfl⟩ : ∃ z, n = z + 1 := ⟨n - 1, by omega⟩
        have := ih (i + 1) n (by omega) (by omega)
        obtain ⟨c, c1, c2, ec⟩ := let_d T K q (i := i) (by omega)
        have u : wdn (fun i => (R0 7 (f + i)).toNatClampNeg - 96) i < 2 ^ 61 := wdn_u i (fun j hj => by
          obtain ⟨c, c1, c2, ec⟩ := let_d T K q (i := j) (by omega)
          show (R0 7 (f + j)).toNatClampNeg - 96 ≤ 26
          rw [ec, nI_clamp (by omega)]
          omega)
        rw [f5_word_7, h3, if_neg (nI_ge (by omega) (by omega)), T.r hr (show f + i < t by omega), pu_b, nI_1, show f + i + 1 = f + (i + 1) by omega]
        rw [wdn] at this
        have el := lgl (n := wdn (fun i => (R0 7 (f + i)).toNatClampNeg - 96) i) (c := 36028797018963967) (C := 36028797018963967) rfl (by omega) (by omega)
        by_cases z : wdn (fun i => (R0 7 (f + i)).toNatClampNeg - 96) i ≤ 36028797018963967
        · rw [if_pos (el.mpr z)]
          rw [if_pos z, ec, nI_clamp (by omega)] at this
          rw [ec, show nI c - 96 = nI (c - 96) from pk_sub (b := 96) (by omega), nI_l (by omega), show (32 : Int64) * lN (wdn (fun i => (R0 7 (f + i)).toNatClampNeg - 96) i) + lN (c - 96) = lN (32 * wdn (fun i => (R0 7 (f + i)).toNatClampNeg - 96) i + (c - 96)) from by rw [show (32 : Int64) = lN 32 from rfl]; unfold lN; rw [Int64.ofNat_add, Int64.ofNat_mul]]
          exact this
        · rw [if_neg (fun y => z (el.mp y))]
          rw [if_neg z] at this
          exact this
    exact main (e - f) 0 400 (by omega) (by omega)
  · rw [if_neg q]
    have main : ∀ (k i n : Nat) (x : Int64), i + k = e → k < n → f5_word_7 R n x (nI i) = some (lN 0) := by
      intro k
      induction k with
      | zero =>
        intro i n x hi hn
        obtain ⟨n, rfl⟩ : ∃ z, n = z + 1 := ⟨n - 1, by omega⟩
        rw [f5_word_7, h3, if_pos (nI_le (by omega) (by omega)), h5, if_pos rfl, h2, r_byte T hr (by omega), pu_b, if_pos (hl.mpr q)]
        rfl
      | succ k ih =>
        intro i n x hi hn
        obtain ⟨n, rfl⟩ : ∃ z, n = z + 1 := ⟨n - 1, by omega⟩
        rw [f5_word_7, h3, if_neg (nI_ge (by omega) (by omega)), T.r hr (show i < t by omega), pu_b, nI_1, ih (i + 1) n _ (by omega) (by omega), ih (i + 1) n _ (by omega) (by omega), ite_self]
    exact main (e - f) f 400 0 (by omega) (by omega)
theorem w_word (T : T0 X0 R0 t) {f e : Nat} (hf : e ≤ t) (hr : FRr R0 R) (h2 : R 0 12 = nI f) (hf2 : f ≤ t) (h3 : R 0 13 = nI e) (h5 : R 0 15 = 1) : f5_word R = some 0 := by
  have ht := T.1
  have main : ∀ (k i n : Nat) (x : Int64), e ≤ i + k → i ≤ t → k < n → f5_word_7 R n x (nI i) = some 0 := by
    intro k
    induction k with
    | zero =>
      intro i n x hi hi2 hn
      obtain ⟨n, rfl⟩ : ∃ z, n = z + 1 := ⟨n - 1, by omega⟩
      rw [f5_word_7, h3, if_pos (nI_le (by omega) (by omega)), h5, if_neg (by decide)]
    | succ k ih =>
      intro i n x hi hi2 hn
      obtain ⟨n, rfl⟩ : ∃ z, n = z + 1 := ⟨n - 1, by omega⟩
      by_cases q : e ≤ i
      · rw [f5_word_7, h3, if_pos (nI_le q (by omega)), h5, if_neg (by decide)]
      · rw [f5_word_7, h3, if_neg (nI_ge (by omega) (by omega)), T.r hr (show i < t by omega), pu_b, nI_1, ih (i + 1) n _ (by omega) (by omega) (by omega), ih (i + 1) n _ (by omega) (by omega) (by omega), ite_self]
  rw [f5_word, h2]
  exact main t f 400 0 (by omega) hf2 (by omega)
noncomputable def iswb (b : Nat → Int32) (t f e w : Nat) : Bool := @decide (isw b t f e w) (Classical.propDecidable _)
theorem iswb_t {b : Nat → Int32} {t f e w : Nat} : iswb b t f e w = true ↔ isw b t f e w := by
  unfold iswb
  exact @decide_eq_true_iff _ (Classical.propDecidable _)
theorem x_word (T : T0 X0 R0 t) (K : Tk (R0 7) t f e) {Xs : sl_M} (hX : XS X0 Xs (R0 7) t f X e) {w : Nat} (hw : w < 17) : f2_isWord w X = some (if iswb (R0 7) t f e w then 1 else 0) := by
  obtain ⟨a1, a2, a3, a4, a5, a6, a7⟩ := hX
  obtain ⟨w1, w2, w3, w4⟩ := wby_all w hw
  have ht := T.1
  have k1 := K.1
  have k2 := K.2.1
  rw [f2_isWord, a3, a4, a5, pk_sub k1]
  have no : ¬ isw (R0 7) t f e w → some (0 : Int32) = some (if iswb (R0 7) t f e w then 1 else 0) := fun h => by
    rw [if_neg (fun z => h (iswb_t.mp z))]
  by_cases q : sr (R0 7) t f = 1
  · rw [if_pos ((sr_n T f (k := 1) (by omega) (x := 1) rfl).mpr q)]
    by_cases q2 : e - f = sl_ln.getD w 0
    · rw [if_pos (by rw [q2])]
      have main : ∀ (k i n : Nat), i + k = sl_ln.getD w 0 → k < n → (∀ j, j < i → R0 7 (f + j) = (sl_by.getD w []).getD j 0) → f2_isWord_28 w X n (nI i) = some (if iswb (R0 7) t f e w then 1 else 0) := by
        intro k
        induction k with
        | zero =>
          intro i n hi hn hj
          obtain ⟨n, rfl⟩ : ∃ z, n = z + 1 := ⟨n - 1, by omega⟩
          rw [f2_isWord_28, if_pos (nI_le (by omega) (by omega)), if_pos (iswb_t.mpr ⟨q, q2, fun j hj2 => hj j (by omega)⟩)]
        | succ k ih =>
          intro i n hi hn hj
          obtain ⟨n, rfl⟩ : ∃ z, n = z + 1 := ⟨n - 1, by omega⟩
          have ech : sl_ch w (nI i) = some ((sl_by.getD w []).getD i 0) := by
            unfold sl_ch
            rw [nI_clamp (by omega), if_neg]
            rintro (z | z)
            · exact nI_pos (by omega) z
            · omega
          rw [f2_isWord_28, if_neg (nI_ge (by omega) (by omega)), a3, nI_add, T.b a1 (by omega), pu_b, ech, pu_b, nI_1]
          by_cases z : R0 7 (f + i) = (sl_by.getD w []).getD i 0
          · rw [if_pos z]
            refine ih (i + 1) n (by omega) (by omega) (fun j hj2 => ?_)
            by_cases y : j = i
            · subst y; exact z
            · exact hj j (by omega)
          · rw [if_neg z]
            exact no (fun y => z (y.2.2 i (by omega)))
      exact main (sl_ln.getD w 0) 0 400 (by omega) (by omega) (fun j hj => by omega)
    · rw [if_neg (fun z => q2 ((nI_eq (by omega) (by omega)).mp z))]
      exact no (fun y => q2 y.2.1)
  · rw [if_neg (fun z => q ((sr_n T f (k := 1) (by omega) (x := 1) rfl).mp z))]
    exact no (fun y => q y.1)
end WD
