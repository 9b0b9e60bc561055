/-! numbers, bits, loops -/
def bt (x : Int32) (i : Nat) : Bool := x.toBitVec.getLsbD i
theorem b_ext {x y : Int32} (h : ∀ i, i < 32 → bt x i = bt y i) : x = y := Int32.toBitVec_inj.mp (BitVec.eq_of_getLsbD_eq (fun i hi => h i hi))
theorem b_or (x y : Int32) (i : Nat) : bt (x ||| y) i = (bt x i || bt y i) := by unfold bt; rw [Int32.toBitVec_or, BitVec.getLsbD_or]
theorem b_and (x y : Int32) (i : Nat) : bt (x &&& y) i = (bt x i && bt y i) := by unfold bt; rw [Int32.toBitVec_and, BitVec.getLsbD_and]
theorem b_xor (x y : Int32) (i : Nat) : bt (x ^^^ y) i = (bt x i ^^ bt y i) := by unfold bt; rw [Int32.toBitVec_xor, BitVec.getLsbD_xor]
theorem b_big {x : Int32} {i : Nat} (h : 32 ≤ i) : bt x i = false := BitVec.getLsbD_of_ge _ _ h
theorem b_255 (i : Nat) : bt 255 i = decide (i < 8) := by
  rcases Nat.lt_or_ge i 32 with h | h
  · exact (by decide +kernel : ∀ i, i < 32 → bt 255 i = decide (i < 8)) i h
  · rw [b_big h, decide_eq_false (by omega)]
theorem b_65535 (i : Nat) : bt 65535 i = decide (i < 16) := by
  rcases Nat.lt_or_ge i 32 with h | h
  · exact (by decide +kernel : ∀ i, i < 32 → bt 65535 i = decide (i < 16)) i h
  · rw [b_big h, decide_eq_false (by omega)]
theorem b_m1 : ∀ i, i < 32 → bt (-1) i = true := by decide +kernel
theorem b_0 (i : Nat) : bt 0 i = false := BitVec.getLsbD_zero
theorem s_l : ∀ n, n < 32 → ((nI n &&& 31).toBitVec.smod 32).toNat = n := by decide +kernel
theorem s_u : ∀ n, n < 32 → (((nI n).toUInt32 &&& Int32.toUInt32 31).toBitVec % 32).toNat = n := by decide +kernel
theorem b_shl (n : Nat) (hn : n < 32) (x : Int32) {i : Nat} (hi : i < 32) : bt (x <<< (nI n &&& 31)) i = (decide (n ≤ i) && bt x (i - n)) := by
  unfold bt
  rw [Int32.toBitVec_shiftLeft]
  show (x.toBitVec <<< ((nI n &&& 31).toBitVec.smod 32).toNat).getLsbD i = _
  rw [s_l n hn, BitVec.getLsbD_shiftLeft]
  rcases Nat.lt_or_ge i n with h | h
  · simp [h, Nat.not_le.mpr h]
  · simp [hi, h, Nat.not_lt.mpr h]
theorem b_ushr (n : Nat) (hn : n < 32) (x : Int32) (i : Nat) : bt ((x.toUInt32 >>> ((nI n).toUInt32 &&& Int32.toUInt32 31)).toInt32) i = bt x (n + i) := by
  show (x.toUInt32 >>> ((nI n).toUInt32 &&& Int32.toUInt32 31)).toBitVec.getLsbD i = x.toUInt32.toBitVec.getLsbD (n + i)
  rw [UInt32.toBitVec_shiftRight]
  show (x.toUInt32.toBitVec >>> (((nI n).toUInt32 &&& Int32.toUInt32 31).toBitVec % 32).toNat).getLsbD i = _
  rw [s_u n hn, BitVec.getLsbD_ushiftRight]
theorem b_sshr (n : Nat) (hn : n < 32) (x : Int32) {i : Nat} (hi : i < 32) : bt (x >>> (nI n &&& 31)) i = if n + i < 32 then bt x (n + i) else bt x 31 := by
  unfold bt
  rw [Int32.toBitVec_shiftRight]
  show (x.toBitVec.sshiftRight ((nI n &&& 31).toBitVec.smod 32).toNat).getLsbD i = _
  rw [s_l n hn, BitVec.getLsbD_sshiftRight, BitVec.msb_eq_getLsbD_last]
  simp [hi]
/-! ints of a row -/
theorem pu_ld {f : Nat → Int32} {n k : Nat} {x : Int32} (e : x = nI k) (h : k < n) (hn : n < 2 ^ 31) : sl_ld f n x = some (f k) := by
  subst e
  unfold sl_ld
  rw [if_neg (vp_in_nI h hn), nI_clamp (by omega)]
theorem pu_st {M : sl_M} {r n k : Nat} {x v : Int32} (e : x = nI k) (h : k < n) (hn : n < 2 ^ 31) : sl_st M r n x v = some (sl_up M r k v) := by
  subst e
  unfold sl_st
  rw [if_neg (vp_in_nI h hn), nI_clamp (by omega)]
theorem pu_b {α β : Type} {v : α} {f : α → Option β} : (some v).bind f = f v := rfl
theorem pu_us {f : Nat → Int32} {k : Nat} {x : Int32} : upd f k x k = x := if_pos rfl
theorem pu_un {f : Nat → Int32} {k j : Nat} {x : Int32} (h : j ≠ k) : upd f k x j = f j := if_neg h
theorem pu_uu (f : Nat → Int32) (k : Nat) (x y : Int32) : upd (upd f k x) k y = upd f k y := by
  funext j
  unfold upd
  by_cases h : j = k <;> simp [h]
theorem pu_self (f : Nat → Int32) (k : Nat) : upd f k (f k) = f := by
  funext j
  unfold upd
  by_cases h : j = k <;> simp [h]
theorem pu_ups {M : sl_M} {r i : Nat} {v : Int32} : sl_up M r i v r = upd (M r) i v := if_pos rfl
theorem pu_upn {M : sl_M} {r i r2 : Nat} {v : Int32} (h : r2 ≠ r) : sl_up M r i v r2 = M r2 := if_neg h
/-! loops -/
theorem pu_two {α β A B : Type} {F : Nat → Nat → α → Option A} {G : Nat → Nat → β → Option B} {N : Nat} (I : Nat → α → β → Prop)
    (hs : ∀ i a b, i < N → I i a b → ∃ a2 b2, I (i + 1) a2 b2 ∧ (∀ n, F (n + 1) i a = F n (i + 1) a2) ∧ ∀ n, G (n + 1) i b = G n (i + 1) b2) :
    ∀ (k i : Nat) (a : α) (b : β), i + k = N → I i a b → ∃ a2 b2, I N a2 b2 ∧ (∀ n, F (n + k) i a = F n N a2) ∧ ∀ n, G (n + k) i b = G n N b2 := by
  intro k
  induction k with
  | zero =>
    intro i a b h hI
    have e : i = N := by omega
    subst e
    exact ⟨a, b, hI, fun _ => rfl, fun _ => rfl⟩
  | succ k ih =>
    intro i a b h hI
    obtain ⟨a2, b2, h1, h2, h3⟩ := hs i a b (by omega) hI
    obtain ⟨a3, b3, g1, g2, g3⟩ := ih (i + 1) a2 b2 (by omega) h1
    exact ⟨a3, b3, g1, fun n => by rw [← g2 n, ← h2 (n + k)]; rfl, fun n => by rw [← g3 n, ← h3 (n + k)]; rfl⟩
theorem pu_one {α A : Type} {F : Nat → Nat → α → Option A} {N : Nat} (I : Nat → α → Prop)
    (hs : ∀ i a, i < N → I i a → ∃ a2, I (i + 1) a2 ∧ ∀ n, F (n + 1) i a = F n (i + 1) a2) :
    ∀ (k i : Nat) (a : α), i + k = N → I i a → ∃ a2, I N a2 ∧ ∀ n, F (n + k) i a = F n N a2 := by
  intro k
  induction k with
  | zero =>
    intro i a h hI
    have e : i = N := by omega
    subst e
    exact ⟨a, hI, fun _ => rfl⟩
  | succ k ih =>
    intro i a h hI
    obtain ⟨a2, h1, h2⟩ := hs i a (by omega) hI
    obtain ⟨a3, g1, g2⟩ := ih (i + 1) a2 (by omega) h1
    exact ⟨a3, g1, fun n => by rw [← g2 n, ← h2 (n + k)]; rfl⟩
def smf (f : Nat → Int32) : Nat → Int32
  | 0 => 0
  | n + 1 => smf f n + f n
def orf (q : Nat → Int32) : Nat → Int32
  | 0 => 0
  | n + 1 => orf q n ||| q n
def b1 (n : Nat) : Int32 := (1 : Int32) <<< (nI n &&& 31)
theorem b1_bt {n i : Nat} (hn : n < 32) (hi : i < 32) : bt (b1 n) i = decide (i = n) := by
  unfold b1
  rw [b_shl n hn _ hi]
  have h1 : ∀ k, k < 32 → bt 1 k = decide (k = 0) := by decide +kernel
  rw [h1 _ (by omega)]
  by_cases h : i = n
  · subst h; simp
  · by_cases h2 : n ≤ i
    · have : ¬ (i - n = 0) := by omega
      simp [h, this]
    · simp [h, h2]
theorem orf_bt {q : Nat → Int32} {p : Nat → Bool} (hq : ∀ c, q c = if p c then b1 c else 0) : ∀ (n : Nat), n ≤ 32 → ∀ i, i < 32 → bt (orf q n) i = (decide (i < n) && p i) := by
  intro n
  induction n with
  | zero => intro _ i _; rw [orf, b_0]; simp
  | succ n ih =>
    intro hn i hi
    rw [orf, b_or, ih (by omega) i hi, hq n]
    by_cases hp : p n = true
    · rw [if_pos hp, b1_bt (by omega) hi]
      by_cases h : i = n
      · subst h; simp [hp]
      · by_cases h2 : i < n
        · have : i < n + 1 := by omega
          simp [h, h2, this]
        · have : ¬ i < n + 1 := by omega
          simp [h, h2, this]
    · rw [if_neg hp, b_0]
      by_cases h : i = n
      · subst h; simp [hp]
      · by_cases h2 : i < n
        · have : i < n + 1 := by omega
          simp [h2, this]
        · have : ¬ i < n + 1 := by omega
          simp [h2, this]
theorem has_bt (x : Int32) {i : Nat} (hi : i < 32) : f5_has x (nI i) = if bt x i then 1 else 0 := by
  unfold f5_has
  have key : ((x >>> (nI i &&& 31)) &&& (1 : Int32)) = if bt x i then 1 else 0 := by
    apply b_ext
    intro k hk
    have h1 : ∀ k, k < 32 → bt 1 k = decide (k = 0) := by decide +kernel
    rw [b_and, b_sshr i hi _ hk, h1 k hk]
    by_cases h0 : k = 0
    · subst h0
      simp only [Nat.add_zero, hi, if_true, decide_true, Bool.and_true]
      cases bt x i <;> simp <;> decide
    · simp only [h0, decide_false, Bool.and_false]
      cases bt x i
      · simp [b_0]
      · simp only [if_true]; rw [h1 k hk]; simp [h0]
  rw [key]
  cases bt x i <;> simp
theorem isIn_has (i x : Int32) : f0_isIn i x = f5_has x i := rfl
/-! ranges -/
theorem i64_lt (x y : Int32) : x.toInt64 < y.toInt64 ↔ x < y := by
  rw [Int64.lt_iff_toInt_lt, Int32.lt_iff_toInt_lt, Int32.toInt_toInt64, Int32.toInt_toInt64]
theorem i64_eq (x y : Int32) : x.toInt64 = y.toInt64 ↔ x = y := by
  rw [← Int64.toInt_inj, ← Int32.toInt_inj, Int32.toInt_toInt64, Int32.toInt_toInt64]
theorem in_w (x a b : Int32) : f5_in x.toInt64 a.toInt64 b.toInt64 = f4_isWithin x a b := by
  unfold f5_in f4_isWithin
  have e1 : (lg_cmp x.toInt64 a.toInt64 < 0) ↔ x < a := by
    unfold lg_cmp
    by_cases h1 : x.toInt64 > a.toInt64
    · have h2 : a < x := (i64_lt a x).mp h1
      rw [if_pos h1]
      have : ¬ x < a := by rw [Int32.lt_iff_toInt_lt] at h2 ⊢; omega
      simp [this]
    · rw [if_neg h1]
      by_cases h2 : x.toInt64 = a.toInt64
      · rw [if_pos h2]
        have := (i64_eq x a).mp h2
        subst this
        simp
      · rw [if_neg h2]
        have h3 : ¬ a < x := fun q => h1 ((i64_lt a x).mpr q)
        have h4 : ¬ x = a := fun q => h2 ((i64_eq x a).mpr q)
        have : x < a := by
          rw [Int32.lt_iff_toInt_lt] at h3 ⊢
          rw [← Int32.toInt_inj] at h4
          omega
        simp [this]
  have e2 : (0 < lg_cmp x.toInt64 b.toInt64) ↔ b < x := by
    unfold lg_cmp
    by_cases h1 : x.toInt64 > b.toInt64
    · have h2 : b < x := (i64_lt b x).mp h1
      rw [if_pos h1]
      simp [h2]
    · rw [if_neg h1]
      have h3 : ¬ b < x := fun q => h1 ((i64_lt b x).mpr q)
      by_cases h2 : x.toInt64 = b.toInt64
      · rw [if_pos h2]; simp [h3]
      · rw [if_neg h2]; simp [h3]
  by_cases h1 : x < a
  · rw [if_pos (e1.mpr h1), if_pos h1]
  · rw [if_neg (fun q => h1 (e1.mp q)), if_neg h1]
    by_cases h2 : b < x
    · rw [if_pos (e2.mpr h2), if_pos h2]
    · rw [if_neg (fun q => h2 (e2.mp q)), if_neg h2]
theorem wi_no {x a b : Int32} (h : f4_isWithin x a b = 0) : x < a ∨ b < x := by
  unfold f4_isWithin at h
  by_cases h1 : x < a
  · exact Or.inl h1
  · rw [if_neg h1] at h
    by_cases h2 : b < x
    · exact Or.inr h2
    · rw [if_neg h2] at h; exact absurd h (by decide)
theorem wi_yes {x a b : Int32} (h : ¬ f4_isWithin x a b = 0) : ¬ x < a ∧ ¬ b < x := by
  unfold f4_isWithin at h
  by_cases h1 : x < a
  · rw [if_pos h1] at h; exact absurd rfl h
  · rw [if_neg h1] at h
    by_cases h2 : b < x
    · rw [if_pos h2] at h; exact absurd rfl h
    · exact ⟨h1, h2⟩
/-- in range from 0: a number -/
theorem wi_n {x b : Int32} {n : Nat} (hb : b.toInt = n) (h : ¬ f4_isWithin x 0 b = 0) : ∃ k, k ≤ n ∧ x = nI k := by
  obtain ⟨h1, h2⟩ := wi_yes h
  exact nI_of2 hb h1 (by rw [Int32.le_iff_toInt_le]; rw [Int32.lt_iff_toInt_lt] at h2; omega)
theorem wi_n1 {x a b : Int32} {m n : Nat} (ha : a.toInt = m) (hb : b.toInt = n) (h : ¬ f4_isWithin x a b = 0) : ∃ k, m ≤ k ∧ k ≤ n ∧ x = nI k := by
  obtain ⟨h1, h2⟩ := wi_yes h
  rw [Int32.lt_iff_toInt_lt] at h1 h2
  obtain ⟨k, hk, rfl⟩ := nI_of2 (x := x) (M := b) hb (by rw [Int32.lt_iff_toInt_lt]; simp; omega) (by rw [Int32.le_iff_toInt_le]; omega)
  have hk2 : k < 2 ^ 31 := by
    have := Int32.toInt_lt b
    omega
  rw [nI_toInt hk2] at h1
  exact ⟨k, by omega, hk, rfl⟩
