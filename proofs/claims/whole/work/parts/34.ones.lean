/-! how many ones -/
theorem nx_and (a b : Nat) : nI a &&& nI b = nI (a &&& b) := by
  apply Int32.toBitVec_inj.1
  show BitVec.ofNat 32 a &&& BitVec.ofNat 32 b = BitVec.ofNat 32 (a &&& b)
  apply BitVec.eq_of_getLsbD_eq
  intro i hi
  simp [hi]
theorem la_s (k : Nat) {l L m M : Nat} (hl : l < 2 ^ k) (hm : m < 2 ^ k) : (2 ^ k * L + l) &&& (2 ^ k * M + m) = 2 ^ k * (L &&& M) + (l &&& m) := by
  have hlm : l &&& m < 2 ^ k := Nat.lt_of_le_of_lt Nat.and_le_left hl
  apply Nat.eq_of_testBit_eq
  intro i
  rw [Nat.testBit_and, Nat.testBit_two_pow_mul_add _ hl, Nat.testBit_two_pow_mul_add _ hm, Nat.testBit_two_pow_mul_add _ hlm]
  by_cases q : i < k
  · rw [if_pos q, if_pos q, if_pos q, Nat.testBit_and]
  · rw [if_neg q, if_neg q, if_neg q, Nat.testBit_and]
theorem la_b {l L m M : Nat} (hl : l < 256) (hm : m < 256) : (256 * L + l) &&& (256 * M + m) = 256 * (L &&& M) + (l &&& m) := la_s 8 hl hm
def pA (x m : Nat) : Nat := x - ((x / 2) &&& m)
def pB (x m : Nat) : Nat := (x &&& m) + ((x / 4) &&& m)
def pC (x m : Nat) : Nat := (x + x / 16) &&& m
theorem bA : ∀ l, l < 256 → ∀ b, b < 2 → (128 * b + l / 2) &&& 85 = (l / 2) &&& 85 := by decide +kernel
theorem bB : ∀ l, l < 256 → ∀ b, b < 4 → (64 * b + l / 4) &&& 51 = (l / 4) &&& 51 := by decide +kernel
theorem sA {l L M : Nat} (hl : l < 256) : pA (256 * L + l) (256 * M + 85) = 256 * pA L M + pA l 85 := by
  unfold pA
  rw [show (256 * L + l) / 2 = 256 * (L / 2) + (128 * (L % 2) + l / 2) by omega, la_b (by omega) (by omega), bA l hl _ (by omega)]
  have h1 : (L / 2) &&& M ≤ L / 2 := Nat.and_le_left
  have h2 : (l / 2) &&& 85 ≤ l / 2 := Nat.and_le_left
  generalize (L / 2) &&& M = u at *
  generalize (l / 2) &&& 85 = v at *
  omega
theorem sB {l L M : Nat} (hl : l < 256) : pB (256 * L + l) (256 * M + 51) = 256 * pB L M + pB l 51 := by
  unfold pB
  rw [show (256 * L + l) / 4 = 256 * (L / 4) + (64 * (L % 4) + l / 4) by omega, la_b hl (by omega), la_b (by omega) (by omega), bB l hl _ (by omega)]
  omega
theorem a15 (x : Nat) : x &&& 15 = x % 16 := Nat.and_two_pow_sub_one_eq_mod x 4
theorem sC {l L M : Nat} (hl : l ≤ 68) (hL : L % 16 ≤ 4) : pC (256 * L + l) (256 * M + 15) = 256 * pC L M + pC l 15 := by
  unfold pC
  rw [show (256 * L + l) + (256 * L + l) / 16 = 256 * (L + L / 16) + (16 * (L % 16) + l + l / 16) by omega, la_b (by omega) (by omega), a15, a15]
  omega
def pcf : Nat → Nat → Nat
  | 0, _ => 0
  | n + 1, x => x % 2 + pcf n (x / 2)
theorem pc_s : ∀ (k n l L : Nat), l < 2 ^ k → pcf (k + n) (2 ^ k * L + l) = pcf k l + pcf n L := by
  intro k
  induction k with
  | zero => intro n l L h; have : l = 0 := by simpa using h
            subst this; simp [pcf]
  | succ k ih =>
    intro n l L h
    rw [show k + 1 + n = (k + n) + 1 by omega, pcf, pcf]
    have e1 : (2 ^ (k + 1) * L + l) % 2 = l % 2 := by rw [Nat.pow_succ, show 2 ^ k * 2 * L = 2 * (2 ^ k * L) by rw [Nat.mul_comm (2 ^ k) 2, Nat.mul_assoc]]; omega
    have e2 : (2 ^ (k + 1) * L + l) / 2 = 2 ^ k * L + l / 2 := by rw [Nat.pow_succ, show 2 ^ k * 2 * L = 2 * (2 ^ k * L) by rw [Nat.mul_comm (2 ^ k) 2, Nat.mul_assoc]]; omega
    rw [e1, e2, ih n (l / 2) L (by rw [Nat.pow_succ] at h; omega)]
    omega
theorem bT : ∀ l, l < 256 → pB (pA l 85) 51 ≤ 68 ∧ pB (pA l 85) 51 % 16 ≤ 4 ∧ pA l 85 < 256 ∧ pC (pB (pA l 85) 51) 15 = pcf 8 l ∧ pcf 8 l ≤ 8 := by decide +kernel
theorem s3 {a b c : Nat} (ha : a < 256) (hb : b < 256) (hc : c < 256) : pC (pB (pA (256 * (256 * c + b) + a) 1431655765) 858993459) 252645135 = 256 * (256 * pcf 8 c + pcf 8 b) + pcf 8 a := by
  obtain ⟨a1, a2, a3, a4, a5⟩ := bT a ha
  obtain ⟨b1', b2, b3, b4, b5⟩ := bT b hb
  obtain ⟨c1, c2, c3, c4, c5⟩ := bT c hc
  have z : pC (pB (pA (256 * (256 * (256 * 0 + c) + b) + a) (256 * (256 * (256 * 85 + 85) + 85) + 85)) (256 * (256 * (256 * 51 + 51) + 51) + 51)) (256 * (256 * (256 * 15 + 15) + 15) + 15) = 256 * (256 * (256 * pC (pB (pA 0 85) 51) 15 + pcf 8 c) + pcf 8 b) + pcf 8 a := by
    rw [sA ha, sA hb, sA hc, sB a3, sB b3, sB c3, sC a1 (by omega), sC b1' (by omega), sC c1 (by decide), a4, b4, c4]
  rw [show 256 * 0 + c = c by omega, show pC (pB (pA 0 85) 51) 15 = 0 by decide, show 256 * 0 + pcf 8 c = pcf 8 c by omega] at z
  exact z
theorem k_1 {n : Nat} (h : n < 2 ^ 31) : nI n - (((nI n).toUInt32 >>> ((1 : Int32).toUInt32 &&& Int32.toUInt32 31)).toInt32 &&& (1431655765 : Int32)) = nI (pA n 1431655765) := by
  have q : n / 2 ^ 1 &&& 1431655765 ≤ n / 2 ^ 1 := Nat.and_le_left
  rw [pk_ushrN (by omega) 1 1 (by decide +kernel), show (1431655765 : Int32) = nI 1431655765 from rfl, nx_and, pk_sub (by omega)]
  rfl
theorem k_2 {n : Nat} (h : n < 2 ^ 31) : (nI n &&& (858993459 : Int32)) + (((nI n).toUInt32 >>> ((2 : Int32).toUInt32 &&& Int32.toUInt32 31)).toInt32 &&& (858993459 : Int32)) = nI (pB n 858993459) := by
  rw [pk_ushrN (by omega) 2 2 (by decide +kernel), show (858993459 : Int32) = nI 858993459 from rfl, nx_and, nx_and, nI_add]
  rfl
theorem k_3 {n : Nat} (h : n < 2 ^ 31) : (nI n + ((nI n).toUInt32 >>> ((4 : Int32).toUInt32 &&& Int32.toUInt32 31)).toInt32) &&& (252645135 : Int32) = nI (pC n 252645135) := by
  rw [pk_ushrN (by omega) 4 4 (by decide +kernel), nI_add, show (252645135 : Int32) = nI 252645135 from rfl, nx_and]
  rfl
theorem k_4 {n : Nat} (h : n < 2 ^ 31) : nI n + ((nI n).toUInt32 >>> ((8 : Int32).toUInt32 &&& Int32.toUInt32 31)).toInt32 = nI (n + n / 256) := by
  rw [pk_ushrN (by omega) 8 8 (by decide +kernel), nI_add]
theorem k_5 {n : Nat} (h : n < 2 ^ 31) : nI n + ((nI n).toUInt32 >>> ((16 : Int32).toUInt32 &&& Int32.toUInt32 31)).toInt32 = nI (n + n / 65536) := by
  rw [pk_ushrN (by omega) 16 16 (by decide +kernel), nI_add]
theorem s_fin {a b c : Nat} (ha : a ≤ 8) (hb : b ≤ 8) (hc : c ≤ 8) : (256 * (256 * c + b) + a + (256 * (256 * c + b) + a) / 256 + (256 * (256 * c + b) + a + (256 * (256 * c + b) + a) / 256) / 65536) % 2 ^ 6 = a + (b + c) := by
  have e1 : (256 * (256 * c + b) + a) / 256 = 256 * c + b := by omega
  rw [e1]
  have e2 : (256 * (256 * c + b) + a + (256 * c + b)) / 65536 = c := by omega
  rw [e2]
  omega
theorem j_ones {n : Nat} (h : n < 2 ^ 24) : fJ6_bitCount_0f7a4 (nI n) = nI (pcf 24 n) := by
  obtain ⟨a, b, c, ha, hb, hc, rfl⟩ : ∃ a b c, a < 256 ∧ b < 256 ∧ c < 256 ∧ n = 256 * (256 * c + b) + a := ⟨n % 256, n / 256 % 256, n / 65536, by omega, by omega, by omega, by omega⟩
  have e3 := s3 ha hb hc
  obtain ⟨a1, a2, a3, a4, a5⟩ := bT a ha
  obtain ⟨b1', b2, b3, b4, b5⟩ := bT b hb
  obtain ⟨c1, c2, c3, c4, c5⟩ := bT c hc
  have ep : pcf 24 (256 * (256 * c + b) + a) = pcf 8 a + (pcf 8 b + pcf 8 c) := by
    rw [show (24 : Nat) = 8 + 16 from rfl, show (256 : Nat) = 2 ^ 8 from rfl, pc_s 8 16 a _ ha, show (16 : Nat) = 8 + 8 from rfl, pc_s 8 8 b _ hb]
  have uA : pA (256 * (256 * c + b) + a) 1431655765 ≤ 256 * (256 * c + b) + a := Nat.sub_le _ _
  generalize hx : 256 * (256 * c + b) + a = n at *
  have uB : pB (pA n 1431655765) 858993459 ≤ 2 * n := by
    unfold pB
    have h1 : pA n 1431655765 &&& 858993459 ≤ pA n 1431655765 := Nat.and_le_left
    have h2 : pA n 1431655765 / 4 &&& 858993459 ≤ pA n 1431655765 / 4 := Nat.and_le_left
    omega
  unfold fJ6_bitCount_0f7a4
  rw [k_1 (by omega), k_2 (by omega), k_3 (by omega), e3, k_4 (by omega), k_5 (by omega), pk_andN (by omega) (m := 63) 6 (by decide +kernel), ep]
  exact congrArg nI (s_fin a5 b5 c5)
theorem o_kern : ∀ (f n : Nat), 0 < n → n < 2 ^ f → pcf f (n &&& (n - 1)) + 1 = pcf f n := by
  intro f
  induction f with
  | zero => intro n h0 h; simp at h; omega
  | succ f ih =>
    intro n h0 h
    rw [Nat.pow_succ] at h
    rcases (show n % 2 = 1 ∨ n % 2 = 0 by omega) with q | q
    · have e : n &&& (n - 1) = 2 * (n / 2) := by
        have := la_s 1 (l := 1) (L := n / 2) (m := 0) (M := n / 2) (by decide) (by decide)
        rw [show 2 ^ 1 * (n / 2) + 1 = n by omega, show 2 ^ 1 * (n / 2) + 0 = n - 1 by omega, Nat.and_self] at this
        exact this
      rw [e, pcf, pcf, show 2 * (n / 2) % 2 = 0 by omega, show 2 * (n / 2) / 2 = n / 2 by omega]
      omega
    · have e : n &&& (n - 1) = 2 * (n / 2 &&& (n / 2 - 1)) := by
        have := la_s 1 (l := 0) (L := n / 2) (m := 1) (M := n / 2 - 1) (by decide) (by decide)
        rw [show 2 ^ 1 * (n / 2) + 0 = n by omega, show 2 ^ 1 * (n / 2 - 1) + 1 = n - 1 by omega] at this
        exact this
      have := ih (n / 2) (by omega) (by omega)
      rw [e, pcf, pcf, show ∀ k, 2 * k % 2 = 0 from fun k => by omega, show ∀ k, 2 * k / 2 = k from fun k => by omega, q]
      omega
theorem pc_0 : ∀ f, pcf f 0 = 0 := by
  intro f
  induction f with
  | zero => rfl
  | succ f ih => rw [pcf, show 0 / 2 = 0 from rfl, ih]
theorem pc_le : ∀ (f n x : Nat), x < 2 ^ n → pcf f x ≤ n := by
  intro f
  induction f with
  | zero => intro n x _; exact Nat.zero_le _
  | succ f ih =>
    intro n x h
    cases n with
    | zero => have : x = 0 := by simpa using h
              subst this; rw [pc_0]; exact Nat.le_refl _
    | succ n =>
      have := ih n (x / 2) (by rw [Nat.pow_succ] at h; omega)
      rw [pcf]
      omega
theorem r_on4 : ∀ (f c n : Nat), n < 2 ^ 24 → pcf 24 n < f → f5_ones_4 f (nI c) (nI n) = some (nI (c + pcf 24 n)) := by
  intro f
  induction f with
  | zero => intro c n _ h; omega
  | succ f ih =>
    intro c n hn h
    rw [f5_ones_4]
    by_cases q : n = 0
    · subst q; rw [if_pos (show nI 0 = 0 from rfl), pc_0]; rfl
    · obtain ⟨m, rfl⟩ : ∃ m, n = m + 1 := ⟨n - 1, by omega⟩
      have k := o_kern 24 (m + 1) (by omega) hn
      have hl : (m + 1) &&& (m + 1 - 1) ≤ m + 1 := Nat.and_le_left
      rw [if_neg (nI_ne0 (by omega) (by omega)), nI_pred, nx_and, nI_1]
      rw [show m + 1 - 1 = m from rfl] at k hl
      rw [ih (c + 1) _ (by omega) (by omega)]
      exact congrArg (fun v => some (nI v)) (by omega)
theorem r_ones {n : Nat} (h : n < 2 ^ 24) : f5_ones (nI n) = some (nI (pcf 24 n)) := by
  have := r_on4 400 0 n h (by have := pc_le 24 24 n h; omega)
  rw [Nat.zero_add] at this
  exact this
theorem n_of {x : Int32} (h : ∀ i, 24 ≤ i → i < 32 → bt x i = false) : ∃ n, n < 2 ^ 24 ∧ x = nI n := by
  refine ⟨x.toBitVec.toNat, ?_, of_tn x.toBitVec.isLt rfl⟩
  apply Nat.lt_pow_two_of_testBit
  intro i hi
  rcases Nat.lt_or_ge i 32 with q | q
  · exact h i hi q
  · exact b_big (x := x) q
theorem Ssight_n (σ : Nat → Int32) (h : Nat) : ∃ n, n < 2 ^ 24 ∧ Ssight σ h = nI n := n_of (fun i h1 h2 => by
  cases q : bt (Ssight σ h) i
  · rfl
  · exact absurd ((Ssight_bt h2).mp q).1 (by omega))
theorem orf_b {q : Nat → Int32} {i : Nat} : ∀ n, bt (orf q n) i = true ↔ ∃ k, k < n ∧ bt (q k) i = true := by
  intro n
  induction n with
  | zero => rw [orf, b_0]; constructor
            · intro h; cases h
            · rintro ⟨k, hk, -⟩; omega
  | succ n ih =>
    rw [orf, b_or, Bool.or_eq_true, ih]
    constructor
    · rintro (⟨k, hk, e⟩ | e)
      · exact ⟨k, by omega, e⟩
      · exact ⟨n, by omega, e⟩
    · rintro ⟨k, hk, e⟩
      by_cases z : k = n
      · subst z; exact Or.inr e
      · exact Or.inl ⟨k, by omega, e⟩
theorem Sas_n (σ : Nat → Int32) : ∃ n, n < 2 ^ 24 ∧ Sas σ = nI n := n_of (fun i h1 h2 => by
  cases q : bt (Sas σ) i
  · rfl
  · obtain ⟨k, -, e⟩ := (orf_b _).mp q
    exact absurd ((Ssight_bt h2).mp e).1 (by omega))
theorem pc_pos {n : Nat} (h0 : 0 < n) (h : n < 2 ^ 24) : 0 < pcf 24 n := by
  have := o_kern 24 n h0 h
  omega
theorem Ssight_p {σ : Nat → Int32} {h n : Nat} (hh : hm σ h < 24) (e : Ssight σ h = nI n) : 0 < n := by
  rcases Nat.eq_zero_or_pos n with q | q
  · subst q
    have := (Ssight_bt (σ := σ) (h := h) (i := hm σ h) (by omega)).mpr ⟨hh, Or.inl rfl⟩
    rw [e, show nI 0 = 0 from rfl, b_0] at this
    cases this
  · exact q
