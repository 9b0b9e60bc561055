/-! items -/
theorem n10 : ((1 : Int32) = 0) = False := eq_false (by decide)
theorem m22 : ((-2 : Int32) = -2) = True := eq_true rfl
theorem nm2 {v : Nat} (h : v < 2 ^ 31) : (nI v = -2) = False := eq_false (fun q => by
  have := nI_pos h
  rw [q] at this
  exact this (by decide))
theorem nm1 {v : Nat} (h : v < 2 ^ 31) : (nI v = -1) = False := eq_false (fun q => by
  have := nI_pos h
  rw [q] at this
  exact this (by decide))
theorem upd_cm {g : Nat → Int32} {i j : Nat} {a b : Int32} (h : i ≠ j) : upd (upd g i a) j b = upd (upd g j b) i a := by
  funext k
  unfold upd
  by_cases h1 : k = i
  · by_cases h2 : k = j
    · omega
    · simp [h1, h]
  · by_cases h2 : k = j
    · simp [h2, Ne.symm h]
    · simp [h1, h2]
theorem if1 {α : Type} {X : sl_M} {a b : α} : (if ((1 : Int32), X).1 = 0 then a else b) = b := if_neg (show ¬ (1 : Int32) = 0 by decide)
theorem if0 {α : Type} {X : sl_M} {a b : α} : (if ((0 : Int32), X).1 = 0 then a else b) = a := if_pos rfl
theorem ifm {α : Type} {X : sl_M} {a b : α} : (if ((-2 : Int32), X).1 = -2 then a else b) = a := if_pos rfl
theorem ifn {α : Type} {X : sl_M} {a b : α} {v : Nat} (h : v < 2 ^ 31) : (if (nI v, X).1 = -2 then a else b) = b := if_neg (show ¬ nI v = -2 by rw [nm2 h]; exact id)
theorem per1 (x2 x3 x4 : Int32) (M : sl_M) : f5_perhaps 1 x2 x3 x4 M = ((f5_needs (1 : Int32) M).bind fun r2 => (f5_number x2 x3 r2).bind fun r3 => some ((r3 0 14), r3)) := by rw [f5_perhaps, if_neg (by decide)]
theorem per0 (x2 x3 x4 : Int32) (M : sl_M) : f5_perhaps 0 x2 x3 x4 M = some (x4, M) := by rw [f5_perhaps, if_pos rfl]
def IR (X0 R0 : sl_M) (t g : Nat) (x : Option (Int32 × sl_M)) (y : Option sl_M) : Prop :=
  (∃ X' R' σ' f' e', x = some (1, X') ∧ y = some R' ∧ PS X0 R0 t X' R' σ' f' e' ∧ g < f') ∨ ∃ X' R' p, x = some (0, X') ∧ y = some R' ∧ WX X0 X' p ∧ WR R0 t R' p
section IT
variable {X0 R0 X R : sl_M} {t f e g : Nat} {σ : Nat → Int32}
theorem p_cells {k : Nat} (hk : k < 7) {u : Nat} (hu : u < 24) {x5 : Int32} (h5 : x5 = -1 ∨ ∃ a, a ≤ 99 ∧ x5 = nI a) {a : Nat} (ha : a ≤ 99) : ∀ (d c n m : Nat) (X R : sl_M) (σ : Nat → Int32), c + d = u + 1 → d < n → d < m → PS X0 R0 t X R σ f e →
    ∃ X' R' σ', f3_readThing_112 1 (nI k) (nI u) x5 (nI a) n (nI c) X = some (1, X') ∧ f5_cellItem_97 (nI k) (nI u) x5 (nI a) m (nI c) R = some R' ∧ PS X0 R0 t X' R' σ' f e := by
  intro d
  induction d with
  | zero =>
    intro c n m X R σ hc hn hm h
    obtain ⟨n, rfl⟩ : ∃ z, n = z + 1 := ⟨n - 1, by omega⟩
    obtain ⟨m, rfl⟩ : ∃ z, m = z + 1 := ⟨m - 1, by omega⟩
    refine ⟨X, R, σ, ?_, ?_, h⟩
    · rw [f3_readThing_112, if_pos (nI_lt (by omega) (by omega))]
    · rw [f5_cellItem_97, if_pos (nI_lt (by omega) (by omega))]
  | succ d ih =>
    intro c n m X R σ hc hn hm h
    obtain ⟨n, rfl⟩ : ∃ z, n = z + 1 := ⟨n - 1, by omega⟩
    obtain ⟨m, rfl⟩ : ∃ z, m = z + 1 := ⟨m - 1, by omega⟩
    have hc24 : c < 24 := by omega
    have ho := h.ok
    have h15 := h.2.2.2.2.1
    have hR1 : R 1 = σ := h.2.2.2.2.2.2.2.1
    obtain ⟨X1, a1, a2, a3⟩ := x_place h.2.2.2.2.2.2.1 hc24 (nI k)
    obtain ⟨X2, b1', b2, b3⟩ := x_ageTo a2 hc24 (nI a)
    have e2 : upd (setS σ c (nI k)) (5 + 3 * c + 2) (nI a) = upd (upd σ (5 + 3 * c) (nI k)) (5 + 3 * c + 2) (nI a) := by rw [setS, pu_uu]
    rw [e2] at b2
    rcases h5 with e5 | ⟨v, hv, e5⟩
    · have hp := h.land b2 (a3.tr b3) ((ho.u (oa_kind hc24 hk)).u (oa_age hc24 ha))
      obtain ⟨X', R', σ', i1, i2, i3⟩ := ih (c + 1) n m _ _ _ (by omega) (by omega) (by omega) hp
      refine ⟨X', R', σ', ?_, ?_, i3⟩
      · rw [f3_readThing_112, if_neg (nI_nlt (by omega) (by omega)), a1, pu_b, b1', pu_b, if_pos e5, nI_1]; exact i1
      · rw [f5_cellItem_97, if_neg (nI_nlt (by omega) (by omega)), if_pos h15, pu_stM (ix5 c) (by omega), pu_b, if_neg (by rw [e5]; decide), pu_ld (ix51 c) (by omega) (by omega), pu_b, f5_cellItem_157, pu_stM (ix51 c) (by omega), pu_b, sM_s, sM_1, pu_stM (ix52 c) (by omega), pu_b, sM_s, sM_1, hR1, pu_self, nI_1]; exact i2
    · obtain ⟨X3, c1, c2, c3⟩ := x_raise b2 hc24 (nI v)
      rw [upd_cm (by omega)] at c2
      have hp := h.land c2 ((a3.tr b3).tr c3) (((ho.u (oa_kind hc24 hk)).u (oa_high hc24 hv)).u (oa_age hc24 ha))
      obtain ⟨X', R', σ', i1, i2, i3⟩ := ih (c + 1) n m _ _ _ (by omega) (by omega) (by omega) hp
      refine ⟨X', R', σ', ?_, ?_, i3⟩
      · rw [f3_readThing_112, if_neg (nI_nlt (by omega) (by omega)), a1, pu_b, b1', pu_b, if_neg (by rw [e5, nm1 (by omega)]; exact id), e5, c1, pu_b, nI_1]; rw [e5] at i1; exact i1
      · rw [f5_cellItem_97, if_neg (nI_nlt (by omega) (by omega)), if_pos h15, pu_stM (ix5 c) (by omega), pu_b, if_pos (by rw [e5]; exact nI_pos' (by omega)), f5_cellItem_157, pu_stM (ix51 c) (by omega), pu_b, sM_s, sM_1, pu_stM (ix52 c) (by omega), pu_b, sM_s, sM_1, hR1, nI_1, e5]; rw [e5] at i2; exact i2
theorem p_98 (h : PS X0 R0 t X R σ f e) (hg : g < f) {k v u a : Nat} (hk : k < 7) (hv : v ≤ u) (hu : u < 24) (ha : a ≤ 99) {x5 : Int32} (h5 : x5 = -1 ∨ ∃ a, a ≤ 99 ∧ x5 = nI a) : IR X0 R0 t g (f3_readThing_98 1 (nI k) (nI v) (nI u) x5 (nI a) X) (f5_cellItem_97 (nI k) (nI u) x5 (nI a) 400 (nI v) R) := by
  obtain ⟨X', R', σ', i1, i2, i3⟩ := p_cells hk hu h5 ha (u + 1 - v) v 400 400 X R σ (by omega) (by omega) (by omega) h
  rw [f3_readThing_98, if_neg (by rw [nm2 (by omega)]; exact id)]
  exact Or.inl ⟨X', R', σ', f, e, i1, i2, i3, hg⟩
theorem p_67 (T : T0 X0 R0 t) (h : PS X0 R0 t X R σ f e) (hg : g < f) {k v u : Nat} (hk : k < 7) (hv : v ≤ u) (hu : u < 24) {x5 : Int32} (h5 : x5 = -1 ∨ ∃ a, a ≤ 99 ∧ x5 = nI a) : IR X0 R0 t g (f3_readThing_67 1 (nI k) (nI v) (nI u) x5 X) ((f5_word R).bind fun r2 => (if (lg_cmp r2 (1253 : Int64)) = 0 then f5_cellItem_85 (nI k) (nI v) (nI u) x5 (1 : Int32) R else f5_cellItem_85 (nI k) (nI v) (nI u) x5 (0 : Int32) R)) := by
  have n5 : ¬ x5 = -2 := by
    rcases h5 with e5 | ⟨a, ha, e5⟩
    · rw [e5]; decide
    · rw [e5, nm2 (by omega)]; exact id
  have cm := p_cmp T h (w := 16) (by omega) (C := 1253) (by decide +kernel)
  rw [f3_readThing_67, if_neg n5, p_word T h, pu_b]
  rcases p_pass T h (w := 16) (by omega) with ⟨q, f1, e1, X1, R1, g1, -, g3, g4, g5⟩ | ⟨q, g1⟩
  · rw [if_pos (cm.mpr q), g1, pu_b, if1, f5_cellItem_85, per1, g3, pu_b]
    rcases p_num T g4 (a := 0) (b := 99) (by omega) (by omega) (lo := 0) (hi := 99) rfl rfl with ⟨a, f2, e2, X2, R2, -, a1, k1, k2, k3, k4, k5⟩ | ⟨k1, R2, k2, k3⟩
    · rw [k1, k2, pu_b, pu_b, pu_b, k3]
      exact p_98 k4 (by omega) hk hv hu a1 h5
    · rw [k1, k2, pu_b, pu_b, pu_b]
      dsimp only
      rw [f3_readThing_98, if_pos rfl, w_c97 k3]
      exact Or.inr ⟨X1, R2, f1, rfl, rfl, g4.wx, k3⟩
  · rw [if_neg (fun z => q (cm.mp z)), g1, pu_b, if0, f5_cellItem_85, per0, pu_b]
    exact p_98 h hg hk hv hu (a := 0) (by omega) h5
theorem p_36 (T : T0 X0 R0 t) (h : PS X0 R0 t X R σ f e) (hg : g < f) {k v u : Nat} (hk : k < 7) (hv : v ≤ u) (hu : u < 24) : IR X0 R0 t g (f3_readThing_36 1 (nI k) (nI v) (nI u) X) ((f5_word R).bind fun r2 => (if (lg_cmp r2 (271592 : Int64)) = 0 then f5_cellItem_59 (nI k) (nI v) (nI u) (1 : Int32) R else f5_cellItem_59 (nI k) (nI v) (nI u) (0 : Int32) R)) := by
  have cm := p_cmp T h (w := 15) (by omega) (C := 271592) (by decide +kernel)
  rw [f3_readThing_36, if_neg (by rw [nm2 (by omega)]; exact id), p_word T h, pu_b]
  rcases p_pass T h (w := 15) (by omega) with ⟨q, f1, e1, X1, R1, g1, -, g3, g4, g5⟩ | ⟨q, g1⟩
  · rw [if_pos (cm.mpr q), g1, pu_b, if1, f5_cellItem_59, per1, g3, pu_b]
    rcases p_num T g4 (a := 0) (b := 99) (by omega) (by omega) (lo := 0) (hi := 99) rfl rfl with ⟨a, f2, e2, X2, R2, -, a1, k1, k2, k3, k4, k5⟩ | ⟨k1, R2, k2, k3⟩
    · rw [k1, k2, pu_b, pu_b, pu_b, k3]
      exact p_67 T k4 (by omega) hk hv hu (Or.inr ⟨a, a1, rfl⟩)
    · rw [k1, k2, pu_b, pu_b, pu_b]
      dsimp only
      rw [f3_readThing_67, if_pos rfl, w_wd T k3, pu_b, w_c85 k3, w_c85 k3, ite_self]
      exact Or.inr ⟨X1, R2, f1, rfl, rfl, g4.wx, k3⟩
  · rw [if_neg (fun z => q (cm.mp z)), g1, pu_b, if0, f5_cellItem_59, per0, pu_b]
    exact p_67 T h hg hk hv hu (Or.inl rfl)
theorem p_thing (T : T0 X0 R0 t) (h : PS X0 R0 t X R σ f e) {k : Nat} (hk : k < 7) : IR X0 R0 t f (f3_readThing 1 (nI k) X) ((f5_number (0 : Int32) (23 : Int32) R).bind fun r2 => (f5_word r2).bind fun r3 => (if (lg_cmp r3 (655 : Int64)) = 0 then f5_cellItem_34 (nI k) (r2 0 14) (1 : Int32) r2 else f5_cellItem_34 (nI k) (r2 0 14) (0 : Int32) r2)) := by
  rw [f3_readThing]
  rcases p_num T h (a := 0) (b := 23) (by omega) (by omega) (lo := 0) (hi := 23) rfl rfl with ⟨v, f1, e1, X1, R1, -, v1, g1, g2, g3, g4, g5⟩ | ⟨g1, R1, g2, g3⟩
  · rw [g1, g2, pu_b, pu_b, p_word T g4, pu_b, g3]
    rw [ifn (show v < 2 ^ 31 by omega)]
    have cm := p_cmp T g4 (w := 14) (by omega) (C := 655) (by decide +kernel)
    rcases p_pass T g4 (w := 14) (by omega) with ⟨q, f2, e2, X2, R2, k1, -, k3, k4, k5⟩ | ⟨q, k1⟩
    · rw [if_pos (cm.mpr q), k1, pu_b, if1, f5_cellItem_34, per1, k3, pu_b]
      rcases p_num T k4 (a := v) (b := 23) (by omega) (by omega) (lo := nI v) (hi := 23) rfl rfl with ⟨u, f3, e3, X3, R3, u0, u1, m1, m2, m3, m4, m5⟩ | ⟨m1, R3, m2, m3⟩
      · rw [m1, m2, pu_b, pu_b, pu_b, m3]
        exact p_36 T m4 (by omega) hk u0 (by omega)
      · rw [m1, m2, pu_b, pu_b, pu_b]
        dsimp only
        rw [f3_readThing_36, if_pos rfl, w_wd T m3, pu_b, w_c59 T m3, w_c59 T m3, ite_self]
        exact Or.inr ⟨X2, R3, f2, rfl, rfl, k4.wx, m3⟩
    · rw [if_neg (fun z => q (cm.mp z)), k1, pu_b, if0, f5_cellItem_34, per0, pu_b]
      exact p_36 T g4 g5 hk (Nat.le_refl _) (by omega)
  · rw [g1, g2, pu_b, pu_b, ifm, w_wd T g3, pu_b, if_neg (by decide), w_c34 T g3]
    exact Or.inr ⟨X, R1, f, rfl, rfl, h.wx, g3⟩
theorem p_build (h : PS X0 R0 t X R σ f e) (hg : g < f) (hn : nh σ < 8) {a b d : Nat} (ha : a < 24) (hb : b ≤ 40) (hd : d < 4) {x : Int32} (ex : x = nI d) : IR X0 R0 t g (f3_readHouse_92 1 (nI a) (nI b) x X) (f5_houseItem_136 (nI a) (nI b) x R) := by
  subst ex
  have h15 := h.2.2.2.2.1
  have hR1 : R 1 = σ := h.2.2.2.2.2.2.2.1
  have o := h.ok
  obtain ⟨M2, g1, g2, g3, g4⟩ := x_build (j := 1) h.2.2.2.2.2.2.1 o hn (nI a) (nI b) (nI d)
  have hr := r_newHouse (M := R) (by rw [hR1]; exact o) (by rw [hR1]; exact hn) (nI a) (nI b) (nI d)
  rw [hR1] at hr
  rw [f3_readHouse_92, g1, pu_b, f5_houseItem_136, if_pos h15, hr, pu_b]
  exact Or.inl ⟨M2, _, _, f, e, rfl, rfl, h.land g2 g3 (ok_newHouse o hn ha hb hd), hg⟩
theorem p_house (T : T0 X0 R0 t) (h : PS X0 R0 t X R σ f e) (hft : f < t) (hn : nh σ < 8) : IR X0 R0 t f (f3_readHouse 1 X) (f5_houseItem_17 1 R) := by
  obtain ⟨f0, e0, Xa, Ra, t1, t2, t3, t4, t5, t6⟩ := p_tok T h
  have hf0 := t5 hft
  rw [f3_readHouse, t1, pu_b, f5_houseItem_17, t2, pu_b]
  rcases p_num T t3 (a := 0) (b := 23) (by omega) (by omega) (lo := 0) (hi := 23) rfl rfl with ⟨v, f1, e1, X1, R1, -, v1, g1, g2, g3, g4, g5⟩ | ⟨g1, R1, g2, g3⟩
  · rw [g1, g2, pu_b, pu_b, p_word T g4, pu_b, g3]
    rw [ifn (show v < 2 ^ 31 by omega)]
    have cm := p_cmp T g4 (w := 1) (by omega) (C := 6700530) (by decide +kernel)
    rcases p_pass T g4 (w := 1) (by omega) with ⟨q, f2, e2, X2, R2, k1, -, k3, k4, k5⟩ | ⟨q, k1⟩
    · rw [if_pos (cm.mpr q), k1, pu_b, if1, f5_houseItem_49, k3, pu_b]
      rcases p_num T k4 (a := 1) (b := 40) (by omega) (by omega) (lo := 1) (hi := 40) rfl rfl with ⟨u, f3, e3, X3, R3, u0, u1, m1, m2, m3, m4, m5⟩ | ⟨m1, R3, m2, m3⟩
      · rw [m1, m2, pu_b, pu_b, p_word T m4, pu_b, m3]
        rw [ifn (show u < 2 ^ 31 by omega)]
        have cb := p_cmp T m4 (w := 2) (by omega) (C := 2500036) (by decide +kernel)
        rcases p_pass T m4 (w := 2) (by omega) with ⟨q2, f4, e4, X4, R4, n1, -, n3, n4, n5⟩ | ⟨q2, n1⟩
        · rw [if_pos (cb.mpr q2), n1, pu_b, if1, n3, pu_b, p_word T n4, pu_b]
          have cw := p_cmp T n4 (w := 3) (by omega) (C := 759412) (by decide +kernel)
          have ce := p_cmp T n4 (w := 4) (by omega) (C := 165492) (by decide +kernel)
          rcases p_pass T n4 (w := 3) (by omega) with ⟨q3, f5, e5, X5, R5, o1, -, o3, o4, o5⟩ | ⟨q3, o1⟩
          · rw [if_pos (cw.mpr q3), o1, pu_b, if1, f5_houseItem_98, if_neg (by decide), f5_houseItem_117, f5_houseItem_122, o3, pu_b, if_neg (by decide), f5_houseItem_135]
            exact p_build o4 (by omega) hn (by omega) u1 (d := 2) (by omega) rfl
          · rw [if_neg (fun z => q3 (cw.mp z)), o1, pu_b, if0, f5_houseItem_98, if_pos rfl, p_word T n4, pu_b]
            dsimp only
            rcases p_pass T n4 (w := 4) (by omega) with ⟨q4, f5, e5, X5, R5, o1, -, o3, o4, o5⟩ | ⟨q4, o1⟩
            · rw [if_pos (ce.mpr q4), o1, pu_b, if1, f5_houseItem_117, f5_houseItem_122, o3, pu_b, if_pos rfl, f5_houseItem_135]
              exact p_build o4 (by omega) hn (by omega) u1 (d := 1) (by omega) rfl
            · obtain ⟨R5, o2, o3⟩ := p_no T n4
              rw [if_neg (fun z => q4 (ce.mp z)), o1, pu_b, if0, f5_houseItem_122, o2, pu_b, if_pos rfl, f5_houseItem_135, w_h136 o3]
              exact Or.inr ⟨X4, R5, f4, rfl, rfl, n4.wx, o3⟩
        · rw [if_neg (fun z => q2 (cb.mp z)), n1, pu_b, if0]
          exact p_build m4 (by omega) hn (by omega) u1 (d := 3) (by omega) rfl
      · rw [m1, m2, pu_b, pu_b, ifm, w_wd T m3, pu_b, if_neg (by decide), w_h136 m3]
        exact Or.inr ⟨X2, R3, f2, rfl, rfl, k4.wx, m3⟩
    · obtain ⟨R2, o2, o3⟩ := p_no T g4
      rw [if_neg (fun z => q (cm.mp z)), k1, pu_b, if0, f5_houseItem_49, o2, pu_b, w_num o3, pu_b, w_wd T o3, pu_b, if_neg (by decide), w_h136 o3]
      exact Or.inr ⟨X1, R2, f1, rfl, rfl, g4.wx, o3⟩
  · rw [g1, g2, pu_b, pu_b, ifm, w_wd T g3, pu_b, if_neg (by decide), w_h49 T g3]
    exact Or.inr ⟨Xa, R1, f0, rfl, rfl, t3.wx, g3⟩
end IT
