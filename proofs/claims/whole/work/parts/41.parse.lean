/-! reading, step by step -/
def PS (X0 R0 : sl_M) (t : Nat) (X R : sl_M) (σ : Nat → Int32) (f e : Nat) : Prop := XS X0 X (R0 7) t f X e ∧ FRr R0 R ∧ R 0 12 = nI f ∧ R 0 13 = nI e ∧ R 0 15 = 0 ∧ Tk (R0 7) t f e ∧ RL X 1 σ ∧ R 1 = σ ∧ ok σ
def WX (X0 X : sl_M) (f : Nat) : Prop := FXx X0 X ∧ X 28 4 = nI f
def WR (R0 : sl_M) (t : Nat) (R : sl_M) (f : Nat) : Prop := FRr R0 R ∧ R 0 12 = nI f ∧ f ≤ t ∧ (∃ e, e ≤ t ∧ R 0 13 = nI e) ∧ R 0 15 = 1
theorem up_to {M : sl_M} {r i : Nat} {v : Int32} (h : M r i = v) : sl_up M r i v = M := by subst h; exact up_self M r i
section PR
variable {X0 R0 X R : sl_M} {t f e : Nat} {σ : Nat → Int32}
theorem PS.ok (h : PS X0 R0 t X R σ f e) : ok σ := h.2.2.2.2.2.2.2.2
theorem PS.wx (h : PS X0 R0 t X R σ f e) : WX X0 X f := ⟨h.1.1, h.1.2.2.1⟩
/-- the land changes, the token stays -/
theorem PS.land (h : PS X0 R0 t X R σ f e) {X2 : sl_M} {σ2 : Nat → Int32} (hL : RL X2 1 σ2) (hF : Fr 1 X X2) (ho : Jvm.Pilot.@@N@@.ok σ2) : PS X0 R0 t X2 (sM R σ2) σ2 f e := by
  obtain ⟨⟨a1, a2, a3, a4, a5, a6, a7⟩, b1', b2, b3, b4, b5, b6, b7, b8⟩ := h
  have e28 : X2 28 = X 28 := hF 28 (by omega)
  refine ⟨⟨fun r r1 r2 => (hF r (by omega)).trans (a1 r r1 r2), ?_, ?_, ?_, ?_, ?_, fun _ _ => rfl⟩, ⟨fun r r0 r1 => by rw [sM_n _ _ r1]; exact b1'.1 r r0 r1, fun k hk => by rw [sM_n _ _ (by omega)]; exact b1'.2 k hk⟩, ?_, ?_, ?_, b5, hL, rfl, ho⟩
  · rw [e28]; exact a2
  · rw [e28]; exact a3
  · rw [e28]; exact a4
  · rw [e28]; exact a5
  · rw [e28]; exact a6
  · rw [sM_n _ _ (by omega)]; exact b2
  · rw [sM_n _ _ (by omega)]; exact b3
  · rw [sM_n _ _ (by omega)]; exact b4
theorem PS.v14 (h : PS X0 R0 t X R σ f e) (v : Int32) : PS X0 R0 t X (sl_up R 0 14 v) σ f e := by
  obtain ⟨a, b1', b2, b3, b4, b5, b6, b7, b8⟩ := h
  refine ⟨a, b1'.up (by omega) _, ?_, ?_, ?_, b5, b6, ?_, b8⟩
  · rw [pu_ups, pu_un (by omega)]; exact b2
  · rw [pu_ups, pu_un (by omega)]; exact b3
  · rw [pu_ups, pu_un (by omega)]; exact b4
  · rw [pu_upn (by omega)]; exact b7
theorem p_tok (T : T0 X0 R0 t) (h : PS X0 R0 t X R σ f e) : ∃ f' e' X' R', f2_step X = some X' ∧ f5_needs 1 R = some R' ∧ PS X0 R0 t X' R' σ f' e' ∧ e ≤ f' ∧ (f < t → f < f') ∧ R' 0 14 = R 0 14 := by
  obtain ⟨a, b1', b2, b3, b4, b5, b6, b7, b8⟩ := h
  obtain ⟨f', e', X', R', c1, c2, c3, c4, c5, c6⟩ := s_step T a.1 a.2.1 b5.2.1 a.2.2.2.2.1 b1' b3
  refine ⟨f', e', X', R', c1, ?_, ⟨⟨c5.1, c5.2.1, c5.2.2.1, c5.2.2.2.1, c5.2.2.2.2.1, c5.2.2.2.2.2.1, fun _ _ => rfl⟩, c6.1, c6.2.1, c6.2.2.1, ?_, c4, ?_, ?_, b8⟩, c3, fun z => Nat.lt_of_lt_of_le (b5.2.2.1 z) c3, c6.2.2.2.1 14 (by omega)⟩
  · rw [f5_needs, b4, if_pos rfl, if_neg (by decide), f5_needs_17, show sl_bo 0 = some 0 from rfl, pu_b, up_to b4, b4, if_pos rfl, c2, pu_b]
  · rw [c6.2.2.2.1 15 (by omega)]; exact b4
  · exact b6.same (fun k hk => c5.2.2.2.2.2.2 _ (by omega))
  · rw [c6.2.2.2.2]; exact b7
theorem p_no (T : T0 X0 R0 t) (h : PS X0 R0 t X R σ f e) : ∃ R', f5_needs 0 R = some R' ∧ WR R0 t R' f := by
  obtain ⟨a, b1', b2, b3, b4, b5, b6, b7, b8⟩ := h
  refine ⟨sl_up R 0 15 1, ?_, b1'.up (by omega) _, ?_, by have := b5.1; have := b5.2.1; omega, ⟨e, b5.2.1, ?_⟩, ?_⟩
  · rw [f5_needs, b4, if_pos rfl, if_pos rfl, f5_needs_12, f5_needs_17, show sl_bo 1 = some 1 from rfl, pu_b, pu_ups, pu_us, if_neg (by decide)]
  · rw [pu_ups, pu_un (by omega)]; exact b2
  · rw [pu_ups, pu_un (by omega)]; exact b3
  · rw [pu_ups, pu_us]
theorem p_num (T : T0 X0 R0 t) (h : PS X0 R0 t X R σ f e) {a b : Nat} (ha : a < 1000) (hb : b < 1000) {lo hi : Int32} (elo : lo = nI a) (ehi : hi = nI b) :
    (∃ v f' e' X' R', a ≤ v ∧ v ≤ b ∧ f3_readNumber lo hi X = some (nI v, X') ∧ f5_number lo hi R = some R' ∧ R' 0 14 = nI v ∧ PS X0 R0 t X' R' σ f' e' ∧ f < f') ∨
    (f3_readNumber lo hi X = some (-2, X) ∧ ∃ R', f5_number lo hi R = some R' ∧ WR R0 t R' f) := by
  subst elo; subst ehi
  have ht := T.1
  obtain ⟨⟨a1, a2, a3, a4, a5, a6, a7⟩, b1', b2, b3, b4, b5, b6, b7, b8⟩ := id h
  have k1 := b5.1
  have k2 := b5.2.1
  have hd := b_dig T (i := f)
  have r0 : f5_number (nI a) (nI b) R = f5_number_29 (nI a) (nI b) (f5_isDigit (if f < t then R0 7 f else -1)) 400 0 (nI f) R := by
    rw [f5_number, b4, if_pos rfl, b2, r_byte T b1' (by omega), pu_b]
  by_cases q : sr (R0 7) t f = 2
  · have hft : f < t := by
      rcases Nat.lt_or_ge f t with z | z
      · exact z
      · rw [sr, if_neg (by omega)] at q; omega
    have q0 : ¬ f5_isDigit (if f < t then R0 7 f else -1) = 0 := fun z => hd.mp z q
    have dg : ∀ i, i < e - f → ∃ c, 48 ≤ c ∧ c ≤ 57 ∧ R0 7 (f + i) = nI c := fun i hi => by
      have s := b5.2.2.2.2 q (f + i) (by omega) (by omega)
      have hl : f + i < t := by omega
      rw [sr, if_pos hl] at s
      obtain ⟨c, hc, ec⟩ := (T.2.2 (f + i) hl).2
      rw [ec] at s
      obtain ⟨-, -, z, -⟩ := s0_all c hc
      exact ⟨c, (z s).2.1, (z s).2.2, ec⟩
    generalize f5_isDigit (if f < t then R0 7 f else -1) = dd at q0 r0
    have main : ∀ (k i n : Nat), i + k = e - f → k < n → f5_number_29 (nI a) (nI b) dd n (nI (vl (R0 7) f i)) (nI (f + i)) R = f5_number_79 (nI a) (nI b) dd (nI (vl (R0 7) f (e - f))) R := by
      intro k
      induction k with
      | zero =>
        intro i n hi hn
        obtain ⟨n, rfl⟩ : ∃ z, n = z + 1 := ⟨n - 1, by omega⟩
        have ei : i = e - f := by omega
        subst ei
        rw [f5_number_29, b3, if_pos (nI_le (by omega) (by omega))]
      | succ k ih =>
        intro i n hi hn
        obtain ⟨n, rfl⟩ : ∃ z, n = z + 1 := ⟨n - 1, by omega⟩
        obtain ⟨c, c1, c2, ec⟩ := dg i (by omega)
        have hv := vl_le T f i (by omega)
        have := ih (i + 1) n (by omega) (by omega)
        rw [f5_number_29, b3, if_neg (nI_ge (by omega) (by omega)), if_neg q0, T.r b1' (show f + i < t by omega), pu_b, nI_1, show f + i + 1 = f + (i + 1) by omega]
        rw [vl] at this
        by_cases z : vl (R0 7) f i ≤ 999
        · rw [if_pos (lek (x := 999) (N := 999) rfl z (by omega))]
          rw [if_pos z, ec, nI_clamp (by omega)] at this
          rw [ec, show (10 : Int32) * nI (vl (R0 7) f i) = nI (10 * vl (R0 7) f i) from pk_mul 10 _, nI_add, show nI (10 * vl (R0 7) f i + c) - 48 = nI (10 * vl (R0 7) f i + c - 48) from pk_sub (b := 48) (by omega), show 10 * vl (R0 7) f i + c - 48 = vl (R0 7) f i * 10 + (c - 48) by omega]
          exact this
        · rw [if_neg (lnk (x := 999) (N := 999) rfl (by omega) (by omega))]
          rw [if_neg z] at this
          exact this
    have hm := main (e - f) 0 400 (by omega) (by omega)
    have hv := vl_le T f (e - f) (by omega)
    have x5 := a6 q
    rw [show f5_number_29 (nI a) (nI b) dd 400 0 (nI f) R = _ from hm, f5_number_79, if_neg q0, in_w] at r0
    have h14 := h.v14 (nI (vl (R0 7) f (e - f)))
    by_cases z : a ≤ vl (R0 7) f (e - f) ∧ vl (R0 7) f (e - f) ≤ b
    · left
      obtain ⟨f', e', X', R', g1, g2, g3, g4, g5, g6⟩ := p_tok T h14
      have w1 : ¬ f4_isWithin (nI (vl (R0 7) f (e - f))) (nI a) (nI b) = 0 := by
        rw [f4_isWithin, if_neg (nI_nlt z.1 (by omega)), if_neg (nI_nlt z.2 (by omega))]; decide
      refine ⟨vl (R0 7) f (e - f), f', e', X', R', z.1, z.2, ?_, ?_, ?_, g3, g5 hft⟩
      · rw [f3_readNumber, a4, if_pos ((sr_n T f (k := 2) (by omega) (x := 2) rfl).mpr q), x5, if_neg (nI_nlt z.1 (by omega)), if_pos (nI_le z.2 (by omega)), g1, pu_b]
      · rw [r0, if_neg w1, g2, pu_b]
      · rw [g6, pu_ups, pu_us]
    · right
      obtain ⟨R', g1, g2⟩ := p_no T h14
      have w1 : f4_isWithin (nI (vl (R0 7) f (e - f))) (nI a) (nI b) = 0 := by
        rw [f4_isWithin]
        by_cases y : a ≤ vl (R0 7) f (e - f)
        · rw [if_neg (nI_nlt y (by omega)), if_pos (nI_lt (by omega) (by omega))]
        · rw [if_pos (nI_lt (by omega) (by omega))]
      refine ⟨?_, R', ?_, g2⟩
      · rw [f3_readNumber, a4, if_pos ((sr_n T f (k := 2) (by omega) (x := 2) rfl).mpr q), x5]
        by_cases y : a ≤ vl (R0 7) f (e - f)
        · rw [if_neg (nI_nlt y (by omega)), if_neg (nI_ge (by omega) (by omega))]
        · rw [if_pos (nI_lt (by omega) (by omega))]
      · rw [r0, if_pos w1, g1, pu_b]
  · right
    have q0 : f5_isDigit (if f < t then R0 7 f else -1) = 0 := hd.mpr q
    rw [q0] at r0
    obtain ⟨R', g1, g2⟩ := p_no T (h.v14 0)
    refine ⟨?_, R', ?_, g2⟩
    · rw [f3_readNumber, a4, if_neg (fun z => q ((sr_n T f (k := 2) (by omega) (x := 2) rfl).mp z))]
    · rw [r0, f5_number_29, if_pos (show (0 : Int32) = 0 from rfl), ite_self, f5_number_79, if_pos (show (0 : Int32) = 0 from rfl), g1, pu_b]
theorem p_pass (T : T0 X0 R0 t) (h : PS X0 R0 t X R σ f e) {w : Nat} (hw : w < 17) :
    (isw (R0 7) t f e w ∧ ∃ f' e' X' R', f3_passes w X = some (1, X') ∧ f2_step X = some X' ∧ f5_needs 1 R = some R' ∧ PS X0 R0 t X' R' σ f' e' ∧ f < f') ∨ (¬ isw (R0 7) t f e w ∧ f3_passes w X = some (0, X)) := by
  have xw := x_word T h.2.2.2.2.2.1 h.1 hw
  by_cases q : iswb (R0 7) t f e w = true
  · left
    refine ⟨iswb_t.mp q, ?_⟩
    obtain ⟨f', e', X', R', g1, g2, g3, g4, g5, g6⟩ := p_tok T h
    refine ⟨f', e', X', R', ?_, g1, g2, g3, g5 ?_⟩
    · rw [f3_passes, xw, pu_b, if_pos q, if_neg (by decide), g1, pu_b]
    · have := (iswb_t.mp q).1
      rcases Nat.lt_or_ge f t with z | z
      · exact z
      · rw [sr, if_neg (by omega)] at this; omega
  · right
    exact ⟨fun z => q (iswb_t.mpr z), by rw [f3_passes, xw, pu_b, if_neg q, if_pos rfl]⟩
theorem p_word (T : T0 X0 R0 t) (h : PS X0 R0 t X R σ f e) : f5_word R = some (lN (cR (R0 7) t f e)) := r_word T h.2.2.2.2.2.1 h.2.1 h.2.2.1 h.2.2.2.1 h.2.2.2.2.1
theorem p_cmp (T : T0 X0 R0 t) (h : PS X0 R0 t X R σ f e) {w : Nat} (hw : w < 17) {C : Int64} (eC : C = lN (wco w)) : lg_cmp (lN (cR (R0 7) t f e)) C = 0 ↔ isw (R0 7) t f e w := by
  rw [lgw eC (by have := cR_b T h.2.2.2.2.2.1; omega) (by have := (wby_all w hw).2.2.1; omega)]
  exact cR_w T h.2.2.2.2.2.1 hw
/-! once wrong, always wrong -/
theorem w_needs (h : WR R0 t R f) (x : Int32) : f5_needs x R = some R := by
  rw [f5_needs, h.2.2.2.2, if_neg (by decide), f5_needs_12, f5_needs_17, show sl_bo 1 = some 1 from rfl, pu_b, up_to h.2.2.2.2, h.2.2.2.2, if_neg (by decide)]
theorem w_num (h : WR R0 t R f) (x y : Int32) : f5_number x y R = some R := by
  rw [f5_number, h.2.2.2.2, if_neg (by decide)]
theorem w_wd (T : T0 X0 R0 t) (h : WR R0 t R f) : f5_word R = some 0 := by
  obtain ⟨h1, h2, h3, ⟨e, h4, h5⟩, h6⟩ := h
  exact w_word T h4 h1 h2 h3 h5 h6
theorem w_per (h : WR R0 t R f) (x1 x2 x3 x4 : Int32) : ∃ v, f5_perhaps x1 x2 x3 x4 R = some (v, R) := by
  rw [f5_perhaps]
  by_cases q : x1 = 0
  · rw [if_pos q]; exact ⟨_, rfl⟩
  · rw [if_neg q, w_needs h, pu_b, w_num h, pu_b]; exact ⟨_, rfl⟩
theorem w_c97 (h : WR R0 t R f) (x1 x3 x4 x5 x6 : Int32) : f5_cellItem_97 x1 x3 x4 x5 400 x6 R = some R := by
  rw [f5_cellItem_97, h.2.2.2.2, if_neg (show ¬ (1 : Int32) = 0 by decide), ite_self]
theorem w_c85 (h : WR R0 t R f) (x1 x2 x3 x4 t0 : Int32) : f5_cellItem_85 x1 x2 x3 x4 t0 R = some R := by
  obtain ⟨v, e1⟩ := w_per h t0 0 99 0
  rw [f5_cellItem_85, e1, pu_b]
  exact w_c97 h _ _ _ _ _
theorem w_c59 (T : T0 X0 R0 t) (h : WR R0 t R f) (x1 x2 x3 t0 : Int32) : f5_cellItem_59 x1 x2 x3 t0 R = some R := by
  obtain ⟨v, e1⟩ := w_per h t0 0 99 (-1)
  rw [f5_cellItem_59, e1, pu_b]
  dsimp only
  rw [w_wd T h, pu_b, w_c85 h, w_c85 h, ite_self]
theorem w_c34 (T : T0 X0 R0 t) (h : WR R0 t R f) (x1 x2 t0 : Int32) : f5_cellItem_34 x1 x2 t0 R = some R := by
  obtain ⟨v, e1⟩ := w_per h t0 x2 23 x2
  rw [f5_cellItem_34, e1, pu_b]
  dsimp only
  rw [w_wd T h, pu_b, w_c59 T h, w_c59 T h, ite_self]
theorem w_h136 (h : WR R0 t R f) (x1 x2 x3 : Int32) : f5_houseItem_136 x1 x2 x3 R = some R := by
  rw [f5_houseItem_136, h.2.2.2.2, if_neg (by decide)]
theorem w_h122 (h : WR R0 t R f) (x1 x2 x4 t0 : Int32) : f5_houseItem_122 x1 x2 x4 t0 R = some R := by
  rw [f5_houseItem_122, w_needs h, pu_b, f5_houseItem_135, f5_houseItem_135, w_h136 h, w_h136 h, ite_self]
theorem w_h98 (T : T0 X0 R0 t) (h : WR R0 t R f) (x1 x2 t0 : Int32) : f5_houseItem_98 x1 x2 t0 R = some R := by
  rw [f5_houseItem_98, w_wd T h, pu_b, f5_houseItem_117, w_h122 h, w_h122 h, ite_self, ite_self]
theorem w_h49 (T : T0 X0 R0 t) (h : WR R0 t R f) (x1 t0 : Int32) : f5_houseItem_49 x1 t0 R = some R := by
  rw [f5_houseItem_49, w_needs h, pu_b, w_num h, pu_b, w_wd T h, pu_b, w_needs h, pu_b, w_wd T h, pu_b, w_h98 T h, w_h98 T h, w_h136 h, ite_self, ite_self]
theorem w_h17 (T : T0 X0 R0 t) (h : WR R0 t R f) (t0 : Int32) : f5_houseItem_17 t0 R = some R := by
  rw [f5_houseItem_17, w_needs h, pu_b, w_num h, pu_b, w_wd T h, pu_b, w_h49 T h, w_h49 T h, ite_self]
theorem WR.sM (h : WR R0 t R f) (σ : Nat → Int32) : WR R0 t (sM R σ) f := by
  obtain ⟨h1, h2, h3, ⟨e, h4, h5⟩, h6⟩ := h
  exact ⟨⟨fun r r0 r1 => by rw [sM_n _ _ r1]; exact h1.1 r r0 r1, fun k hk => by rw [sM_n _ _ (by omega)]; exact h1.2 k hk⟩, by rw [sM_n _ _ (by omega)]; exact h2, h3, ⟨e, h4, by rw [sM_n _ _ (by omega)]; exact h5⟩, by rw [sM_n _ _ (by omega)]; exact h6⟩
theorem w_i81 (h : WR R0 t R f) (t0 : Int32) : ∃ R', f5_item_81 t0 R = some R' ∧ WR R0 t R' f := by
  rw [f5_item_81, w_needs h, pu_b, w_num h, pu_b, pu_stM (x := (3 : Int32)) (k := 3) rfl (by omega), pu_b]
  exact ⟨_, rfl, h.sM _⟩
theorem w_kind (T : T0 X0 R0 t) (h : WR R0 t R f) : f5_kindHere R = some (-1) := by
  rw [f5_kindHere, w_wd T h, pu_b, if_neg (by decide), if_neg (by decide), if_neg (by decide), if_neg (by decide), if_neg (by decide), if_neg (by decide), if_neg (by decide)]
theorem w_item (T : T0 X0 R0 t) (h : WR R0 t R f) : ∃ R', f5_item R = some R' ∧ WR R0 t R' f := by
  obtain ⟨R', g1, g2⟩ := w_i81 h 0
  refine ⟨R', ?_, g2⟩
  rw [f5_item, w_kind T h, pu_b, if_pos (by decide), w_wd T h, pu_b, if_neg (by decide), pu_b, if_neg (by decide), pu_b, if_neg (by decide)]
  exact g1
end PR
