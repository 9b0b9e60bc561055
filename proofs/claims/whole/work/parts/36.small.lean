/-! the tape, the spots, the image, counts -/
theorem lek {N k : Nat} {x : Int32} (e : x = nI N) (h : k ≤ N) (hN : N < 2 ^ 31) : nI k ≤ x := by subst e; exact nI_le h hN
theorem lnk {N k : Nat} {x : Int32} (e : x = nI N) (h : N < k) (hk : k < 2 ^ 31) : ¬ nI k ≤ x := by subst e; exact nI_ge h hk
section CI
variable {X R X2 R2 : sl_M}
theorem Rel.tape (h : Rel X R) (hX : ∀ r, r ≠ 28 → r ≠ 29 → r ≠ 30 → X2 r = X r) (hR : ∀ r, r ≠ 0 → r ≠ 7 → R2 r = R r) (h4 : R2 0 4 = R 0 4) (ht : ∃ t, t ≤ 120 ∧ X2 28 1 = nI t ∧ R2 0 11 = nI t ∧ ∀ i, i < t → X2 29 i = R2 7 i ∧ ∃ b, b < 256 ∧ R2 7 i = nI b) : Rel X2 R2 := by
  obtain ⟨a, b, c, d, e, f⟩ := h
  have q0 : ∀ i, i < 9 → X2 (9 * 0 + i) = X (9 * 0 + i) := fun i hi => hX _ (by omega) (by omega) (by omega)
  have q2 : ∀ i, i < 9 → X2 (9 * 2 + i) = X (9 * 2 + i) := fun i hi => hX _ (by omega) (by omega) (by omega)
  rw [Rel, hR 1 (by omega) (by omega), hR 2 (by omega) (by omega), hR 4 (by omega) (by omega), hR 8 (by omega) (by omega), hR 9 (by omega) (by omega), hR 10 (by omega) (by omega), h4, hX 27 (by omega) (by omega) (by omega), hX 35 (by omega) (by omega) (by omega), hX 32 (by omega) (by omega) (by omega), hX 33 (by omega) (by omega) (by omega), hX 34 (by omega) (by omega) (by omega)]
  refine ⟨a.same q0, b, ?_, d, ht, f⟩
  obtain ⟨z, c1, c2, c3⟩ := c
  exact ⟨z, c1, c2, fun hz => ⟨(c3 hz).1.same q2, (c3 hz).2⟩⟩
theorem Rel.sh (h : Rel X R) (hX : ∀ r, r ≠ 32 → r ≠ 33 → r ≠ 34 → X2 r = X r) (hR : ∀ r, r ≠ 8 → r ≠ 9 → r ≠ 10 → r ≠ 11 → R2 r = R r) (hs : ∀ s, s < 4 → X2 32 s = R2 8 s ∧ X2 33 s = R2 9 s ∧ ∃ n, n ≤ 40 ∧ R2 9 s = nI n ∧ ∀ i, i < n → X2 34 (40 * s + i) = R2 10 (40 * s + i)) : Rel X2 R2 := by
  obtain ⟨a, b, c, d, e, f⟩ := h
  have q0 : ∀ i, i < 9 → X2 (9 * 0 + i) = X (9 * 0 + i) := fun i hi => hX _ (by omega) (by omega) (by omega)
  have q2 : ∀ i, i < 9 → X2 (9 * 2 + i) = X (9 * 2 + i) := fun i hi => hX _ (by omega) (by omega) (by omega)
  rw [Rel, hR 0 (by omega) (by omega) (by omega) (by omega), hR 1 (by omega) (by omega) (by omega) (by omega), hR 2 (by omega) (by omega) (by omega) (by omega), hR 4 (by omega) (by omega) (by omega) (by omega), hR 7 (by omega) (by omega) (by omega) (by omega), hX 27 (by omega) (by omega) (by omega), hX 35 (by omega) (by omega) (by omega), hX 28 (by omega) (by omega) (by omega), hX 29 (by omega) (by omega) (by omega)]
  refine ⟨a.same q0, b, ?_, d, e, hs⟩
  obtain ⟨z, c1, c2, c3⟩ := c
  exact ⟨z, c1, c2, fun hz => ⟨(c3 hz).1.same q2, (c3 hz).2⟩⟩
theorem fd_byte {k : Nat} (hk : k < 4) (x : Int32) : ((x.toUInt32 >>> (((8 : Int32) * nI k).toUInt32 &&& Int32.toUInt32 31)).toInt32 &&& (255 : Int32)) = ((x >>> (((8 : Int32) * nI k) &&& 31)) &&& (255 : Int32)) := by
  rw [show (8 : Int32) * nI k = nI (8 * k) from pk_mul 8 k]
  apply b_ext
  intro i hi
  rw [b_and, b_and, b_ushr _ (by omega), b_sshr _ (by omega) _ hi, b_255]
  by_cases q : i < 8
  · rw [if_pos (by omega)]
  · rw [decide_eq_false q, Bool.and_false, Bool.and_false]
theorem st_feedl (x1 : Int32) : ∀ (k f t : Nat) (X R : sl_M), Rel X R → X 28 1 = nI t → t + k ≤ 120 → k < f → k ≤ 4 → Stq (f4_feed_39 x1 f (nI k - 1) X) (f5_feed_41 x1 f (nI k - 1) R) := by
  intro k
  induction k with
  | zero =>
    intro f t X R h et ht hf _
    obtain ⟨f, rfl⟩ : ∃ z, f = z + 1 := ⟨f - 1, by omega⟩
    obtain ⟨u, u1, u2, u3, -⟩ := h.2.2.2.2.1
    rw [f4_feed_39, f5_feed_41, if_pos (by decide), if_pos (by decide), u2, u3]
    exact Stq.of h
  | succ k ih =>
    intro f t X R h et ht hf hk
    obtain ⟨f, rfl⟩ : ∃ z, f = z + 1 := ⟨f - 1, by omega⟩
    obtain ⟨u, u1, u2, u3, u4⟩ := h.2.2.2.2.1
    have : u = t := (nI_eq (by omega) (by omega)).mp (u2.symm.trans et)
    subst this
    rw [f4_feed_39, f5_feed_41, nI_pred, if_neg (nI_pos (by omega)), if_neg (nI_pos (by omega)), f2_append, u2, u3, pu_st rfl (show u < 120 by omega) (by omega), pu_b, pu_b, pu_st rfl (show u < 120 by omega) (by omega), pu_b, fd_byte (by omega), pu_upn (by omega), pu_upn (by omega), u2, u3, nI_1, show nI k + (-1 : Int32) = nI k - 1 from (Int32.sub_eq_add_neg (a := nI k) (b := 1)).symm]
    generalize hv : ((x1 >>> (((8 : Int32) * nI k) &&& 31)) &&& (255 : Int32)) = v
    have hb : ∃ b, b < 256 ∧ v = nI b := by
      obtain ⟨j, j1, j2⟩ := pk_andE (x1 >>> (((8 : Int32) * nI k) &&& 31)) (m := 255) 8 (by decide +kernel)
      exact ⟨j, j1, hv.symm.trans j2⟩
    refine ih f (u + 1) _ _ (h.tape (fun r a b c => by rw [pu_upn a, pu_upn b]) (fun r a b => by rw [pu_upn a, pu_upn b]) (by rw [pu_ups, pu_un (by omega), pu_upn (by omega)]) ⟨u + 1, by omega, by rw [pu_ups, pu_us], by rw [pu_ups, pu_us], fun i hi => ?_⟩) (by rw [pu_ups, pu_us]) (by omega) (by omega) (by omega)
    have hx : sl_up (sl_up X 29 u v) 28 1 (nI (u + 1)) 29 = upd (X 29) u v := by rw [pu_upn (by omega), pu_ups]
    have hr : sl_up (sl_up R 7 u v) 0 11 (nI (u + 1)) 7 = upd (R 7) u v := by rw [pu_upn (by omega), pu_ups]
    rw [hx, hr]
    by_cases q : i = u
    · subst q; rw [pu_us, pu_us]; exact ⟨rfl, hb⟩
    · rw [pu_un q, pu_un q]; exact u4 i (by omega)
theorem st_feed (h : Rel X R) (x1 x2 : Int32) : Stq (f4_feed x1 x2 X) (f5_feed x1 x2 R) := by
  obtain ⟨u, u1, u2, u3, -⟩ := h.2.2.2.2.1
  rw [f4_feed, f5_feed, e_in x2 1 4 (a2 := 1) (b2 := 4) rfl rfl]
  by_cases h1 : f4_isWithin x2 1 4 = 0
  · rw [if_pos h1, if_pos h1]; exact t0 h
  · rw [if_neg h1, if_neg h1]
    obtain ⟨k, k1, k2, rfl⟩ := wi_n1 (m := 1) (n := 4) rfl rfl h1
    rw [f2_hasRoomFor, u2, u3, nI_add]
    by_cases q : u + k ≤ 120
    · rw [if_neg (lnl (x := 120) (N := 120) rfl q (by omega)), if_neg (by decide), if_pos (lek (x := 120) (N := 120) rfl q (by omega))]
      exact st_feedl x1 k 400 u X R h u2 q (by omega) (by omega)
    · rw [if_pos (lgt (x := 120) (N := 120) rfl (by omega) (by omega)), if_pos rfl, if_neg (lnk (x := 120) (N := 120) rfl (by omega) (by omega))]
      exact t1 h
theorem st_wipe (h : Rel X R) : Stq (f4_wipe X) (f5_wipe R) := by
  obtain ⟨u, u1, u2, u3, -⟩ := h.2.2.2.2.1
  rw [f4_wipe, f5_wipe, u2, u3]
  exact Stq.of (h.tape (fun r a b c => by rw [pu_upn a]) (fun r a b => by rw [pu_upn a]) (by rw [pu_ups, pu_un (by omega)]) ⟨0, by omega, by rw [pu_ups, pu_us]; rfl, by rw [pu_ups, pu_us]; rfl, fun i hi => by omega⟩)
theorem wi_m1 {x b : Int32} (hx : ¬ x = -1) : f4_isWithin x (-1) b = f4_isWithin x 0 b := by
  have : x < (-1) ↔ x < 0 := by
    rw [Int32.lt_iff_toInt_lt, Int32.lt_iff_toInt_lt]
    have e : ¬ x.toInt = (-1 : Int32).toInt := fun q => hx (Int32.toInt_inj.mp q)
    have e1 : (-1 : Int32).toInt = -1 := by decide
    have e0 : (0 : Int32).toInt = 0 := by decide
    rw [e1] at e ⊢
    rw [e0]
    omega
  unfold f4_isWithin
  by_cases q : x < 0
  · rw [if_pos q, if_pos (this.mpr q)]
  · rw [if_neg q, if_neg (fun z => q (this.mp z))]
theorem s_hold (h : Rel X R) {k : Nat} (hk : k < 10) {v : Int32} (hv : v = -1 ∨ ∃ c, c < 24 ∧ v = nI c) : Stq (f4_hold_25 (nI k) v X) ((sl_st R 1 111 ((101 : Int32) + nI k) v).bind fun M4 => some ((1 : Int32), M4)) := by
  rw [f4_hold_25, pu_st rfl hk (by omega), pu_b, pu_stM (x := (101 : Int32) + nI k) (k := 101 + k) (nI_add 101 k) (by omega), pu_b]
  exact Stq.of (h.land (x_spot (j := 0) h.1 v) (h.2.1.u (oa_spot hk hv)) (Fr.up (j := 0) (k := 8) (by omega)))
theorem st_hold (h : Rel X R) (x1 x2 : Int32) : Stq (f4_hold x1 x2 X) (f5_hold x1 x2 R) := by
  rw [f4_hold, f5_hold, f4_isSpot, e_in x1 0 9 (a2 := 0) (b2 := 9) rfl rfl, e_in x2 (-1) 23 (a2 := -1) (b2 := 23) rfl rfl]
  by_cases h1 : f4_isWithin x1 0 9 = 0
  · rw [if_pos h1, if_pos h1]; exact t0 h
  · rw [if_neg h1, if_neg h1]
    obtain ⟨k, hk, rfl⟩ := wi_n (n := 9) (b := 9) rfl h1
    by_cases h2 : x2 = -1
    · subst h2
      rw [if_pos rfl, if_neg (by decide)]
      exact s_hold h (by omega) (Or.inl rfl)
    · rw [if_neg h2, wi_m1 h2, show f4_isCell x2 = f4_isWithin x2 0 23 from rfl]
      by_cases h3 : f4_isWithin x2 0 23 = 0
      · rw [if_pos h3, if_pos h3]; exact t0 h
      · rw [if_neg h3, if_neg h3]
        exact s_hold h (by omega) (Or.inr (cellN h3))
def rk (a b : Int32) : Int32 := if b = 0 then 1 else if a = b then 1 else if b = 1 then (if a = 3 then 1 else 0) else if b = 5 then (if a = 6 then 1 else 0) else 0
theorem x_kin {M M2 : sl_M} {y : Int32} : ∀ (n : Nat) (a b : Int32), f0_isOfKind_4 M y n a b = f0_isOfKind_4 M2 y n a b := by
  intro n
  induction n with
  | zero => intro a b; rfl
  | succ n ih => intro a b; rw [f0_isOfKind_4, f0_isOfKind_4]; simp only [ih]
theorem x_ofKind {M : sl_M} {a b : Nat} (ha : a < 7) (hb : b < 7) : f0_isOfKind (nI a) (nI b) M = some (rk (nI a) (nI b)) := by
  rw [f0_isOfKind, x_kin (M2 := fun _ _ => 0)]
  exact (by decide +kernel : ∀ a, a < 7 → ∀ b, b < 7 → f0_isOfKind_4 (fun _ _ => 0) (nI b) 400 (nI a) 0 = some (rk (nI a) (nI b))) a ha b hb
theorem st_as (h : Rel X R) (x1 x2 : Int32) : Stq (f4_as x1 x2 X) (f5_as x1 x2 R) := by
  rw [f4_as, f5_as, f4_isSpot, e_in x1 0 9 (a2 := 0) (b2 := 9) rfl rfl, e_kind]
  by_cases h1 : f4_isWithin x1 0 9 = 0
  · rw [if_pos h1, if_pos h1]; exact t0 h
  · rw [if_neg h1, if_neg h1]
    by_cases h2 : f4_isKind x2 = 0
    · rw [if_pos h2, if_pos h2]; exact t0 h
    · rw [if_neg h2, if_neg h2]
      obtain ⟨k, hk, rfl⟩ := wi_n (n := 9) (b := 9) rfl h1
      obtain ⟨b, hb, rfl⟩ := kindN h2
      rw [x0_8 h (by omega), pu_b, pu_ld (x := (101 : Int32) + nI k) (k := 101 + k) (nI_add 101 k) (by omega) (by omega), pu_b]
      rcases h.2.1.2.2.2.2.2.2 k (by omega) with e | ⟨c, hc, e⟩
      · rw [e, if_pos (show f4_isCell (-1) = 0 by decide), if_neg (show ¬ (0 : Int32) ≤ -1 by decide)]
        exact t5 h
      · have i1 : ¬ f4_isCell (nI c) = 0 := by
          rw [show f4_isCell (nI c) = f4_isWithin (nI c) 0 23 from rfl, f4_isWithin, if_neg (nI_pos (by omega)), if_neg (lnl (x := 23) (N := 23) rfl (by omega) (by omega))]
          decide
        obtain ⟨a, ha, ea⟩ := (h.2.1.2.2.2.2.1 c hc).1
        rw [e, if_neg i1, if_pos (nI_pos' (by omega)), x0_1 h hc, pu_b, r_kind hc, pu_b, ea, x_ofKind ha hb, pu_b, rk, f5_as_76, f5_as_88, f5_as_92, f5_as_93, f5_as_93, if_neg (show ¬ (1 : Int32) = 0 by decide), if_pos (show (0 : Int32) = 0 from rfl)]
        by_cases z0 : nI b = 0
        · rw [if_pos z0, if_pos z0, if_neg (by decide)]; exact Stq.of h
        · rw [if_neg z0, if_neg z0]
          by_cases z1 : nI a = nI b
          · rw [if_pos z1, if_pos z1, if_neg (by decide)]; exact Stq.of h
          · rw [if_neg z1, if_neg z1]
            by_cases z2 : nI b = 1
            · rw [if_pos z2, if_pos z2]
              by_cases z3 : nI a = 3
              · rw [if_pos z3, if_pos z3, if_neg (by decide)]; exact Stq.of h
              · rw [if_neg z3, if_neg z3, if_pos rfl, z2, if_neg (show ¬ (1 : Int32) = 5 by decide)]; exact t2 h
            · rw [if_neg z2, if_neg z2]
              by_cases z3 : nI b = 5
              · rw [if_pos z3, if_pos z3]
                by_cases z4 : nI a = 6
                · rw [if_pos z4, if_pos z4, if_neg (by decide)]; exact Stq.of h
                · rw [if_neg z4, if_neg z4, if_pos rfl]; exact t2 h
              · rw [if_neg z3, if_neg z3, if_pos rfl]; exact t2 h
theorem ok.get {σ σ2 : Nat → Int32} (o : ok σ) (h : ∀ i, i < 111 → σ2 i = σ i) : ok σ2 := by
  refine ⟨?_, ?_, ?_, ?_, fun c hc => ?_, fun c hc => ?_, fun k hk => ?_⟩
  · rw [h _ (by omega)]; exact o.1
  · rw [h _ (by omega)]; exact o.2.1
  · rw [h _ (by omega)]; exact o.2.2.1
  · rw [h _ (by omega)]; exact o.2.2.2.1
  · rw [h _ (by omega), h _ (by omega), h _ (by omega)]; exact o.2.2.2.2.1 c hc
  · rw [h _ (by omega), h _ (by omega), h _ (by omega)]; exact o.2.2.2.2.2.1 c hc
  · rw [h _ (by omega)]; exact o.2.2.2.2.2.2 k hk
theorem r_image (M : sl_M) : ∃ M2, f5_image M = some (1, sl_up M2 0 4 1) ∧ (∀ r, r ≠ 2 → M2 r = M r) ∧ ∀ k, k < 111 → M2 2 k = M 1 k := by
  obtain ⟨M2, f2, ⟨m1, m2⟩, e⟩ := pu_1 (F := fun n i (M : sl_M) => f5_image_2 n (nI i) M) (N := 111) (fun i N => (∀ r, r ≠ 2 → N r = M r) ∧ ∀ k, k < i → N 2 k = M 1 k) (by
    rintro i N hi ⟨m1, m2⟩
    refine ⟨sl_up N 2 i (M 1 i), ⟨fun r hr => by rw [pu_upn hr]; exact m1 r hr, fun k hk => ?_⟩, fun n => ?_⟩
    · rw [pu_ups]
      by_cases q : k = i
      · subst q; exact pu_us
      · rw [pu_un q]; exact m2 k (by omega)
    · rw [f5_image_2, if_neg (lge (x := 111) (N := 111) rfl hi (by omega)), pu_ld rfl hi (by omega), pu_b, m1 1 (by omega), pu_st rfl hi (by omega), pu_b, nI_1]) 111 0 M (by omega) ⟨fun _ _ => rfl, fun k hk => by omega⟩ (f := 400) (by omega)
  refine ⟨M2, ?_, m1, m2⟩
  rw [f5_image, show f5_image_2 400 0 M = _ from e, f5_image_2, if_pos (by decide)]
theorem st_image (h : Rel X R) : Stq (f4_image X) (f5_image R) := by
  obtain ⟨X1, a1, a2, a3⟩ := x_takeAll (j := 2) (j2 := 0) h.1 (by omega)
  obtain ⟨R1, b1', b2, b3⟩ := r_image R
  rw [f4_image, a1, pu_b, b1']
  refine Stq.of ?_
  obtain ⟨a, b, c, d, e, f⟩ := h
  have q0 : ∀ i, i < 9 → sl_up X1 27 3 1 (9 * 0 + i) = X (9 * 0 + i) := fun i hi => by rw [pu_upn (by omega)]; exact a3 _ (by omega)
  have q2 : ∀ i, i < 9 → sl_up X1 27 3 1 (9 * 2 + i) = X1 (9 * 2 + i) := fun i hi => pu_upn (by omega)
  have x : ∀ r, 28 ≤ r → sl_up X1 27 3 1 r = X r := fun r hr => by rw [pu_upn (by omega)]; exact a3 _ (by omega)
  have y : ∀ r, r ≠ 0 → r ≠ 2 → sl_up R1 0 4 1 r = R r := fun r r0 r2 => by rw [pu_upn r0]; exact b2 r r2
  rw [Rel, y 1 (by omega) (by omega), y 4 (by omega) (by omega), y 7 (by omega) (by omega), y 8 (by omega) (by omega), y 9 (by omega) (by omega), y 10 (by omega) (by omega), x 35 (by omega), x 28 (by omega), x 29 (by omega), x 32 (by omega), x 33 (by omega), x 34 (by omega), show sl_up R1 0 4 1 0 11 = R 0 11 by rw [pu_ups, pu_un (by omega), b2 0 (by omega)]]
  refine ⟨a.same q0, b, ⟨true, by rw [pu_ups, pu_us]; rfl, by rw [pu_ups, pu_us]; rfl, fun _ => ?_⟩, d, e, f⟩
  rw [pu_upn (by omega)]
  exact ⟨(a2.same q2).get b3, b.get b3⟩
theorem r_undo {M : sl_M} (h : ¬ M 0 4 = 0) : f5_undo M = some (M 2 0, sM M (fun k => if k < 111 then M 2 k else M 1 k)) := by
  obtain ⟨M2, f2, ⟨m1, m2⟩, e⟩ := pu_1 (F := fun n i (M : sl_M) => f5_undo_16 n (nI i) M) (N := 111) (fun i N => (∀ r, r ≠ 1 → N r = M r) ∧ ∀ k, N 1 k = if k < i then M 2 k else M 1 k) (by
    rintro i N hi ⟨m1, m2⟩
    refine ⟨sl_up N 1 i (M 2 i), ⟨fun r hr => by rw [pu_upn hr]; exact m1 r hr, fun k => ?_⟩, fun n => ?_⟩
    · rw [pu_ups]
      by_cases q : k = i
      · subst q; rw [pu_us, if_pos (by omega)]
      · rw [pu_un q, m2 k]
        by_cases z : k < i
        · rw [if_pos z, if_pos (by omega)]
        · rw [if_neg z, if_neg (by omega)]
    · rw [f5_undo_16, if_neg (lge (x := 111) (N := 111) rfl hi (by omega)), pu_ld rfl hi (by omega), pu_b, m1 2 (by omega), pu_st rfl hi (by omega), pu_b, nI_1]) 111 0 M (by omega) ⟨fun _ _ => rfl, fun k => by rw [if_neg (by omega)]⟩ (f := 400) (by omega)
  rw [f5_undo, if_neg h, show f5_undo_16 400 0 M = _ from e, f5_undo_16, if_pos (by decide), pu_ld (x := 0) (k := 0) rfl (by omega) (by omega), pu_b, m2 0, if_pos (by omega)]
  have hM : M2 = sM M (fun k => if k < 111 then M 2 k else M 1 k) := by
    funext r
    by_cases q : r = 1
    · subst q; rw [sM_1]; funext k; exact m2 k
    · rw [sM_n _ _ q, m1 r q]
  rw [hM]
theorem st_undo (h : Rel X R) : Stq (f4_undo X) (f5_undo R) := by
  obtain ⟨z, c1, c2, c3⟩ := h.2.2.1
  cases z
  · rw [f4_undo, f5_undo, c1, c2, if_pos (by decide), if_pos (by decide)]; exact t3 h
  · obtain ⟨k1, k2⟩ := c3 rfl
    obtain ⟨X1, a1, a2, a3⟩ := x_takeAll (j := 0) (j2 := 2) k1 (by omega)
    have e : ∀ i, i < 111 → (fun k => if k < 111 then R 2 k else R 1 k) i = R 2 i := fun i hi => if_pos hi
    rw [f4_undo, c1, if_neg (by decide), a1, pu_b, r_undo (by rw [c2]; decide), show X1 0 11 = R 2 0 from a2.2.2.2.2.2.2.1]
    exact Stq.of (h.land (a2.get e) (k2.get e) a3)
theorem st_tear (h : Rel X R) : Stq (f4_tear X) (f5_tear R) := by
  obtain ⟨z, c1, c2, c3⟩ := h.2.2.1
  have main : Rel (sl_up X 27 3 0) (sl_up R 0 4 0) := by
    obtain ⟨a, b, c, d, e, f⟩ := h
    have q0 : ∀ i, i < 9 → sl_up X 27 3 0 (9 * 0 + i) = X (9 * 0 + i) := fun i hi => pu_upn (by omega)
    have x : ∀ r, r ≠ 27 → sl_up X 27 3 0 r = X r := fun r hr => pu_upn hr
    have y : ∀ r, r ≠ 0 → sl_up R 0 4 0 r = R r := fun r r0 => pu_upn r0
    rw [Rel, y 1 (by omega), y 2 (by omega), y 4 (by omega), y 7 (by omega), y 8 (by omega), y 9 (by omega), y 10 (by omega), x 35 (by omega), x 28 (by omega), x 29 (by omega), x 32 (by omega), x 33 (by omega), x 34 (by omega), show sl_up R 0 4 0 0 11 = R 0 11 by rw [pu_ups, pu_un (by omega)]]
    exact ⟨a.same q0, b, ⟨false, by rw [pu_ups, pu_us]; rfl, by rw [pu_ups, pu_us]; rfl, fun q => by cases q⟩, d, e, f⟩
  rw [f4_tear, f5_tear, c1, c2, f4_tear_12, f4_tear_12, f5_tear_12, f5_tear_12]
  cases z
  · rw [if_pos (by decide), if_pos (by decide)]; exact Stq.of main
  · rw [if_neg (by decide), if_neg (by decide)]; exact Stq.of main
theorem spots_eq (h : Rel X R) : ∃ v, f0_spotsInUse 0 X = some v ∧ f5_count_87 400 0 0 R = some (v, R) := by
  obtain ⟨p, q, f2, hI, e1, e2⟩ := pu_2 (F := fun n i (a : Int32) => f0_spotsInUse_4 0 X n a (nI i)) (G := fun n i (a : Int32) => f5_count_87 n a (nI i) R) (N := 10) (fun _ a b => a = b) (by
    rintro i a b hi rfl
    have w := h.2.1.2.2.2.2.2.2 i hi
    have x1 : ∀ n, f0_spotsInUse_4 0 X (n + 1) a (nI i) = if R 1 (101 + i) = -1 then f0_spotsInUse_4 0 X n a (nI (i + 1)) else f0_spotsInUse_4 0 X n (a + 1) (nI (i + 1)) := fun n => by
      rw [f0_spotsInUse_4, if_neg (lge (x := 10) (N := 10) rfl hi (by omega)), show sl_ld (X (9 * 0 + 8)) 10 (nI i) = _ from x0_8 h hi, pu_b, nI_1]
    have y1 : ∀ n, f5_count_87 (n + 1) a (nI i) R = if 0 ≤ R 1 (101 + i) then f5_count_87 n (a + 1) (nI (i + 1)) R else f5_count_87 n a (nI (i + 1)) R := fun n => by
      rw [f5_count_87, if_neg (lge (x := 10) (N := 10) rfl hi (by omega)), pu_ld (x := (101 : Int32) + nI i) (k := 101 + i) (nI_add 101 i) (by omega) (by omega), pu_b, nI_1, Int32.add_zero]
    rcases w with e | ⟨c, hc, e⟩
    · refine ⟨a, a, rfl, fun n => ?_, fun n => ?_⟩
      · rw [x1 n, if_pos e]
      · rw [y1 n, if_neg (by rw [e]; decide)]
    · refine ⟨a + 1, a + 1, rfl, fun n => ?_, fun n => ?_⟩
      · rw [x1 n, if_neg (by rw [e]; intro z; have := nI_pos (n := c) (by omega); rw [z] at this; exact this (by decide))]
      · rw [y1 n, if_pos (by rw [e]; exact nI_pos' (by omega))]) 10 0 (0 : Int32) (0 : Int32) (by omega) rfl (f := 400) (by omega)
  refine ⟨p, ?_, ?_⟩
  · rw [f0_spotsInUse, show f0_spotsInUse_4 0 X 400 0 0 = _ from e1, f0_spotsInUse_4, if_pos (by decide)]
  · rw [show f5_count_87 400 0 0 R = _ from e2, f5_count_87, if_pos (by decide), hI]
theorem st_count (h : Rel X R) (x1 : Int32) : Stq (f4_count x1 X) (f5_count x1 R) := by
  obtain ⟨u, u1, u2, u3, -⟩ := h.2.2.2.2.1
  obtain ⟨v, v1, v2⟩ := spots_eq h
  obtain ⟨R2, r1, r2, r3⟩ := r_find h.2.1
  obtain ⟨g, hg, eg⟩ := Sas_n (R 1)
  have l1 := h.1
  rw [f4_count, f5_count]
  by_cases z0 : x1 = 0
  · rw [if_pos z0, if_pos z0, pu_ld (x := 0) (k := 0) rfl (by omega) (by omega), pu_b, show X 0 11 = R 1 0 from l1.2.2.2.2.2.2.1]; exact Stq.of h
  rw [if_neg z0, if_neg z0]
  by_cases z1 : x1 = 1
  · rw [if_pos z1, if_pos z1, pu_ld (x := 1) (k := 1) rfl (by omega) (by omega), pu_b, show X 0 8 = R 1 1 from l1.2.2.2.1]; exact Stq.of h
  rw [if_neg z1, if_neg z1]
  by_cases z2 : x1 = 2
  · rw [if_pos z2, if_pos z2, x_all (j := 0) l1 h.2.1, r_all h.2.1, pu_b, pu_b]; exact Stq.of h
  rw [if_neg z2, if_neg z2]
  by_cases z3 : x1 = 3
  · rw [if_pos z3, if_pos z3, x_as (j := 0) l1 h.2.1, r1, pu_b, pu_b]
    dsimp only
    rw [eg, j_ones hg, r_ones hg, pu_b]
    exact Stq.of (h.six r2)
  rw [if_neg z3, if_neg z3]
  by_cases z4 : x1 = 4
  · rw [if_pos z4, if_pos z4, u2, u3]; exact Stq.of h
  rw [if_neg z4, if_neg z4]
  by_cases z5 : x1 = 5
  · rw [if_pos z5, if_pos z5, pu_ld (x := 4) (k := 4) rfl (by omega) (by omega), pu_b, show X 0 12 = R 1 4 from l1.2.2.2.2.2.2.2]; exact Stq.of h
  rw [if_neg z5, if_neg z5]
  by_cases z6 : x1 = 6
  · rw [if_pos z6, if_pos z6, v1, pu_b, v2]; exact Stq.of h
  rw [if_neg z6, if_neg z6]
  exact t0 h
theorem st_status (h : Rel X R) (x1 : Int32) : Stq (f4_status x1 X) (f5_status x1 R) := by
  have d := h.2.2.2.1
  rw [f4_status, f5_status, e_in x1 (-1) 6 (a2 := -1) (b2 := 6) rfl rfl]
  by_cases q : x1 = -1
  · subst q
    rw [if_pos rfl, if_neg (show ¬ f4_isWithin (-1) (-1) 6 = 0 by decide)]
    obtain ⟨p, q, f2, hI, e1, e2⟩ := pu_2 (F := fun n i (a : Int32) => f4_status_9 n a (nI i) X) (G := fun n i (a : Int32) => f5_status_25 (-1) n a (nI i) R) (N := 7) (fun _ a b => a = b) (by
      rintro i a b hi rfl
      refine ⟨a + R 4 i, a + R 4 i, rfl, fun n => ?_, fun n => ?_⟩
      · rw [f4_status_9, if_neg (lnl (x := 6) (N := 6) rfl (by omega) (by omega)), pu_ld rfl hi (by omega), pu_b, nI_1, d i hi]
      · rw [f5_status_25, if_neg (lge (x := 7) (N := 7) rfl hi (by omega)), if_pos (by decide), f5_status_41, pu_ld rfl hi (by omega), pu_b, nI_1]) 7 0 (0 : Int32) (0 : Int32) (by omega) rfl (f := 400) (by omega)
    rw [show f4_status_9 400 0 0 X = _ from e1, show f5_status_25 (-1) 400 0 0 R = _ from e2, f4_status_9, f5_status_25, if_pos (by decide), if_pos (by decide), hI]
    exact Stq.of h
  · rw [if_neg q, wi_m1 q]
    by_cases h1 : f4_isWithin x1 0 6 = 0
    · rw [if_pos h1, if_pos h1]; exact t0 h
    · rw [if_neg h1, if_neg h1]
      obtain ⟨k, hk, rfl⟩ := wi_n (n := 6) (b := 6) rfl h1
      rw [pu_ld rfl (show k < 7 by omega) (by omega), pu_b, d k (by omega)]
      obtain ⟨p, f2, hI, e1⟩ := pu_1 (F := fun n i (a : Int32) => f5_status_25 (nI k) n a (nI i) R) (N := 7) (fun i a => a = if k < i then R 4 k else 0) (by
        rintro i a hi rfl
        by_cases z : i = k
        · subst z
          refine ⟨R 4 i, by rw [if_pos (by omega)], fun n => ?_⟩
          rw [f5_status_25, if_neg (lge (x := 7) (N := 7) rfl hi (by omega)), if_neg (nI_pos (by omega)), if_pos rfl, f5_status_41, pu_ld rfl hi (by omega), pu_b, nI_1, if_neg (by omega), Int32.zero_add]
        · refine ⟨if k < i then R 4 k else 0, ?_, fun n => ?_⟩
          · by_cases w : k < i
            · rw [if_pos w, if_pos (by omega)]
            · rw [if_neg w, if_neg (by omega)]
          · rw [f5_status_25, if_neg (lge (x := 7) (N := 7) rfl hi (by omega)), if_neg (nI_pos (by omega)), if_neg (fun w => z ((nI_eq (by omega) (by omega)).mp w)), nI_1, Int32.add_zero]) 7 0 (0 : Int32) (by omega) (by rw [if_neg (by omega)]) (f := 400) (by omega)
      rw [show f5_status_25 (nI k) 400 0 0 R = _ from e1, f5_status_25, if_pos (by decide), hI, if_pos (by omega)]
      exact Stq.of h
end CI
