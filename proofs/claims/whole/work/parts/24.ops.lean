/-! what a change does to a land -/
def Fr (j : Nat) (M M2 : sl_M) : Prop := ∀ r, (r < 9 * j ∨ 9 * j + 9 ≤ r) → M2 r = M r
theorem Fr.rf {j : Nat} {M : sl_M} : Fr j M M := fun _ _ => rfl
theorem Fr.tr {j : Nat} {M M2 M3 : sl_M} (h : Fr j M M2) (h2 : Fr j M2 M3) : Fr j M M3 := fun r hr => (h2 r hr).trans (h r hr)
theorem Fr.up {j : Nat} {M : sl_M} {k i : Nat} {v : Int32} (hk : k < 9) : Fr j M (sl_up M (9 * j + k) i v) := fun r hr => pu_upn (by omega)
theorem Fr.up0 {j : Nat} {M : sl_M} {i : Nat} {v : Int32} : Fr j M (sl_up M (9 * j) i v) := fun r hr => pu_upn (by omega)
theorem RL.fr {M M2 : sl_M} {j k : Nat} {σ : Nat → Int32} (r : RL M j σ) (h : Fr k M M2) (hjk : j ≠ k) : RL M2 j σ := by
  have e : ∀ i, i < 9 → M2 (9 * j + i) = M (9 * j + i) := fun i hi => h _ (by omega)
  have e0 : M2 (9 * j) = M (9 * j) := h _ (by omega)
  obtain ⟨a, b, c, d⟩ := r
  refine ⟨fun x hx => ?_, fun x hx => ?_, fun x hx => ?_, ?_⟩
  · rw [e 1 (by omega), e 2 (by omega), e 3 (by omega), e 4 (by omega)]; exact a x hx
  · rw [e 5 (by omega), e 6 (by omega), e 7 (by omega)]; exact b x hx
  · rw [e 8 (by omega)]; exact c x hx
  · rw [e0]; exact d
theorem RL.same {M M2 : sl_M} {j : Nat} {σ : Nat → Int32} (r : RL M j σ) (h : ∀ i, i < 9 → M2 (9 * j + i) = M (9 * j + i)) : RL M2 j σ := by
  have e0 : M2 (9 * j) = M (9 * j) := h 0 (by omega)
  obtain ⟨a, b, c, d⟩ := r
  refine ⟨fun x hx => ?_, fun x hx => ?_, fun x hx => ?_, ?_⟩
  · rw [h 1 (by omega), h 2 (by omega), h 3 (by omega), h 4 (by omega)]; exact a x hx
  · rw [h 5 (by omega), h 6 (by omega), h 7 (by omega)]; exact b x hx
  · rw [h 8 (by omega)]; exact c x hx
  · rw [e0]; exact d
/-- one cell's three numbers, and its top -/
theorem RL.c {M M2 : sl_M} {j : Nat} {σ σ2 : Nat → Int32} {c : Nat} (r : RL M j σ) (e : ∀ i, i ≠ 5 + 3 * c → i ≠ 5 + 3 * c + 1 → i ≠ 5 + 3 * c + 2 → σ2 i = σ i) (hc : c < 24)
    (h1 : ∀ i, M2 (9 * j + 1) i = if i = c then σ2 (5 + 3 * c) else M (9 * j + 1) i) (h2 : ∀ i, M2 (9 * j + 2) i = if i = c then σ2 (5 + 3 * c + 1) else M (9 * j + 2) i) (h3 : ∀ i, M2 (9 * j + 3) i = if i = c then σ2 (5 + 3 * c + 2) else M (9 * j + 3) i) (h4 : ∀ i, M2 (9 * j + 4) i = if i = c then Stop σ2 c else M (9 * j + 4) i)
    (h5 : M2 (9 * j + 5) = M (9 * j + 5)) (h6 : M2 (9 * j + 6) = M (9 * j + 6)) (h7 : M2 (9 * j + 7) = M (9 * j + 7)) (h8 : M2 (9 * j + 8) = M (9 * j + 8)) (h0 : M2 (9 * j) = M (9 * j)) : RL M2 j σ2 := by
  obtain ⟨ra, rb, rc, rd⟩ := r
  refine ⟨fun x hx => ?_, fun x hx => ?_, fun x hx => ?_, ?_⟩
  · rw [h1, h2, h3, h4]
    by_cases q : x = c
    · subst q; simp
    · simp only [if_neg q]
      have st : Stop σ2 x = Stop σ x := by
        unfold Stop
        rw [e _ (by omega) (by omega) (by omega), e _ (by omega) (by omega) (by omega), e _ (by omega) (by omega) (by omega)]
      rw [st, e (5 + 3 * x) (by omega) (by omega) (by omega), e (5 + 3 * x + 1) (by omega) (by omega) (by omega), e (5 + 3 * x + 2) (by omega) (by omega) (by omega)]
      exact ra x hx
  · rw [h5, h6, h7, e _ (by omega) (by omega) (by omega), e _ (by omega) (by omega) (by omega), e _ (by omega) (by omega) (by omega)]; exact rb x hx
  · rw [h8, e _ (by omega) (by omega) (by omega)]; exact rc x hx
  · rw [h0, e _ (by omega) (by omega) (by omega), e _ (by omega) (by omega) (by omega), e _ (by omega) (by omega) (by omega), e _ (by omega) (by omega) (by omega), e _ (by omega) (by omega) (by omega)]; exact rd
def setS (σ : Nat → Int32) (c : Nat) (k : Int32) : Nat → Int32 := upd (upd σ (5 + 3 * c) k) (5 + 3 * c + 2) 0
section OX
variable {M : sl_M} {j : Nat} {σ : Nat → Int32}
theorem x_renew {c : Nat} (hc : c < 24) {k g a : Int32} (h1 : M (9 * j + 1) c = k) (h2 : M (9 * j + 2) c = g) (h3 : M (9 * j + 3) c = a) : f0_renewTop j (nI c) M = some (sl_up M (9 * j + 4) c (f0_topFor k g a)) := by
  rw [f0_renewTop, pu_ld rfl hc (by omega), pu_b, pu_ld rfl hc (by omega), pu_b, pu_ld rfl hc (by omega), pu_b, pu_st rfl hc (by omega), pu_b, h1, h2, h3]
theorem x_place (r : RL M j σ) {c : Nat} (hc : c < 24) (k : Int32) : ∃ M2, f0_place j (nI c) k M = some M2 ∧ RL M2 j (setS σ c k) ∧ Fr j M M2 := by
  refine ⟨sl_up (sl_up (sl_up M (9 * j + 1) c k) (9 * j + 3) c 0) (9 * j + 4) c (f0_topFor k (σ (5 + 3 * c + 1)) 0), ?_, ?_, ((Fr.up (by omega)).tr (Fr.up (by omega))).tr (Fr.up (by omega))⟩
  · rw [f0_place, pu_st rfl hc (by omega), pu_b, pu_st rfl hc (by omega), pu_b, x_renew hc (k := k) (g := σ (5 + 3 * c + 1)) (a := 0), pu_b]
    · simp [sl_up, upd]
    · simp [sl_up, (r.1 c hc).2.1]
    · simp [sl_up, upd]
  · refine r.c (c := c) (fun i a b d => ?_) hc (fun i => ?_) (fun i => ?_) (fun i => ?_) (fun i => ?_) ?_ ?_ ?_ ?_ ?_
    · simp [setS, upd, a, d]
    · simp [setS, sl_up, upd]
    · by_cases q : i = c
      · subst q; simp [setS, sl_up, upd, (r.1 i hc).2.1]
      · simp [sl_up, q]
    · simp [setS, sl_up, upd]
    · simp [setS, sl_up, upd, Stop]
    all_goals simp [sl_up]
theorem x_turn (r : RL M j σ) {c : Nat} (hc : c < 24) (k : Int32) : ∃ M2, f0_turnInto j (nI c) k M = some M2 ∧ RL M2 j (upd σ (5 + 3 * c) k) ∧ Fr j M M2 := by
  refine ⟨sl_up (sl_up M (9 * j + 1) c k) (9 * j + 4) c (f0_topFor k (σ (5 + 3 * c + 1)) (σ (5 + 3 * c + 2))), ?_, ?_, (Fr.up (by omega)).tr (Fr.up (by omega))⟩
  · rw [f0_turnInto, pu_st rfl hc (by omega), pu_b, x_renew hc (k := k) (g := σ (5 + 3 * c + 1)) (a := σ (5 + 3 * c + 2)), pu_b]
    · simp [sl_up, upd]
    · simp [sl_up, (r.1 c hc).2.1]
    · simp [sl_up, (r.1 c hc).2.2.1]
  · refine r.c (c := c) (fun i a b d => ?_) hc (fun i => ?_) (fun i => ?_) (fun i => ?_) (fun i => ?_) ?_ ?_ ?_ ?_ ?_
    · simp [upd, a]
    · simp [sl_up, upd]
    · by_cases q : i = c
      · subst q; simp [sl_up, upd, (r.1 i hc).2.1]
      · simp [sl_up, q]
    · by_cases q : i = c
      · subst q; simp [sl_up, upd, (r.1 i hc).2.2.1]
      · simp [sl_up, q]
    · simp [sl_up, upd, Stop]
    all_goals simp [sl_up]
theorem x_raise (r : RL M j σ) {c : Nat} (hc : c < 24) (v : Int32) : ∃ M2, f0_raiseTo j (nI c) v M = some M2 ∧ RL M2 j (upd σ (5 + 3 * c + 1) v) ∧ Fr j M M2 := by
  refine ⟨sl_up (sl_up M (9 * j + 2) c v) (9 * j + 4) c (f0_topFor (σ (5 + 3 * c)) v (σ (5 + 3 * c + 2))), ?_, ?_, (Fr.up (by omega)).tr (Fr.up (by omega))⟩
  · rw [f0_raiseTo, pu_st rfl hc (by omega), pu_b, x_renew hc (k := σ (5 + 3 * c)) (g := v) (a := σ (5 + 3 * c + 2)), pu_b]
    · simp [sl_up, (r.1 c hc).1]
    · simp [sl_up, upd]
    · simp [sl_up, (r.1 c hc).2.2.1]
  · refine r.c (c := c) (fun i a b d => ?_) hc (fun i => ?_) (fun i => ?_) (fun i => ?_) (fun i => ?_) ?_ ?_ ?_ ?_ ?_
    · simp [upd, b]
    · by_cases q : i = c
      · subst q; simp [sl_up, upd, (r.1 i hc).1]
      · simp [sl_up, q]
    · simp [sl_up, upd]
    · by_cases q : i = c
      · subst q; simp [sl_up, upd, (r.1 i hc).2.2.1]
      · simp [sl_up, q]
    · simp [sl_up, upd, Stop]
    all_goals simp [sl_up]
theorem x_ageTo (r : RL M j σ) {c : Nat} (hc : c < 24) (v : Int32) : ∃ M2, f0_ageTo j (nI c) v M = some M2 ∧ RL M2 j (upd σ (5 + 3 * c + 2) v) ∧ Fr j M M2 := by
  refine ⟨sl_up (sl_up M (9 * j + 3) c v) (9 * j + 4) c (f0_topFor (σ (5 + 3 * c)) (σ (5 + 3 * c + 1)) v), ?_, ?_, (Fr.up (by omega)).tr (Fr.up (by omega))⟩
  · rw [f0_ageTo, pu_st rfl hc (by omega), pu_b, x_renew hc (k := σ (5 + 3 * c)) (g := σ (5 + 3 * c + 1)) (a := v), pu_b]
    · simp [sl_up, (r.1 c hc).1]
    · simp [sl_up, (r.1 c hc).2.1]
    · simp [sl_up, upd]
  · refine r.c (c := c) (fun i a b d => ?_) hc (fun i => ?_) (fun i => ?_) (fun i => ?_) (fun i => ?_) ?_ ?_ ?_ ?_ ?_
    · simp [upd, d]
    · by_cases q : i = c
      · subst q; simp [sl_up, upd, (r.1 i hc).1]
      · simp [sl_up, q]
    · by_cases q : i = c
      · subst q; simp [sl_up, upd, (r.1 i hc).2.1]
      · simp [sl_up, q]
    · simp [sl_up, upd]
    · simp [sl_up, upd, Stop]
    all_goals simp [sl_up]
theorem x_lower (r : RL M j σ) {c : Nat} (hc : c < 24) (v : Int32) : ∃ M2, f0_lower j (nI c) v M = some M2 ∧ RL M2 j (upd σ (5 + 3 * c + 1) (sl_mx 0 (σ (5 + 3 * c + 1) - v))) ∧ Fr j M M2 := by
  obtain ⟨M2, h1, h2, h3⟩ := x_raise r hc (sl_mx 0 (σ (5 + 3 * c + 1) - v))
  exact ⟨M2, by rw [f0_lower, x_ld2 r hc, pu_b, h1, pu_b], h2, h3⟩
/-- a house's number -/
theorem RL.h {M2 : sl_M} {σ2 : Nat → Int32} {h : Nat} (r : RL M j σ) (e : ∀ i, i ≠ 77 + 3 * h → i ≠ 77 + 3 * h + 1 → i ≠ 77 + 3 * h + 2 → σ2 i = σ i) (hh : h < 8)
    (h5 : ∀ i, M2 (9 * j + 5) i = if i = h then σ2 (77 + 3 * h) else M (9 * j + 5) i) (h6 : ∀ i, M2 (9 * j + 6) i = if i = h then σ2 (77 + 3 * h + 1) else M (9 * j + 6) i) (h7 : ∀ i, M2 (9 * j + 7) i = if i = h then σ2 (77 + 3 * h + 2) else M (9 * j + 7) i)
    (h1 : M2 (9 * j + 1) = M (9 * j + 1)) (h2 : M2 (9 * j + 2) = M (9 * j + 2)) (h3 : M2 (9 * j + 3) = M (9 * j + 3)) (h4 : M2 (9 * j + 4) = M (9 * j + 4)) (h8 : M2 (9 * j + 8) = M (9 * j + 8)) (h0 : M2 (9 * j) = M (9 * j)) : RL M2 j σ2 := by
  obtain ⟨ra, rb, rc, rd⟩ := r
  refine ⟨fun x hx => ?_, fun x hx => ?_, fun x hx => ?_, ?_⟩
  · have st : Stop σ2 x = Stop σ x := by
      unfold Stop
      rw [e _ (by omega) (by omega) (by omega), e _ (by omega) (by omega) (by omega), e _ (by omega) (by omega) (by omega)]
    rw [h1, h2, h3, h4, st, e (5 + 3 * x) (by omega) (by omega) (by omega), e (5 + 3 * x + 1) (by omega) (by omega) (by omega), e (5 + 3 * x + 2) (by omega) (by omega) (by omega)]
    exact ra x hx
  · rw [h5, h6, h7]
    by_cases q : x = h
    · subst q; simp
    · simp only [if_neg q]
      rw [e (77 + 3 * x) (by omega) (by omega) (by omega), e (77 + 3 * x + 1) (by omega) (by omega) (by omega), e (77 + 3 * x + 2) (by omega) (by omega) (by omega)]
      exact rb x hx
  · rw [h8, e _ (by omega) (by omega) (by omega)]; exact rc x hx
  · rw [h0, e _ (by omega) (by omega) (by omega), e _ (by omega) (by omega) (by omega), e _ (by omega) (by omega) (by omega), e _ (by omega) (by omega) (by omega), e _ (by omega) (by omega) (by omega)]; exact rd
theorem x_home (r : RL M j σ) {h : Nat} (hh : h < 8) (v : Int32) : RL (sl_up M (9 * j + 5) h v) j (upd σ (77 + 3 * h) v) := by
  refine r.h (h := h) (fun i a b d => ?_) hh (fun i => ?_) (fun i => ?_) (fun i => ?_) ?_ ?_ ?_ ?_ ?_ ?_
  · simp [upd, a]
  · simp [sl_up, upd]
  · by_cases q : i = h
    · subst q; simp [sl_up, upd, (r.2.1 i hh).2.1]
    · simp [sl_up, q]
  · by_cases q : i = h
    · subst q; simp [sl_up, upd, (r.2.1 i hh).2.2]
    · simp [sl_up, q]
  all_goals simp [sl_up]
theorem x_floor (r : RL M j σ) {h : Nat} (hh : h < 8) (v : Int32) : RL (sl_up M (9 * j + 6) h v) j (upd σ (77 + 3 * h + 1) v) := by
  refine r.h (h := h) (fun i a b d => ?_) hh (fun i => ?_) (fun i => ?_) (fun i => ?_) ?_ ?_ ?_ ?_ ?_ ?_
  · simp [upd, b]
  · by_cases q : i = h
    · subst q; simp [sl_up, upd, (r.2.1 i hh).1]
    · simp [sl_up, q]
  · simp [sl_up, upd]
  · by_cases q : i = h
    · subst q; simp [sl_up, upd, (r.2.1 i hh).2.2]
    · simp [sl_up, q]
  all_goals simp [sl_up]
theorem x_open (r : RL M j σ) {h : Nat} (hh : h < 8) (v : Int32) : RL (sl_up M (9 * j + 7) h v) j (upd σ (77 + 3 * h + 2) v) := by
  refine r.h (h := h) (fun i a b d => ?_) hh (fun i => ?_) (fun i => ?_) (fun i => ?_) ?_ ?_ ?_ ?_ ?_ ?_
  · simp [upd, d]
  · by_cases q : i = h
    · subst q; simp [sl_up, upd, (r.2.1 i hh).1]
    · simp [sl_up, q]
  · by_cases q : i = h
    · subst q; simp [sl_up, upd, (r.2.1 i hh).2.1]
    · simp [sl_up, q]
  · simp [sl_up, upd]
  all_goals simp [sl_up]
theorem x_num (r : RL M j σ) {k s : Nat} (v : Int32) (h : (k = 8 ∧ s = 1) ∨ (k = 9 ∧ s = 2) ∨ (k = 10 ∧ s = 3) ∨ (k = 11 ∧ s = 0) ∨ (k = 12 ∧ s = 4)) : RL (sl_up M (9 * j) k v) j (upd σ s v) := by
  obtain ⟨ra, rb, rc, rd⟩ := r
  have hs : s < 5 := by omega
  have st : ∀ x, Stop (upd σ s v) x = Stop σ x := by
    intro x
    unfold Stop
    rw [pu_un (by omega), pu_un (by omega), pu_un (by omega)]
  refine ⟨fun x hx => ?_, fun x hx => ?_, fun x hx => ?_, ?_⟩
  · rw [st, pu_un (by omega), pu_un (by omega), pu_un (by omega), pu_upn (by omega), pu_upn (by omega), pu_upn (by omega), pu_upn (by omega)]; exact ra x hx
  · rw [pu_un (by omega), pu_un (by omega), pu_un (by omega), pu_upn (by omega), pu_upn (by omega), pu_upn (by omega)]; exact rb x hx
  · rw [pu_un (by omega), pu_upn (by omega)]; exact rc x hx
  · rw [pu_ups]
    rcases h with ⟨rfl, rfl⟩ | ⟨rfl, rfl⟩ | ⟨rfl, rfl⟩ | ⟨rfl, rfl⟩ | ⟨rfl, rfl⟩ <;> simp [upd, rd]
theorem x_spot (r : RL M j σ) {k : Nat} (v : Int32) : RL (sl_up M (9 * j + 8) k v) j (upd σ (101 + k) v) := by
  obtain ⟨ra, rb, rc, rd⟩ := r
  refine ⟨fun x hx => ?_, fun x hx => ?_, fun x hx => ?_, ?_⟩
  · have st : Stop (upd σ (101 + k) v) x = Stop σ x := by
      unfold Stop
      rw [pu_un (by omega), pu_un (by omega), pu_un (by omega)]
    rw [st, pu_un (by omega), pu_un (by omega), pu_un (by omega), pu_upn (by omega), pu_upn (by omega), pu_upn (by omega), pu_upn (by omega)]; exact ra x hx
  · rw [pu_un (by omega), pu_un (by omega), pu_un (by omega), pu_upn (by omega), pu_upn (by omega), pu_upn (by omega)]; exact rb x hx
  · rw [pu_ups]
    by_cases q : x = k
    · subst q; rw [pu_us, pu_us]
    · rw [pu_un q, pu_un (by omega)]; exact rc x hx
  · rw [pu_un (by omega), pu_un (by omega), pu_un (by omega), pu_un (by omega), pu_un (by omega), pu_upn (by omega)]; exact rd
end OX
theorem pu_cp {M : sl_M} {r0 n r1 : Nat} {x : Int32} (e : x = nI n) (hn : n < 2 ^ 31) : sl_cp M r0 n r1 n 0 0 x = some (fun r => if r = r1 then va_cpy (M r0) (M r1) 0 0 n else M r) := by
  subst e
  unfold sl_cp
  have h0 : (0 : Int32).toNatClampNeg = 0 := rfl
  rw [nI_clamp hn, h0, if_neg]
  rintro (q | q | q | q | q)
  · exact absurd q (by decide)
  · exact absurd q (by decide)
  · exact nI_pos hn q
  · omega
  · omega
theorem cpy0 {f g : Nat → Int32} {n i : Nat} (h : i < n) : va_cpy f g 0 0 n i = f i := by
  unfold va_cpy
  rw [if_pos ⟨Nat.zero_le _, by omega⟩]
  simp
theorem cp1 {M : sl_M} {r0 r1 : Nat} (n : Nat) {x : Int32} (e : x = nI n) (hn : n < 2 ^ 31) : ∃ M2, sl_cp M r0 n r1 n 0 0 x = some M2 ∧ (∀ i, i < n → M2 r1 i = M r0 i) ∧ ∀ r, r ≠ r1 → M2 r = M r := by
  refine ⟨_, pu_cp e hn, fun i hi => ?_, fun r hr => if_neg hr⟩
  show (if r1 = r1 then va_cpy (M r0) (M r1) 0 0 n else M r1) i = M r0 i
  rw [if_pos rfl, cpy0 hi]
theorem x_takeAll {M : sl_M} {j j2 : Nat} {σ : Nat → Int32} (r : RL M j2 σ) (hj : j ≠ j2) : ∃ M2, f0_takeAll j j2 M = some M2 ∧ RL M2 j σ ∧ Fr j M M2 := by
  obtain ⟨M1, e1, a1, b1⟩ := cp1 (M := M) (r0 := 9 * j2 + 1) (r1 := 9 * j + 1) 24 (x := 24) rfl (by omega)
  obtain ⟨M2, e2, a2, b2⟩ := cp1 (M := M1) (r0 := 9 * j2 + 2) (r1 := 9 * j + 2) 24 (x := 24) rfl (by omega)
  obtain ⟨M3, e3, a3, b3⟩ := cp1 (M := M2) (r0 := 9 * j2 + 3) (r1 := 9 * j + 3) 24 (x := 24) rfl (by omega)
  obtain ⟨M4, e4, a4, b4⟩ := cp1 (M := M3) (r0 := 9 * j2 + 4) (r1 := 9 * j + 4) 24 (x := 24) rfl (by omega)
  obtain ⟨M5, e5, a5, b5⟩ := cp1 (M := M4) (r0 := 9 * j2 + 5) (r1 := 9 * j + 5) 8 (x := 8) rfl (by omega)
  obtain ⟨M6, e6, a6, b6⟩ := cp1 (M := M5) (r0 := 9 * j2 + 6) (r1 := 9 * j + 6) 8 (x := 8) rfl (by omega)
  obtain ⟨M7, e7, a7, b7⟩ := cp1 (M := M6) (r0 := 9 * j2 + 7) (r1 := 9 * j + 7) 8 (x := 8) rfl (by omega)
  obtain ⟨M8, e8, a8, b8⟩ := cp1 (M := M7) (r0 := 9 * j2 + 8) (r1 := 9 * j + 8) 10 (x := 10) rfl (by omega)
  rw [f0_takeAll, e1, pu_b, e2, pu_b, e3, pu_b, e4, pu_b, e5, pu_b, e6, pu_b, e7, pu_b, e8, pu_b]
  have hne : 9 * j2 ≠ 9 * j := by omega
  have c1 : ∀ i, i < 24 → M8 (9 * j + 1) i = M (9 * j2 + 1) i := fun i hi => by rw [b8 _ (by omega), b7 _ (by omega), b6 _ (by omega), b5 _ (by omega), b4 _ (by omega), b3 _ (by omega), b2 _ (by omega), a1 i hi]
  have c2 : ∀ i, i < 24 → M8 (9 * j + 2) i = M (9 * j2 + 2) i := fun i hi => by rw [b8 _ (by omega), b7 _ (by omega), b6 _ (by omega), b5 _ (by omega), b4 _ (by omega), b3 _ (by omega), a2 i hi, b1 _ (by omega)]
  have c3 : ∀ i, i < 24 → M8 (9 * j + 3) i = M (9 * j2 + 3) i := fun i hi => by rw [b8 _ (by omega), b7 _ (by omega), b6 _ (by omega), b5 _ (by omega), b4 _ (by omega), a3 i hi, b2 _ (by omega), b1 _ (by omega)]
  have c4 : ∀ i, i < 24 → M8 (9 * j + 4) i = M (9 * j2 + 4) i := fun i hi => by rw [b8 _ (by omega), b7 _ (by omega), b6 _ (by omega), b5 _ (by omega), a4 i hi, b3 _ (by omega), b2 _ (by omega), b1 _ (by omega)]
  have c5 : ∀ i, i < 8 → M8 (9 * j + 5) i = M (9 * j2 + 5) i := fun i hi => by rw [b8 _ (by omega), b7 _ (by omega), b6 _ (by omega), a5 i hi, b4 _ (by omega), b3 _ (by omega), b2 _ (by omega), b1 _ (by omega)]
  have c6 : ∀ i, i < 8 → M8 (9 * j + 6) i = M (9 * j2 + 6) i := fun i hi => by rw [b8 _ (by omega), b7 _ (by omega), a6 i hi, b5 _ (by omega), b4 _ (by omega), b3 _ (by omega), b2 _ (by omega), b1 _ (by omega)]
  have c7 : ∀ i, i < 8 → M8 (9 * j + 7) i = M (9 * j2 + 7) i := fun i hi => by rw [b8 _ (by omega), a7 i hi, b6 _ (by omega), b5 _ (by omega), b4 _ (by omega), b3 _ (by omega), b2 _ (by omega), b1 _ (by omega)]
  have c8 : ∀ i, i < 10 → M8 (9 * j + 8) i = M (9 * j2 + 8) i := fun i hi => by rw [a8 i hi, b7 _ (by omega), b6 _ (by omega), b5 _ (by omega), b4 _ (by omega), b3 _ (by omega), b2 _ (by omega), b1 _ (by omega)]
  have c0 : M8 (9 * j2) = M (9 * j2) := by rw [b8 _ (by omega), b7 _ (by omega), b6 _ (by omega), b5 _ (by omega), b4 _ (by omega), b3 _ (by omega), b2 _ (by omega), b1 _ (by omega)]
  refine ⟨_, rfl, ?_, ?_⟩
  · obtain ⟨ra, rb, rc, rd⟩ := r
    refine ⟨fun x hx => ?_, fun x hx => ?_, fun x hx => ?_, ?_⟩
    · have h4 : ∀ k, 9 * j + (k + 1) ≠ 9 * j := fun k => by omega
      rw [pu_upn (h4 0), pu_upn (h4 0), pu_upn (h4 0), pu_upn (h4 0), pu_upn (h4 0), pu_upn (h4 1), pu_upn (h4 1), pu_upn (h4 1), pu_upn (h4 1), pu_upn (h4 1), pu_upn (h4 2), pu_upn (h4 2), pu_upn (h4 2), pu_upn (h4 2), pu_upn (h4 2), pu_upn (h4 3), pu_upn (h4 3), pu_upn (h4 3), pu_upn (h4 3), pu_upn (h4 3), c1 x hx, c2 x hx, c3 x hx, c4 x hx]
      exact ra x hx
    · have h4 : ∀ k, 9 * j + (k + 1) ≠ 9 * j := fun k => by omega
      rw [pu_upn (h4 4), pu_upn (h4 4), pu_upn (h4 4), pu_upn (h4 4), pu_upn (h4 4), pu_upn (h4 5), pu_upn (h4 5), pu_upn (h4 5), pu_upn (h4 5), pu_upn (h4 5), pu_upn (h4 6), pu_upn (h4 6), pu_upn (h4 6), pu_upn (h4 6), pu_upn (h4 6), c5 x hx, c6 x hx, c7 x hx]
      exact rb x hx
    · have h4 : 9 * j + 8 ≠ 9 * j := by omega
      rw [pu_upn h4, pu_upn h4, pu_upn h4, pu_upn h4, pu_upn h4, c8 x hx]
      exact rc x hx
    · simp [sl_up, upd, hne, c0, rd]
  · intro q hq
    rw [pu_upn (by omega), pu_upn (by omega), pu_upn (by omega), pu_upn (by omega), pu_upn (by omega), b8 _ (by omega), b7 _ (by omega), b6 _ (by omega), b5 _ (by omega), b4 _ (by omega), b3 _ (by omega), b2 _ (by omega), b1 _ (by omega)
    ]
theorem RL.get {M : sl_M} {j : Nat} {σ σ2 : Nat → Int32} (r : RL M j σ) (h : ∀ i, i < 111 → σ2 i = σ i) : RL M j σ2 := by
  obtain ⟨ra, rb, rc, rd⟩ := r
  refine ⟨fun x hx => ?_, fun x hx => ?_, fun x hx => ?_, ?_⟩
  · have st : Stop σ2 x = Stop σ x := by
      unfold Stop
      rw [h _ (by omega), h _ (by omega), h _ (by omega)]
    rw [st, h _ (by omega), h _ (by omega), h _ (by omega)]; exact ra x hx
  · rw [h _ (by omega), h _ (by omega), h _ (by omega)]; exact rb x hx
  · rw [h _ (by omega)]; exact rc x hx
  · rw [h _ (by omega), h _ (by omega), h _ (by omega), h _ (by omega), h _ (by omega)]; exact rd
theorem x_takeCell {M : sl_M} {j j2 : Nat} {σ σ2 : Nat → Int32} (r : RL M j σ) (r2 : RL M j2 σ2) (hj : j ≠ j2) {c : Nat} (hc : c < 24) : ∃ M2, f0_takeCell j j2 (nI c) M = some M2 ∧ RL M2 j (upd (upd (upd σ (5 + 3 * c) (σ2 (5 + 3 * c))) (5 + 3 * c + 1) (σ2 (5 + 3 * c + 1))) (5 + 3 * c + 2) (σ2 (5 + 3 * c + 2))) ∧ Fr j M M2 := by
  obtain ⟨k1, k2, k3, k4⟩ := r2.1 c hc
  refine ⟨sl_up (sl_up (sl_up (sl_up M (9 * j + 1) c (σ2 (5 + 3 * c))) (9 * j + 2) c (σ2 (5 + 3 * c + 1))) (9 * j + 3) c (σ2 (5 + 3 * c + 2))) (9 * j + 4) c (Stop σ2 c), ?_, ?_, (((Fr.up (by omega)).tr (Fr.up (by omega))).tr (Fr.up (by omega))).tr (Fr.up (by omega))⟩
  · rw [f0_takeCell, pu_ld rfl hc (by omega), pu_b, pu_st rfl hc (by omega), pu_b, k1, pu_ld rfl hc (by omega), pu_b, pu_upn (by omega), k2, pu_st rfl hc (by omega), pu_b, pu_ld rfl hc (by omega), pu_b, pu_upn (by omega), pu_upn (by omega), k3, pu_st rfl hc (by omega), pu_b, pu_ld rfl hc (by omega), pu_b, pu_upn (by omega), pu_upn (by omega), pu_upn (by omega), k4, pu_st rfl hc (by omega), pu_b]
  · refine r.c (c := c) (fun i a b d => ?_) hc (fun i => ?_) (fun i => ?_) (fun i => ?_) (fun i => ?_) ?_ ?_ ?_ ?_ ?_
    · simp [upd, a, b, d]
    · simp [sl_up, upd]
    · simp [sl_up, upd]
    · simp [sl_up, upd]
    · simp [sl_up, upd, Stop]
    all_goals simp [sl_up]
/-! years -/
def agI (σ : Nat → Int32) (n i : Nat) : Nat → Int32 := fun k => if 7 ≤ k ∧ (k - 7) % 3 = 0 ∧ k < 7 + 3 * i then sl_mn 99 (σ k + nI n) else σ k
def Sgrow (σ : Nat → Int32) (n : Nat) : Nat → Int32 := upd (agI σ n 24) 0 (σ 0 + nI n)
theorem agI_s (σ : Nat → Int32) (n i : Nat) : upd (agI σ n i) (5 + 3 * i + 2) (sl_mn 99 (σ (5 + 3 * i + 2) + nI n)) = agI σ n (i + 1) := by
  funext k
  unfold upd agI
  by_cases h : k = 5 + 3 * i + 2
  · subst h
    rw [if_pos rfl, if_pos (by omega)]
  · rw [if_neg h]
    by_cases q : 7 ≤ k ∧ (k - 7) % 3 = 0 ∧ k < 7 + 3 * i
    · rw [if_pos q, if_pos (by omega)]
    · rw [if_neg q, if_neg (by omega)]
theorem agI_0 (σ : Nat → Int32) (n : Nat) : agI σ n 0 = σ := by
  funext k
  unfold agI
  rw [if_neg (by omega)]
theorem agI_at (σ : Nat → Int32) (n i : Nat) : agI σ n i (5 + 3 * i + 2) = σ (5 + 3 * i + 2) := by
  unfold agI
  rw [if_neg (by omega)]
theorem x_growl {j : Nat} {σ : Nat → Int32} {n : Nat} : ∀ (k i f : Nat) (M : sl_M), i + k = 24 → k < f → RL M j (agI σ n i) → ∃ M2, f0_grow_2 j (nI n) f (nI i) M = some M2 ∧ RL M2 j (Sgrow σ n) ∧ Fr j M M2 := by
  intro k
  induction k with
  | zero =>
    intro i f M hi hf r
    obtain ⟨f, rfl⟩ : ∃ z, f = z + 1 := ⟨f - 1, by omega⟩
    have e1 : i = 24 := by omega
    subst e1
    refine ⟨sl_up M (9 * j) 11 (σ 0 + nI n), ?_, ?_, Fr.up0⟩
    · rw [f0_grow_2, if_pos (by decide), r.2.2.2.2.2.2.1]
      unfold agI
      rw [if_neg (by omega)]
    · exact x_num r (σ 0 + nI n) (by omega)
  | succ k ih =>
    intro i f M hi hf r
    obtain ⟨f, rfl⟩ : ∃ z, f = z + 1 := ⟨f - 1, by omega⟩
    obtain ⟨M2, h1, h2, h3⟩ := x_ageTo r (show i < 24 by omega) (sl_mn 99 (agI σ n i (5 + 3 * i + 2) + nI n))
    rw [agI_at, agI_s] at h2
    obtain ⟨M3, g1, g2, g3⟩ := ih (i + 1) f M2 (by omega) (by omega) h2
    refine ⟨M3, ?_, g2, h3.tr g3⟩
    rw [f0_grow_2, if_neg (lge (x := 24) (N := 24) rfl (by omega) (by omega)), x_ld3 r (by omega), pu_b, h1, pu_b, nI_1]
    exact g1
theorem x_grow {M : sl_M} {j : Nat} {σ : Nat → Int32} (r : RL M j σ) (n : Nat) : ∃ M2, f0_grow j (nI n) M = some M2 ∧ RL M2 j (Sgrow σ n) ∧ Fr j M M2 :=
  x_growl 24 0 400 M (by omega) (by omega) (by rw [agI_0]; exact r)
