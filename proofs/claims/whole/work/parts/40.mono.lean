/-! A larger group opens no less: why the class may look at groups smaller by one alone. -/
theorem cov_mono {r : Nat → Nat} {S S' k v : Nat} (hS : ∀ j, S.testBit j = true → S'.testBit j = true) (h : cov r S k v) : cov r S' k v := by
  obtain ⟨T, hT, e⟩ := h
  exact ⟨T, sb_iff.mpr fun j hj => hS j (sb_iff.mp hT j hj), e⟩
theorem hd_mono {h : Nat → Int32} {g g' p n : Nat} (hg : ∀ j, g.testBit j = true → g'.testBit j = true) (j : Nat) (hj : (hd h g p n).testBit j = true) : (hd h g' p n).testBit j = true := by
  unfold hd at hj ⊢
  rw [mk_bit, Bool.and_eq_true, hh_iff] at hj ⊢
  obtain ⟨h1, q, h2, h3, h4⟩ := hj
  exact ⟨h1, q, h2, hg q h3, h4⟩
theorem gop_iff {r : Nat → Nat} {h : Nat → Int32} {n p : Nat} {lk : Nat → Nat} {c g l : Nat} (hr : ∀ j, j < n → r j < 512) : gop r h n p lk c g l ↔ l < c ∧ cov r (hd h g p n) n (lk l) := by
  unfold gop opn
  rw [mk_bit, Bool.and_eq_true, decide_eq_true_eq, beq_iff_eq, span n hr]
theorem gop_mono {r : Nat → Nat} {h : Nat → Int32} {n p : Nat} {lk : Nat → Nat} {c g g' l : Nat} (hr : ∀ j, j < n → r j < 512) (hg : ∀ j, g.testBit j = true → g'.testBit j = true) (h1 : gop r h n p lk c g l) : gop r h n p lk c g' l := by
  rw [gop_iff hr] at h1 ⊢
  exact ⟨h1.1, cov_mono (hd_mono hg) h1.2⟩
theorem x_bit (g q j : Nat) : (g ^^^ 2 ^ q).testBit j = (g.testBit j != decide (q = j)) := by
  rw [Nat.testBit_xor, Nat.testBit_two_pow]
/-- the least groups are those of which no part opens -/
theorem isLst_all {r : Nat → Nat} {h : Nat → Int32} {n p : Nat} {lk : Nat → Nat} {c g l : Nat} (hr : ∀ j, j < n → r j < 512) (hg : g < 2 ^ p) : isLst r h n p lk c g l ↔ gop r h n p lk c g l ∧ ∀ g', g' < g → g' &&& g = g' → ¬ gop r h n p lk c g' l := by
  unfold isLst
  constructor
  · rintro ⟨h1, h2⟩
    refine ⟨h1, fun g' hlt hs hgo => ?_⟩
    have hex : ∃ q, g.testBit q = true ∧ g'.testBit q = false := by
      apply Classical.byContradiction
      intro hno
      have e : g' = g := Nat.eq_of_testBit_eq fun j => by
        cases hj : g.testBit j with
        | true =>
          cases hj2 : g'.testBit j with
          | true => rfl
          | false => exact absurd ⟨j, hj, hj2⟩ hno
        | false =>
          cases hj2 : g'.testBit j with
          | true => have := sb_iff.mp hs j hj2; rw [hj] at this; cases this
          | false => rfl
      omega
    obtain ⟨q, hq1, hq2⟩ := hex
    have hqp : q < p := by
      rcases Nat.lt_or_ge q p with u | u
      · exact u
      · rw [Nat.testBit_lt_two_pow (Nat.lt_of_lt_of_le hg (Nat.pow_le_pow_right (by omega) u))] at hq1; cases hq1
    refine h2 q hqp hq1 (gop_mono hr (fun j hj => ?_) hgo)
    have hjg := sb_iff.mp hs j hj
    have hne : q ≠ j := fun e => by rw [← e, hq2] at hj; cases hj
    rw [x_bit, hjg, decide_eq_false hne]; rfl
  · rintro ⟨h1, h2⟩
    refine ⟨h1, fun q _ hb hgo => ?_⟩
    have hs : (g ^^^ 2 ^ q) &&& g = g ^^^ 2 ^ q := sb_iff.mpr fun j hj => by
      rw [x_bit] at hj
      by_cases e : q = j
      · rw [← e]; exact hb
      · rw [decide_eq_false e] at hj; simpa using hj
    have hle : g ^^^ 2 ^ q ≤ g := by rw [← hs]; exact Nat.and_le_right
    have hne : g ^^^ 2 ^ q ≠ g := fun e => by
      have := x_bit g q q
      rw [e, hb, decide_eq_true rfl] at this
      cases this
    exact h2 _ (by omega) hs hgo
