/-! Spans: what rows a set of keys can make. -/
def GB (B : Nat → Nat) : Prop := ∀ j, j < 9 → B j = 0 ∨ ((B j).testBit j = true ∧ ∀ i, j < i → (B j).testBit i = false)
/-- one step -/
def st1 (B : Nat → Nat) (v n : Nat) : Nat := if v.testBit n = true then v ^^^ B n else v
theorem rs_1 (B : Nat → Nat) (v n : Nat) : rs B v (n + 1) = rs B (st1 B v n) n := rfl
theorem st1_x (B : Nat → Nat) (a b n : Nat) : st1 B (a ^^^ b) n = st1 B a n ^^^ st1 B b n := by
  unfold st1
  rw [Nat.testBit_xor]
  cases ha : a.testBit n <;> cases hb : b.testBit n
  · simp
  · simp [Nat.xor_assoc]
  · simp only [Bool.true_bne, Bool.not_false, if_true, Bool.false_eq_true, if_false]
    rw [Nat.xor_assoc, Nat.xor_assoc, Nat.xor_comm b]
  · simp only [bne_self_eq_false, Bool.false_eq_true, if_false, if_true]
    rw [Nat.xor_assoc, Nat.xor_comm b, ← Nat.xor_assoc (B n), Nat.xor_self, Nat.zero_xor]
theorem rs_x (B : Nat → Nat) : ∀ n a b, rs B (a ^^^ b) n = rs B a n ^^^ rs B b n := by
  intro n
  induction n with
  | zero => intro a b; rfl
  | succ n ih => intro a b; rw [rs_1, rs_1, rs_1, st1_x, ih]
theorem rs_U {B : Nat → Nat} (hB : GB B) : ∀ n u i, n ≤ 9 → n ≤ i → (rs B u n).testBit i = u.testBit i := by
  intro n
  induction n with
  | zero => intro u i _ _; rfl
  | succ n ih =>
    intro u i hn hi
    rw [rs_1, ih _ i (by omega) (by omega), st1]
    split
    · rw [Nat.testBit_xor]
      rcases hB n (by omega) with e | e
      · rw [e]; simp
      · rw [e.2 i (by omega)]; simp
    · rfl
theorem rs_R {B : Nat → Nat} (hB : GB B) : ∀ n u j, n ≤ 9 → j < n → B j ≠ 0 → (rs B u n).testBit j = false := by
  intro n
  induction n with
  | zero => intro u j _ hj; omega
  | succ n ih =>
    intro u j hn hj hz
    rw [rs_1]
    rcases Nat.lt_or_ge j n with g | g
    · exact ih _ j (by omega) g hz
    · have e : j = n := by omega
      subst e
      rw [rs_U hB _ _ j (by omega) (Nat.le_refl j), st1]
      split
      · rename_i h
        rw [Nat.testBit_xor, h]
        rcases hB j (by omega) with e | e
        · exact absurd e hz
        · rw [e.1]; rfl
      · rename_i h; simpa using h
theorem rs_F {B : Nat → Nat} {w : Nat} : ∀ n, (∀ j, j < n → B j = 0 ∨ w.testBit j = false) → rs B w n = w := by
  intro n
  induction n with
  | zero => intro _; rfl
  | succ n ih =>
    intro h
    rw [rs_1, show st1 B w n = w from ?_]
    · exact ih fun j hj => h j (by omega)
    · unfold st1
      split
      · rename_i hb
        rcases h n (by omega) with e | e
        · rw [e, Nat.xor_zero]
        · rw [e] at hb; cases hb
      · rfl
theorem rs_W {B : Nat → Nat} {w t : Nat} (hB : GB B) (ht : t < 9) (h0 : B t = 0) (hw : w.testBit t = true) (hr : ∀ j, j < 9 → B j = 0 ∨ w.testBit j = false) : ∀ n u, n ≤ 9 → (n ≤ t → rs (fun j => if j = t then w else B j) u n = rs B u n) ∧ (t < n → rs (fun j => if j = t then w else B j) u n = if (rs B u n).testBit t = true then rs B u n ^^^ w else rs B u n) := by
  intro n
  induction n with
  | zero => intro u _; exact ⟨fun _ => rfl, fun z => absurd z (by omega)⟩
  | succ n ih =>
    intro u hn
    rw [rs_1, rs_1]
    rcases Nat.lt_trichotomy n t with g | g | g
    · have e : st1 (fun j => if j = t then w else B j) u n = st1 B u n := by unfold st1; dsimp only; rw [show (if n = t then w else B n) = B n from if_neg (by omega)]
      rw [e]
      exact ⟨fun _ => (ih (st1 B u n) (by omega)).1 (by omega), fun z => absurd z (by omega)⟩
    · subst g
      refine ⟨fun z => absurd z (by omega), fun _ => ?_⟩
      rw [(ih _ (by omega)).1 (Nat.le_refl n)]
      have e2 : st1 B u n = u := by
        unfold st1; rw [h0]; simp
      rw [e2, rs_U hB n u n (by omega) (Nat.le_refl n)]
      unfold st1
      dsimp only
      rw [if_pos rfl]
      split
      · rw [rs_x, rs_F n fun j hj => hr j (by omega)]
      · rfl
    · have e : st1 (fun j => if j = t then w else B j) u n = st1 B u n := by unfold st1; dsimp only; rw [show (if n = t then w else B n) = B n from if_neg (by omega)]
      rw [e]
      exact ⟨fun z => absurd z (by omega), fun _ => (ih (st1 B u n) (by omega)).2 g⟩
theorem lt_bit {w i : Nat} (h : w < 512) (hi : 9 ≤ i) : w.testBit i = false := Nat.testBit_lt_two_pow (Nat.lt_of_lt_of_le h (Nat.pow_le_pow_right (n := 2) (by omega) hi))
theorem wid_G {B : Nat → Nat} {v : Nat} (hB : GB B) (hl : ∀ j, j < 9 → B j < 512) (hv : v < 512) : GB (wid B v) := by
  unfold wid
  split
  · exact hB
  · rename_i h
    have hw := rs_lt hl 9 (Nat.le_refl 9) v hv
    obtain ⟨h1, h2, h3⟩ := tp_spec 9 (ne0_bit hw h)
    intro j hj
    dsimp only
    split
    · rename_i e
      subst e
      refine Or.inr ⟨h2, fun i hi => ?_⟩
      rcases Nat.lt_or_ge i 9 with g | g
      · exact h3 i hi g
      · exact lt_bit hw g
    · exact hB j hj
theorem wid_0 {B : Nat → Nat} {v u : Nat} (hB : GB B) (hl : ∀ j, j < 9 → B j < 512) (hv : v < 512) : rs (wid B v) u 9 = 0 ↔ rs B u 9 = 0 ∨ rs B (u ^^^ v) 9 = 0 := by
  rw [rs_x]
  unfold wid
  split
  · rename_i h; rw [h, Nat.xor_zero]; simp
  · rename_i h
    have hw := rs_lt hl 9 (Nat.le_refl 9) v hv
    obtain ⟨h1, h2, h3⟩ := tp_spec 9 (ne0_bit hw h)
    have hz : B (tp (rs B v 9) 9) = 0 := by
      by_cases e : B (tp (rs B v 9) 9) = 0
      · exact e
      · rw [rs_R hB 9 v _ (Nat.le_refl 9) h1 e] at h2; cases h2
    have hr : ∀ j, j < 9 → B j = 0 ∨ (rs B v 9).testBit j = false := by
      intro j hj
      by_cases e : B j = 0
      · exact Or.inl e
      · exact Or.inr (rs_R hB 9 v j (Nat.le_refl 9) hj e)
    rw [(rs_W hB h1 hz h2 hr 9 u (Nat.le_refl 9)).2 h1]
    generalize rs B u 9 = a at *
    generalize hb : rs B v 9 = b at *
    have hx : a ^^^ b = 0 ↔ a = b := by
      constructor
      · intro e
        have := congrArg (· ^^^ b) e
        simpa [Nat.xor_assoc] using this
      · intro e; rw [e, Nat.xor_self]
    split
    · rename_i g
      refine ⟨Or.inr, fun z => z.elim (fun e => ?_) id⟩
      rw [e] at g; simp at g
    · rename_i g
      refine ⟨Or.inl, fun z => z.elim id (fun e => ?_)⟩
      rw [hx.mp e] at g; exact absurd h2 g
theorem fsp_G {r : Nat → Nat} {T : Nat} : ∀ n, (∀ k, k < n → r k < 512) → GB (fsp r T n) := by
  intro n
  induction n with
  | zero => intro _ j _; exact Or.inl rfl
  | succ n ih =>
    intro h
    have ih := ih fun k hk => h k (by omega)
    rw [fsp]
    split
    · exact wid_G ih (fsp_lt n fun k hk => h k (by omega)) (h n (by omega))
    · exact ih
/-- T among S makes v, of the first k -/
def cov (r : Nat → Nat) (S k v : Nat) : Prop := ∃ T, T &&& S = T ∧ xrN r T k = v
theorem sb_iff {T S : Nat} : T &&& S = T ↔ ∀ j, T.testBit j = true → S.testBit j = true := by
  constructor
  · intro h j hj
    rw [← h, Nat.testBit_and] at hj
    simp at hj; exact hj.2
  · intro h
    refine Nat.eq_of_testBit_eq fun j => ?_
    rw [Nat.testBit_and]
    cases hj : T.testBit j with
    | false => rfl
    | true => rw [h j hj]; rfl
theorem xr_cg {f : Nat → Nat} {T T' : Nat} : ∀ k, (∀ j, j < k → T.testBit j = T'.testBit j) → xrN f T k = xrN f T' k := by
  intro k
  induction k with
  | zero => intro _; rfl
  | succ k ih =>
    intro h
    rw [xrN, xrN, ih fun j hj => h j (by omega), h k (by omega)]
theorem cov_s {r : Nat → Nat} {S k v : Nat} : cov r S (k + 1) v ↔ cov r S k v ∨ (S.testBit k = true ∧ cov r S k (v ^^^ r k)) := by
  constructor
  · rintro ⟨T, hT, rfl⟩
    rw [xrN]
    split
    · rename_i h
      exact Or.inr ⟨sb_iff.mp hT k h, T, hT, by rw [Nat.xor_assoc, Nat.xor_self, Nat.xor_zero]⟩
    · exact Or.inl ⟨T, hT, rfl⟩
  · rintro (⟨T, hT, rfl⟩ | ⟨hS, T, hT, he⟩)
    · refine ⟨T % 2 ^ k, sb_iff.mpr fun j hj => ?_, ?_⟩
      · rw [Nat.testBit_mod_two_pow] at hj
        simp at hj
        exact sb_iff.mp hT j hj.2
      · rw [xrN, if_neg (by rw [Nat.testBit_mod_two_pow]; simp)]
        exact xr_cg k fun j hj => by rw [Nat.testBit_mod_two_pow]; simp [hj]
    · refine ⟨T % 2 ^ k ||| 2 ^ k, sb_iff.mpr fun j hj => ?_, ?_⟩
      · rw [Nat.testBit_or, Nat.testBit_mod_two_pow, Nat.testBit_two_pow] at hj
        simp at hj
        rcases hj with hj | hj
        · exact sb_iff.mp hT j hj.2
        · rw [← hj]; exact hS
      · rw [xrN, if_pos (by rw [Nat.testBit_or, Nat.testBit_two_pow]; simp)]
        rw [xr_cg (T' := T) k fun j hj => by rw [Nat.testBit_or, Nat.testBit_mod_two_pow, Nat.testBit_two_pow]; simp [hj]; omega, he, Nat.xor_assoc, Nat.xor_self, Nat.xor_zero]
theorem span {r : Nat → Nat} {S : Nat} : ∀ k, (∀ j, j < k → r j < 512) → ∀ v, rs (fsp r S k) v 9 = 0 ↔ cov r S k v := by
  intro k
  induction k with
  | zero =>
    intro _ v
    rw [show rs (fsp r S 0) v 9 = v from rs_F 9 fun j _ => Or.inl rfl]
    exact ⟨fun e => ⟨0, by simp, e.symm⟩, fun ⟨T, _, e⟩ => e.symm⟩
  | succ k ih =>
    intro h v
    have ih := ih fun j hj => h j (by omega)
    rw [cov_s, fsp]
    split
    · rename_i hS
      rw [wid_0 (fsp_G k fun j hj => h j (by omega)) (fsp_lt k fun j hj => h j (by omega)) (h k (by omega)), ih, ih]
      simp [hS]
    · rename_i hS
      rw [ih]
      simp [hS]
theorem rs_eq {r : Nat → Nat} {S k a b : Nat} : rs (fsp r S k) a 9 = rs (fsp r S k) b 9 ↔ rs (fsp r S k) (a ^^^ b) 9 = 0 := by
  rw [rs_x]
  constructor
  · intro e; rw [e, Nat.xor_self]
  · intro e
    have := congrArg (· ^^^ rs (fsp r S k) b 9) e
    simpa [Nat.xor_assoc] using this
