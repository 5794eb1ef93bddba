/-! What slips: the model's list is the class's. -/
theorem cn_2 : ∀ t, t < 9 → cn (2 ^ t) 9 = 1 := by decide +kernel
theorem cn_1 : ∀ w, w < 512 → cn w 9 = 1 → ∃ t, t < 9 ∧ w = 2 ^ t := by decide +kernel
theorem bits_2 : ∀ t, t < 9 → (bits (2 ^ t) 9)[0]? = some t := by decide +kernel
theorem two_inj {a b : Nat} (h : 2 ^ a = 2 ^ b) : a = b := by
  have h1 : (2 ^ a).testBit a = (2 ^ b).testBit a := by rw [h]
  rw [Nat.testBit_two_pow, Nat.testBit_two_pow, decide_eq_true rfl] at h1
  exact (of_decide_eq_true h1.symm).symm
theorem sl_blk {T t : Nat} (ht : t < 9) (k : Nat) : ∀ m, m ≤ 10 → flt (slQ T (2 ^ t)) (10 * k + m) = flt (slQ T (2 ^ t)) (10 * k) ++ (if T.testBit k = true ∧ t < m then [10 * k + t] else []) := by
  intro m
  induction m with
  | zero => intro _; simp
  | succ m ih =>
    intro hm
    have e1 : (10 * k + m) % 10 = m := by omega
    have e2 : (10 * k + m) / 10 = k := by omega
    rw [← Nat.add_assoc, flt_s, ih (by omega)]
    unfold slQ
    rw [e1, e2]
    by_cases hk : T.testBit k = true
    · by_cases hmt : t = m
      · subst hmt
        rw [if_pos (by simp [hk, ht]), if_neg (by omega), if_pos ⟨hk, by omega⟩, List.append_nil]
      · have hne : ¬ 2 ^ t = 2 ^ m := fun e => hmt (two_inj e)
        rw [if_neg (by simp [hne])]
        by_cases hlt : t < m
        · rw [if_pos ⟨hk, hlt⟩, if_pos ⟨hk, by omega⟩]
        · rw [if_neg (fun e => hlt e.2), if_neg (fun e => hlt (by omega))]
    · rw [if_neg (by simp [hk]), if_neg (fun e => hk e.1), if_neg (fun e => hk e.1)]
theorem sl_map {T t : Nat} (ht : t < 9) : ∀ k, flt (slQ T (2 ^ t)) (10 * k) = (bits T k).map (fun q => 10 * q + t) := by
  intro k
  induction k with
  | zero => rfl
  | succ k ih =>
    rw [show 10 * (k + 1) = 10 * k + 10 by omega, sl_blk ht k 10 (Nat.le_refl 10), ih, bits_s]
    by_cases hk : T.testBit k = true
    · rw [if_pos ⟨hk, by omega⟩, if_pos hk, List.map_append]; rfl
    · rw [if_neg (fun e => hk e.1), if_neg hk, List.append_nil]
theorem sl_no {T w : Nat} (h : ¬ cn w 9 = 1) : ∀ m, flt (slQ T w) m = [] := by
  intro m
  induction m with
  | zero => rfl
  | succ m ih =>
    rw [flt_s, ih, if_neg]
    unfold slQ
    simp only [Bool.and_eq_true, decide_eq_true_eq]
    rintro ⟨h1, _, h3⟩
    exact h (by rw [h3]; exact cn_2 _ h1)
