/-! The law's run. -/
theorem lk_c {q : Nat × OP} {l : List (Nat × OP)} {n : Nat} (h : q.1 < n) : lk (q :: l) n = lk l n := by
  have e : Nat.beq q.1 n = false := by
    cases hb : Nat.beq q.1 n with
    | false => rfl
    | true => exact absurd (Nat.eq_of_beq_eq_true hb) (by omega)
  rw [lk, e]
theorem sk_0 (L : Nat) (xs : Nat → Int32) (n : Nat) (_ : 0 < n) : lk (T_L L xs) n = lk (S_0 L xs) n := rfl
theorem sk_1 (L : Nat) (xs : Nat → Int32) (n : Nat) (h : 168 < n) : lk (T_L L xs) n = lk (S_1 L xs) n := by
  rw [sk_0 L xs n (by omega)]
  unfold S_0
  rw [lk_c (by dsimp only; omega)]
  rw [lk_c (by dsimp only; omega)]
  rw [lk_c (by dsimp only; omega)]
  rw [lk_c (by dsimp only; omega)]
  rw [lk_c (by dsimp only; omega)]
  rw [lk_c (by dsimp only; omega)]
  rw [lk_c (by dsimp only; omega)]
  rw [lk_c (by dsimp only; omega)]
  rw [lk_c (by dsimp only; omega)]
  rw [lk_c (by dsimp only; omega)]
  rw [lk_c (by dsimp only; omega)]
  rw [lk_c (by dsimp only; omega)]
  rw [lk_c (by dsimp only; omega)]
  rw [lk_c (by dsimp only; omega)]
  rw [lk_c (by dsimp only; omega)]
  rw [lk_c (by dsimp only; omega)]
  rw [lk_c (by dsimp only; omega)]
  rw [lk_c (by dsimp only; omega)]
  rw [lk_c (by dsimp only; omega)]
  rw [lk_c (by dsimp only; omega)]
  rw [lk_c (by dsimp only; omega)]
  rw [lk_c (by dsimp only; omega)]
  rw [lk_c (by dsimp only; omega)]
  rw [lk_c (by dsimp only; omega)]
theorem sk_2 (L : Nat) (xs : Nat → Int32) (n : Nat) (h : 197 < n) : lk (T_L L xs) n = lk (S_2 L xs) n := by
  rw [sk_1 L xs n (by omega)]
  unfold S_1
  rw [lk_c (by dsimp only; omega)]
  rw [lk_c (by dsimp only; omega)]
  rw [lk_c (by dsimp only; omega)]
  rw [lk_c (by dsimp only; omega)]
  rw [lk_c (by dsimp only; omega)]
  rw [lk_c (by dsimp only; omega)]
  rw [lk_c (by dsimp only; omega)]
  rw [lk_c (by dsimp only; omega)]
  rw [lk_c (by dsimp only; omega)]
  rw [lk_c (by dsimp only; omega)]
  rw [lk_c (by dsimp only; omega)]
  rw [lk_c (by dsimp only; omega)]
  rw [lk_c (by dsimp only; omega)]
  rw [lk_c (by dsimp only; omega)]
  rw [lk_c (by dsimp only; omega)]
  rw [lk_c (by dsimp only; omega)]
  rw [lk_c (by dsimp only; omega)]
  rw [lk_c (by dsimp only; omega)]
  rw [lk_c (by dsimp only; omega)]
  rw [lk_c (by dsimp only; omega)]
  rw [lk_c (by dsimp only; omega)]
  rw [lk_c (by dsimp only; omega)]
  rw [lk_c (by dsimp only; omega)]
  rw [lk_c (by dsimp only; omega)]
theorem sk_3 (L : Nat) (xs : Nat → Int32) (n : Nat) (h : 233 < n) : lk (T_L L xs) n = lk (S_3 L xs) n := by
  rw [sk_2 L xs n (by omega)]
  unfold S_2
  rw [lk_c (by dsimp only; omega)]
  rw [lk_c (by dsimp only; omega)]
  rw [lk_c (by dsimp only; omega)]
  rw [lk_c (by dsimp only; omega)]
  rw [lk_c (by dsimp only; omega)]
  rw [lk_c (by dsimp only; omega)]
  rw [lk_c (by dsimp only; omega)]
  rw [lk_c (by dsimp only; omega)]
  rw [lk_c (by dsimp only; omega)]
  rw [lk_c (by dsimp only; omega)]
  rw [lk_c (by dsimp only; omega)]
  rw [lk_c (by dsimp only; omega)]
  rw [lk_c (by dsimp only; omega)]
  rw [lk_c (by dsimp only; omega)]
  rw [lk_c (by dsimp only; omega)]
  rw [lk_c (by dsimp only; omega)]
  rw [lk_c (by dsimp only; omega)]
  rw [lk_c (by dsimp only; omega)]
  rw [lk_c (by dsimp only; omega)]
  rw [lk_c (by dsimp only; omega)]
  rw [lk_c (by dsimp only; omega)]
  rw [lk_c (by dsimp only; omega)]
  rw [lk_c (by dsimp only; omega)]
  rw [lk_c (by dsimp only; omega)]
theorem sk_4 (L : Nat) (xs : Nat → Int32) (n : Nat) (h : 265 < n) : lk (T_L L xs) n = lk (S_4 L xs) n := by
  rw [sk_3 L xs n (by omega)]
  unfold S_3
  rw [lk_c (by dsimp only; omega)]
  rw [lk_c (by dsimp only; omega)]
  rw [lk_c (by dsimp only; omega)]
  rw [lk_c (by dsimp only; omega)]
  rw [lk_c (by dsimp only; omega)]
  rw [lk_c (by dsimp only; omega)]
  rw [lk_c (by dsimp only; omega)]
  rw [lk_c (by dsimp only; omega)]
  rw [lk_c (by dsimp only; omega)]
  rw [lk_c (by dsimp only; omega)]
  rw [lk_c (by dsimp only; omega)]
  rw [lk_c (by dsimp only; omega)]
  rw [lk_c (by dsimp only; omega)]
  rw [lk_c (by dsimp only; omega)]
  rw [lk_c (by dsimp only; omega)]
  rw [lk_c (by dsimp only; omega)]
  rw [lk_c (by dsimp only; omega)]
  rw [lk_c (by dsimp only; omega)]
  rw [lk_c (by dsimp only; omega)]
  rw [lk_c (by dsimp only; omega)]
  rw [lk_c (by dsimp only; omega)]
  rw [lk_c (by dsimp only; omega)]
  rw [lk_c (by dsimp only; omega)]
  rw [lk_c (by dsimp only; omega)]
theorem sk_5 (L : Nat) (xs : Nat → Int32) (n : Nat) (h : 299 < n) : lk (T_L L xs) n = lk (S_5 L xs) n := by
  rw [sk_4 L xs n (by omega)]
  unfold S_4
  rw [lk_c (by dsimp only; omega)]
  rw [lk_c (by dsimp only; omega)]
  rw [lk_c (by dsimp only; omega)]
  rw [lk_c (by dsimp only; omega)]
  rw [lk_c (by dsimp only; omega)]
  rw [lk_c (by dsimp only; omega)]
  rw [lk_c (by dsimp only; omega)]
  rw [lk_c (by dsimp only; omega)]
  rw [lk_c (by dsimp only; omega)]
  rw [lk_c (by dsimp only; omega)]
  rw [lk_c (by dsimp only; omega)]
  rw [lk_c (by dsimp only; omega)]
  rw [lk_c (by dsimp only; omega)]
  rw [lk_c (by dsimp only; omega)]
  rw [lk_c (by dsimp only; omega)]
  rw [lk_c (by dsimp only; omega)]
  rw [lk_c (by dsimp only; omega)]
  rw [lk_c (by dsimp only; omega)]
  rw [lk_c (by dsimp only; omega)]
  rw [lk_c (by dsimp only; omega)]
  rw [lk_c (by dsimp only; omega)]
  rw [lk_c (by dsimp only; omega)]
  rw [lk_c (by dsimp only; omega)]
  rw [lk_c (by dsimp only; omega)]
theorem sk_6 (L : Nat) (xs : Nat → Int32) (n : Nat) (h : 329 < n) : lk (T_L L xs) n = lk (S_6 L xs) n := by
  rw [sk_5 L xs n (by omega)]
  unfold S_5
  rw [lk_c (by dsimp only; omega)]
  rw [lk_c (by dsimp only; omega)]
  rw [lk_c (by dsimp only; omega)]
  rw [lk_c (by dsimp only; omega)]
  rw [lk_c (by dsimp only; omega)]
  rw [lk_c (by dsimp only; omega)]
  rw [lk_c (by dsimp only; omega)]
  rw [lk_c (by dsimp only; omega)]
  rw [lk_c (by dsimp only; omega)]
  rw [lk_c (by dsimp only; omega)]
  rw [lk_c (by dsimp only; omega)]
  rw [lk_c (by dsimp only; omega)]
  rw [lk_c (by dsimp only; omega)]
  rw [lk_c (by dsimp only; omega)]
  rw [lk_c (by dsimp only; omega)]
  rw [lk_c (by dsimp only; omega)]
  rw [lk_c (by dsimp only; omega)]
  rw [lk_c (by dsimp only; omega)]
  rw [lk_c (by dsimp only; omega)]
  rw [lk_c (by dsimp only; omega)]
  rw [lk_c (by dsimp only; omega)]
  rw [lk_c (by dsimp only; omega)]
  rw [lk_c (by dsimp only; omega)]
  rw [lk_c (by dsimp only; omega)]
theorem sk_7 (L : Nat) (xs : Nat → Int32) (n : Nat) (h : 361 < n) : lk (T_L L xs) n = lk (S_7 L xs) n := by
  rw [sk_6 L xs n (by omega)]
  unfold S_6
  rw [lk_c (by dsimp only; omega)]
  rw [lk_c (by dsimp only; omega)]
  rw [lk_c (by dsimp only; omega)]
  rw [lk_c (by dsimp only; omega)]
  rw [lk_c (by dsimp only; omega)]
  rw [lk_c (by dsimp only; omega)]
  rw [lk_c (by dsimp only; omega)]
  rw [lk_c (by dsimp only; omega)]
  rw [lk_c (by dsimp only; omega)]
  rw [lk_c (by dsimp only; omega)]
  rw [lk_c (by dsimp only; omega)]
  rw [lk_c (by dsimp only; omega)]
  rw [lk_c (by dsimp only; omega)]
  rw [lk_c (by dsimp only; omega)]
  rw [lk_c (by dsimp only; omega)]
  rw [lk_c (by dsimp only; omega)]
  rw [lk_c (by dsimp only; omega)]
  rw [lk_c (by dsimp only; omega)]
  rw [lk_c (by dsimp only; omega)]
  rw [lk_c (by dsimp only; omega)]
  rw [lk_c (by dsimp only; omega)]
  rw [lk_c (by dsimp only; omega)]
  rw [lk_c (by dsimp only; omega)]
  rw [lk_c (by dsimp only; omega)]
theorem sk_8 (L : Nat) (xs : Nat → Int32) (n : Nat) (h : 391 < n) : lk (T_L L xs) n = lk (S_8 L xs) n := by
  rw [sk_7 L xs n (by omega)]
  unfold S_7
  rw [lk_c (by dsimp only; omega)]
  rw [lk_c (by dsimp only; omega)]
  rw [lk_c (by dsimp only; omega)]
  rw [lk_c (by dsimp only; omega)]
  rw [lk_c (by dsimp only; omega)]
  rw [lk_c (by dsimp only; omega)]
  rw [lk_c (by dsimp only; omega)]
  rw [lk_c (by dsimp only; omega)]
  rw [lk_c (by dsimp only; omega)]
  rw [lk_c (by dsimp only; omega)]
  rw [lk_c (by dsimp only; omega)]
  rw [lk_c (by dsimp only; omega)]
  rw [lk_c (by dsimp only; omega)]
  rw [lk_c (by dsimp only; omega)]
  rw [lk_c (by dsimp only; omega)]
  rw [lk_c (by dsimp only; omega)]
  rw [lk_c (by dsimp only; omega)]
  rw [lk_c (by dsimp only; omega)]
  rw [lk_c (by dsimp only; omega)]
  rw [lk_c (by dsimp only; omega)]
  rw [lk_c (by dsimp only; omega)]
  rw [lk_c (by dsimp only; omega)]
  rw [lk_c (by dsimp only; omega)]
  rw [lk_c (by dsimp only; omega)]
theorem sk_9 (L : Nat) (xs : Nat → Int32) (n : Nat) (h : 421 < n) : lk (T_L L xs) n = lk (S_9 L xs) n := by
  rw [sk_8 L xs n (by omega)]
  unfold S_8
  rw [lk_c (by dsimp only; omega)]
  rw [lk_c (by dsimp only; omega)]
  rw [lk_c (by dsimp only; omega)]
  rw [lk_c (by dsimp only; omega)]
  rw [lk_c (by dsimp only; omega)]
  rw [lk_c (by dsimp only; omega)]
  rw [lk_c (by dsimp only; omega)]
  rw [lk_c (by dsimp only; omega)]
  rw [lk_c (by dsimp only; omega)]
  rw [lk_c (by dsimp only; omega)]
  rw [lk_c (by dsimp only; omega)]
  rw [lk_c (by dsimp only; omega)]
  rw [lk_c (by dsimp only; omega)]
  rw [lk_c (by dsimp only; omega)]
  rw [lk_c (by dsimp only; omega)]
  rw [lk_c (by dsimp only; omega)]
  rw [lk_c (by dsimp only; omega)]
  rw [lk_c (by dsimp only; omega)]
  rw [lk_c (by dsimp only; omega)]
  rw [lk_c (by dsimp only; omega)]
  rw [lk_c (by dsimp only; omega)]
  rw [lk_c (by dsimp only; omega)]
  rw [lk_c (by dsimp only; omega)]
  rw [lk_c (by dsimp only; omega)]
theorem sk_10 (L : Nat) (xs : Nat → Int32) (n : Nat) (h : 461 < n) : lk (T_L L xs) n = lk (S_10 L xs) n := by
  rw [sk_9 L xs n (by omega)]
  unfold S_9
  rw [lk_c (by dsimp only; omega)]
  rw [lk_c (by dsimp only; omega)]
  rw [lk_c (by dsimp only; omega)]
  rw [lk_c (by dsimp only; omega)]
  rw [lk_c (by dsimp only; omega)]
  rw [lk_c (by dsimp only; omega)]
  rw [lk_c (by dsimp only; omega)]
  rw [lk_c (by dsimp only; omega)]
  rw [lk_c (by dsimp only; omega)]
  rw [lk_c (by dsimp only; omega)]
  rw [lk_c (by dsimp only; omega)]
  rw [lk_c (by dsimp only; omega)]
  rw [lk_c (by dsimp only; omega)]
  rw [lk_c (by dsimp only; omega)]
  rw [lk_c (by dsimp only; omega)]
  rw [lk_c (by dsimp only; omega)]
  rw [lk_c (by dsimp only; omega)]
  rw [lk_c (by dsimp only; omega)]
  rw [lk_c (by dsimp only; omega)]
  rw [lk_c (by dsimp only; omega)]
  rw [lk_c (by dsimp only; omega)]
  rw [lk_c (by dsimp only; omega)]
  rw [lk_c (by dsimp only; omega)]
  rw [lk_c (by dsimp only; omega)]
theorem sk_11 (L : Nat) (xs : Nat → Int32) (n : Nat) (h : 487 < n) : lk (T_L L xs) n = lk (S_11 L xs) n := by
  rw [sk_10 L xs n (by omega)]
  unfold S_10
  rw [lk_c (by dsimp only; omega)]
  rw [lk_c (by dsimp only; omega)]
  rw [lk_c (by dsimp only; omega)]
  rw [lk_c (by dsimp only; omega)]
  rw [lk_c (by dsimp only; omega)]
  rw [lk_c (by dsimp only; omega)]
  rw [lk_c (by dsimp only; omega)]
  rw [lk_c (by dsimp only; omega)]
  rw [lk_c (by dsimp only; omega)]
  rw [lk_c (by dsimp only; omega)]
  rw [lk_c (by dsimp only; omega)]
  rw [lk_c (by dsimp only; omega)]
  rw [lk_c (by dsimp only; omega)]
  rw [lk_c (by dsimp only; omega)]
  rw [lk_c (by dsimp only; omega)]
  rw [lk_c (by dsimp only; omega)]
  rw [lk_c (by dsimp only; omega)]
  rw [lk_c (by dsimp only; omega)]
  rw [lk_c (by dsimp only; omega)]
  rw [lk_c (by dsimp only; omega)]
  rw [lk_c (by dsimp only; omega)]
  rw [lk_c (by dsimp only; omega)]
  rw [lk_c (by dsimp only; omega)]
  rw [lk_c (by dsimp only; omega)]
theorem sk_12 (L : Nat) (xs : Nat → Int32) (n : Nat) (h : 517 < n) : lk (T_L L xs) n = lk (S_12 L xs) n := by
  rw [sk_11 L xs n (by omega)]
  unfold S_11
  rw [lk_c (by dsimp only; omega)]
  rw [lk_c (by dsimp only; omega)]
  rw [lk_c (by dsimp only; omega)]
  rw [lk_c (by dsimp only; omega)]
  rw [lk_c (by dsimp only; omega)]
  rw [lk_c (by dsimp only; omega)]
  rw [lk_c (by dsimp only; omega)]
  rw [lk_c (by dsimp only; omega)]
  rw [lk_c (by dsimp only; omega)]
  rw [lk_c (by dsimp only; omega)]
  rw [lk_c (by dsimp only; omega)]
  rw [lk_c (by dsimp only; omega)]
  rw [lk_c (by dsimp only; omega)]
  rw [lk_c (by dsimp only; omega)]
  rw [lk_c (by dsimp only; omega)]
  rw [lk_c (by dsimp only; omega)]
  rw [lk_c (by dsimp only; omega)]
  rw [lk_c (by dsimp only; omega)]
  rw [lk_c (by dsimp only; omega)]
  rw [lk_c (by dsimp only; omega)]
  rw [lk_c (by dsimp only; omega)]
  rw [lk_c (by dsimp only; omega)]
  rw [lk_c (by dsimp only; omega)]
  rw [lk_c (by dsimp only; omega)]
theorem sk_13 (L : Nat) (xs : Nat → Int32) (n : Nat) (h : 547 < n) : lk (T_L L xs) n = lk (S_13 L xs) n := by
  rw [sk_12 L xs n (by omega)]
  unfold S_12
  rw [lk_c (by dsimp only; omega)]
  rw [lk_c (by dsimp only; omega)]
  rw [lk_c (by dsimp only; omega)]
  rw [lk_c (by dsimp only; omega)]
  rw [lk_c (by dsimp only; omega)]
  rw [lk_c (by dsimp only; omega)]
  rw [lk_c (by dsimp only; omega)]
  rw [lk_c (by dsimp only; omega)]
  rw [lk_c (by dsimp only; omega)]
  rw [lk_c (by dsimp only; omega)]
  rw [lk_c (by dsimp only; omega)]
  rw [lk_c (by dsimp only; omega)]
  rw [lk_c (by dsimp only; omega)]
  rw [lk_c (by dsimp only; omega)]
  rw [lk_c (by dsimp only; omega)]
  rw [lk_c (by dsimp only; omega)]
  rw [lk_c (by dsimp only; omega)]
  rw [lk_c (by dsimp only; omega)]
  rw [lk_c (by dsimp only; omega)]
  rw [lk_c (by dsimp only; omega)]
  rw [lk_c (by dsimp only; omega)]
  rw [lk_c (by dsimp only; omega)]
  rw [lk_c (by dsimp only; omega)]
  rw [lk_c (by dsimp only; omega)]
theorem sk_14 (L : Nat) (xs : Nat → Int32) (n : Nat) (h : 575 < n) : lk (T_L L xs) n = lk (S_14 L xs) n := by
  rw [sk_13 L xs n (by omega)]
  unfold S_13
  rw [lk_c (by dsimp only; omega)]
  rw [lk_c (by dsimp only; omega)]
  rw [lk_c (by dsimp only; omega)]
  rw [lk_c (by dsimp only; omega)]
  rw [lk_c (by dsimp only; omega)]
  rw [lk_c (by dsimp only; omega)]
  rw [lk_c (by dsimp only; omega)]
  rw [lk_c (by dsimp only; omega)]
  rw [lk_c (by dsimp only; omega)]
  rw [lk_c (by dsimp only; omega)]
  rw [lk_c (by dsimp only; omega)]
  rw [lk_c (by dsimp only; omega)]
  rw [lk_c (by dsimp only; omega)]
  rw [lk_c (by dsimp only; omega)]
  rw [lk_c (by dsimp only; omega)]
  rw [lk_c (by dsimp only; omega)]
  rw [lk_c (by dsimp only; omega)]
  rw [lk_c (by dsimp only; omega)]
  rw [lk_c (by dsimp only; omega)]
  rw [lk_c (by dsimp only; omega)]
  rw [lk_c (by dsimp only; omega)]
  rw [lk_c (by dsimp only; omega)]
  rw [lk_c (by dsimp only; omega)]
  rw [lk_c (by dsimp only; omega)]
theorem sk_15 (L : Nat) (xs : Nat → Int32) (n : Nat) (h : 605 < n) : lk (T_L L xs) n = lk (S_15 L xs) n := by
  rw [sk_14 L xs n (by omega)]
  unfold S_14
  rw [lk_c (by dsimp only; omega)]
  rw [lk_c (by dsimp only; omega)]
  rw [lk_c (by dsimp only; omega)]
  rw [lk_c (by dsimp only; omega)]
  rw [lk_c (by dsimp only; omega)]
  rw [lk_c (by dsimp only; omega)]
  rw [lk_c (by dsimp only; omega)]
  rw [lk_c (by dsimp only; omega)]
  rw [lk_c (by dsimp only; omega)]
  rw [lk_c (by dsimp only; omega)]
  rw [lk_c (by dsimp only; omega)]
  rw [lk_c (by dsimp only; omega)]
  rw [lk_c (by dsimp only; omega)]
  rw [lk_c (by dsimp only; omega)]
  rw [lk_c (by dsimp only; omega)]
  rw [lk_c (by dsimp only; omega)]
  rw [lk_c (by dsimp only; omega)]
  rw [lk_c (by dsimp only; omega)]
  rw [lk_c (by dsimp only; omega)]
  rw [lk_c (by dsimp only; omega)]
  rw [lk_c (by dsimp only; omega)]
  rw [lk_c (by dsimp only; omega)]
  rw [lk_c (by dsimp only; omega)]
  rw [lk_c (by dsimp only; omega)]
theorem sk_16 (L : Nat) (xs : Nat → Int32) (n : Nat) (h : 637 < n) : lk (T_L L xs) n = lk (S_16 L xs) n := by
  rw [sk_15 L xs n (by omega)]
  unfold S_15
  rw [lk_c (by dsimp only; omega)]
  rw [lk_c (by dsimp only; omega)]
  rw [lk_c (by dsimp only; omega)]
  rw [lk_c (by dsimp only; omega)]
  rw [lk_c (by dsimp only; omega)]
  rw [lk_c (by dsimp only; omega)]
  rw [lk_c (by dsimp only; omega)]
  rw [lk_c (by dsimp only; omega)]
  rw [lk_c (by dsimp only; omega)]
  rw [lk_c (by dsimp only; omega)]
  rw [lk_c (by dsimp only; omega)]
  rw [lk_c (by dsimp only; omega)]
  rw [lk_c (by dsimp only; omega)]
  rw [lk_c (by dsimp only; omega)]
  rw [lk_c (by dsimp only; omega)]
  rw [lk_c (by dsimp only; omega)]
  rw [lk_c (by dsimp only; omega)]
  rw [lk_c (by dsimp only; omega)]
  rw [lk_c (by dsimp only; omega)]
  rw [lk_c (by dsimp only; omega)]
  rw [lk_c (by dsimp only; omega)]
  rw [lk_c (by dsimp only; omega)]
  rw [lk_c (by dsimp only; omega)]
  rw [lk_c (by dsimp only; omega)]
theorem sk_17 (L : Nat) (xs : Nat → Int32) (n : Nat) (h : 671 < n) : lk (T_L L xs) n = lk (S_17 L xs) n := by
  rw [sk_16 L xs n (by omega)]
  unfold S_16
  rw [lk_c (by dsimp only; omega)]
  rw [lk_c (by dsimp only; omega)]
  rw [lk_c (by dsimp only; omega)]
  rw [lk_c (by dsimp only; omega)]
  rw [lk_c (by dsimp only; omega)]
  rw [lk_c (by dsimp only; omega)]
  rw [lk_c (by dsimp only; omega)]
  rw [lk_c (by dsimp only; omega)]
  rw [lk_c (by dsimp only; omega)]
  rw [lk_c (by dsimp only; omega)]
  rw [lk_c (by dsimp only; omega)]
  rw [lk_c (by dsimp only; omega)]
  rw [lk_c (by dsimp only; omega)]
  rw [lk_c (by dsimp only; omega)]
  rw [lk_c (by dsimp only; omega)]
  rw [lk_c (by dsimp only; omega)]
  rw [lk_c (by dsimp only; omega)]
  rw [lk_c (by dsimp only; omega)]
  rw [lk_c (by dsimp only; omega)]
  rw [lk_c (by dsimp only; omega)]
  rw [lk_c (by dsimp only; omega)]
  rw [lk_c (by dsimp only; omega)]
  rw [lk_c (by dsimp only; omega)]
  rw [lk_c (by dsimp only; omega)]
theorem sk_18 (L : Nat) (xs : Nat → Int32) (n : Nat) (h : 701 < n) : lk (T_L L xs) n = lk (S_18 L xs) n := by
  rw [sk_17 L xs n (by omega)]
  unfold S_17
  rw [lk_c (by dsimp only; omega)]
  rw [lk_c (by dsimp only; omega)]
  rw [lk_c (by dsimp only; omega)]
  rw [lk_c (by dsimp only; omega)]
  rw [lk_c (by dsimp only; omega)]
  rw [lk_c (by dsimp only; omega)]
  rw [lk_c (by dsimp only; omega)]
  rw [lk_c (by dsimp only; omega)]
  rw [lk_c (by dsimp only; omega)]
  rw [lk_c (by dsimp only; omega)]
  rw [lk_c (by dsimp only; omega)]
  rw [lk_c (by dsimp only; omega)]
  rw [lk_c (by dsimp only; omega)]
  rw [lk_c (by dsimp only; omega)]
  rw [lk_c (by dsimp only; omega)]
  rw [lk_c (by dsimp only; omega)]
  rw [lk_c (by dsimp only; omega)]
  rw [lk_c (by dsimp only; omega)]
  rw [lk_c (by dsimp only; omega)]
  rw [lk_c (by dsimp only; omega)]
  rw [lk_c (by dsimp only; omega)]
  rw [lk_c (by dsimp only; omega)]
  rw [lk_c (by dsimp only; omega)]
  rw [lk_c (by dsimp only; omega)]
theorem sk_19 (L : Nat) (xs : Nat → Int32) (n : Nat) (h : 731 < n) : lk (T_L L xs) n = lk (S_19 L xs) n := by
  rw [sk_18 L xs n (by omega)]
  unfold S_18
  rw [lk_c (by dsimp only; omega)]
  rw [lk_c (by dsimp only; omega)]
  rw [lk_c (by dsimp only; omega)]
  rw [lk_c (by dsimp only; omega)]
  rw [lk_c (by dsimp only; omega)]
  rw [lk_c (by dsimp only; omega)]
  rw [lk_c (by dsimp only; omega)]
  rw [lk_c (by dsimp only; omega)]
  rw [lk_c (by dsimp only; omega)]
  rw [lk_c (by dsimp only; omega)]
  rw [lk_c (by dsimp only; omega)]
  rw [lk_c (by dsimp only; omega)]
  rw [lk_c (by dsimp only; omega)]
  rw [lk_c (by dsimp only; omega)]
  rw [lk_c (by dsimp only; omega)]
  rw [lk_c (by dsimp only; omega)]
  rw [lk_c (by dsimp only; omega)]
  rw [lk_c (by dsimp only; omega)]
  rw [lk_c (by dsimp only; omega)]
  rw [lk_c (by dsimp only; omega)]
  rw [lk_c (by dsimp only; omega)]
  rw [lk_c (by dsimp only; omega)]
  rw [lk_c (by dsimp only; omega)]
  rw [lk_c (by dsimp only; omega)]
theorem sk_20 (L : Nat) (xs : Nat → Int32) (n : Nat) (h : 757 < n) : lk (T_L L xs) n = lk (S_20 L xs) n := by
  rw [sk_19 L xs n (by omega)]
  unfold S_19
  rw [lk_c (by dsimp only; omega)]
  rw [lk_c (by dsimp only; omega)]
  rw [lk_c (by dsimp only; omega)]
  rw [lk_c (by dsimp only; omega)]
  rw [lk_c (by dsimp only; omega)]
  rw [lk_c (by dsimp only; omega)]
  rw [lk_c (by dsimp only; omega)]
  rw [lk_c (by dsimp only; omega)]
  rw [lk_c (by dsimp only; omega)]
  rw [lk_c (by dsimp only; omega)]
  rw [lk_c (by dsimp only; omega)]
  rw [lk_c (by dsimp only; omega)]
  rw [lk_c (by dsimp only; omega)]
  rw [lk_c (by dsimp only; omega)]
  rw [lk_c (by dsimp only; omega)]
  rw [lk_c (by dsimp only; omega)]
  rw [lk_c (by dsimp only; omega)]
  rw [lk_c (by dsimp only; omega)]
  rw [lk_c (by dsimp only; omega)]
  rw [lk_c (by dsimp only; omega)]
  rw [lk_c (by dsimp only; omega)]
  rw [lk_c (by dsimp only; omega)]
  rw [lk_c (by dsimp only; omega)]
  rw [lk_c (by dsimp only; omega)]
theorem sk_21 (L : Nat) (xs : Nat → Int32) (n : Nat) (h : 787 < n) : lk (T_L L xs) n = lk (S_21 L xs) n := by
  rw [sk_20 L xs n (by omega)]
  unfold S_20
  rw [lk_c (by dsimp only; omega)]
  rw [lk_c (by dsimp only; omega)]
  rw [lk_c (by dsimp only; omega)]
  rw [lk_c (by dsimp only; omega)]
  rw [lk_c (by dsimp only; omega)]
  rw [lk_c (by dsimp only; omega)]
  rw [lk_c (by dsimp only; omega)]
  rw [lk_c (by dsimp only; omega)]
  rw [lk_c (by dsimp only; omega)]
  rw [lk_c (by dsimp only; omega)]
  rw [lk_c (by dsimp only; omega)]
  rw [lk_c (by dsimp only; omega)]
  rw [lk_c (by dsimp only; omega)]
  rw [lk_c (by dsimp only; omega)]
  rw [lk_c (by dsimp only; omega)]
  rw [lk_c (by dsimp only; omega)]
  rw [lk_c (by dsimp only; omega)]
  rw [lk_c (by dsimp only; omega)]
  rw [lk_c (by dsimp only; omega)]
  rw [lk_c (by dsimp only; omega)]
  rw [lk_c (by dsimp only; omega)]
  rw [lk_c (by dsimp only; omega)]
  rw [lk_c (by dsimp only; omega)]
  rw [lk_c (by dsimp only; omega)]
theorem sk_22 (L : Nat) (xs : Nat → Int32) (n : Nat) (h : 817 < n) : lk (T_L L xs) n = lk (S_22 L xs) n := by
  rw [sk_21 L xs n (by omega)]
  unfold S_21
  rw [lk_c (by dsimp only; omega)]
  rw [lk_c (by dsimp only; omega)]
  rw [lk_c (by dsimp only; omega)]
  rw [lk_c (by dsimp only; omega)]
  rw [lk_c (by dsimp only; omega)]
  rw [lk_c (by dsimp only; omega)]
  rw [lk_c (by dsimp only; omega)]
  rw [lk_c (by dsimp only; omega)]
  rw [lk_c (by dsimp only; omega)]
  rw [lk_c (by dsimp only; omega)]
  rw [lk_c (by dsimp only; omega)]
  rw [lk_c (by dsimp only; omega)]
  rw [lk_c (by dsimp only; omega)]
  rw [lk_c (by dsimp only; omega)]
  rw [lk_c (by dsimp only; omega)]
  rw [lk_c (by dsimp only; omega)]
  rw [lk_c (by dsimp only; omega)]
  rw [lk_c (by dsimp only; omega)]
  rw [lk_c (by dsimp only; omega)]
  rw [lk_c (by dsimp only; omega)]
  rw [lk_c (by dsimp only; omega)]
  rw [lk_c (by dsimp only; omega)]
  rw [lk_c (by dsimp only; omega)]
  rw [lk_c (by dsimp only; omega)]
theorem sk_23 (L : Nat) (xs : Nat → Int32) (n : Nat) (h : 851 < n) : lk (T_L L xs) n = lk (S_23 L xs) n := by
  rw [sk_22 L xs n (by omega)]
  unfold S_22
  rw [lk_c (by dsimp only; omega)]
  rw [lk_c (by dsimp only; omega)]
  rw [lk_c (by dsimp only; omega)]
  rw [lk_c (by dsimp only; omega)]
  rw [lk_c (by dsimp only; omega)]
  rw [lk_c (by dsimp only; omega)]
  rw [lk_c (by dsimp only; omega)]
  rw [lk_c (by dsimp only; omega)]
  rw [lk_c (by dsimp only; omega)]
  rw [lk_c (by dsimp only; omega)]
  rw [lk_c (by dsimp only; omega)]
  rw [lk_c (by dsimp only; omega)]
  rw [lk_c (by dsimp only; omega)]
  rw [lk_c (by dsimp only; omega)]
  rw [lk_c (by dsimp only; omega)]
  rw [lk_c (by dsimp only; omega)]
  rw [lk_c (by dsimp only; omega)]
  rw [lk_c (by dsimp only; omega)]
  rw [lk_c (by dsimp only; omega)]
  rw [lk_c (by dsimp only; omega)]
  rw [lk_c (by dsimp only; omega)]
  rw [lk_c (by dsimp only; omega)]
  rw [lk_c (by dsimp only; omega)]
  rw [lk_c (by dsimp only; omega)]
theorem sk_24 (L : Nat) (xs : Nat → Int32) (n : Nat) (h : 887 < n) : lk (T_L L xs) n = lk (S_24 L xs) n := by
  rw [sk_23 L xs n (by omega)]
  unfold S_23
  rw [lk_c (by dsimp only; omega)]
  rw [lk_c (by dsimp only; omega)]
  rw [lk_c (by dsimp only; omega)]
  rw [lk_c (by dsimp only; omega)]
  rw [lk_c (by dsimp only; omega)]
  rw [lk_c (by dsimp only; omega)]
  rw [lk_c (by dsimp only; omega)]
  rw [lk_c (by dsimp only; omega)]
  rw [lk_c (by dsimp only; omega)]
  rw [lk_c (by dsimp only; omega)]
  rw [lk_c (by dsimp only; omega)]
  rw [lk_c (by dsimp only; omega)]
  rw [lk_c (by dsimp only; omega)]
  rw [lk_c (by dsimp only; omega)]
  rw [lk_c (by dsimp only; omega)]
  rw [lk_c (by dsimp only; omega)]
  rw [lk_c (by dsimp only; omega)]
  rw [lk_c (by dsimp only; omega)]
  rw [lk_c (by dsimp only; omega)]
  rw [lk_c (by dsimp only; omega)]
  rw [lk_c (by dsimp only; omega)]
  rw [lk_c (by dsimp only; omega)]
  rw [lk_c (by dsimp only; omega)]
  rw [lk_c (by dsimp only; omega)]
theorem kL_18 (L : Nat) (xs : Nat → Int32) : lk (T_L L xs) 18 = o_iload 3 19 := (sk_0 L xs 18 (by omega)).trans rfl
theorem kL_19 (L : Nat) (xs : Nat → Int32) : lk (T_L L xs) 19 = o_aload 0 20 := (sk_0 L xs 19 (by omega)).trans rfl
theorem kL_20 (L : Nat) (xs : Nat → Int32) : lk (T_L L xs) 20 = o_xlen L 21 := (sk_0 L xs 20 (by omega)).trans rfl
theorem kL_21 (L : Nat) (xs : Nat → Int32) : lk (T_L L xs) 21 = o_const 4 22 := (sk_0 L xs 21 (by omega)).trans rfl
theorem kL_22 (L : Nat) (xs : Nat → Int32) : lk (T_L L xs) 22 = o_bin (fun x y => x - y) 23 := (sk_0 L xs 22 (by omega)).trans rfl
theorem kL_23 (L : Nat) (xs : Nat → Int32) : lk (T_L L xs) 23 = o_icmp (fun x y => y < x) 894 26 := (sk_0 L xs 23 (by omega)).trans rfl
theorem kL_26 (L : Nat) (xs : Nat → Int32) : lk (T_L L xs) 26 = o_aload 0 27 := (sk_0 L xs 26 (by omega)).trans rfl
theorem kL_27 (L : Nat) (xs : Nat → Int32) : lk (T_L L xs) 27 = o_iload 3 28 := (sk_0 L xs 27 (by omega)).trans rfl
theorem kL_28 (L : Nat) (xs : Nat → Int32) : lk (T_L L xs) 28 = o_xld L xs 29 := (sk_0 L xs 28 (by omega)).trans rfl
theorem kL_29 (L : Nat) (xs : Nat → Int32) : lk (T_L L xs) 29 = o_const 31 31 := (sk_0 L xs 29 (by omega)).trans rfl
theorem kL_31 (L : Nat) (xs : Nat → Int32) : lk (T_L L xs) 31 = o_bin (fun x y => x &&& y) 32 := (sk_0 L xs 31 (by omega)).trans rfl
theorem kL_32 (L : Nat) (xs : Nat → Int32) : lk (T_L L xs) 32 = o_sw [(0, 156), (1, 219), (2, 232), (3, 245), (4, 278), (5, 301), (6, 324), (7, 347), (8, 380), (9, 403), (10, 436), (11, 449), (12, 462), (13, 505), (14, 528), (15, 561), (16, 604), (17, 627), (18, 650), (19, 673), (20, 686), (21, 729), (22, 772), (23, 805), (24, 828), (25, 851), (26, 874)] 888 := (sk_0 L xs 32 (by omega)).trans rfl
theorem kL_156 (L : Nat) (xs : Nat → Int32) : lk (T_L L xs) 156 = o_aload 1 157 := (sk_0 L xs 156 (by omega)).trans rfl
theorem kL_157 (L : Nat) (xs : Nat → Int32) : lk (T_L L xs) 157 = o_aload 0 158 := (sk_0 L xs 157 (by omega)).trans rfl
theorem kL_158 (L : Nat) (xs : Nat → Int32) : lk (T_L L xs) 158 = o_iload 3 159 := (sk_0 L xs 158 (by omega)).trans rfl
theorem kL_159 (L : Nat) (xs : Nat → Int32) : lk (T_L L xs) 159 = o_const 1 160 := (sk_0 L xs 159 (by omega)).trans rfl
theorem kL_160 (L : Nat) (xs : Nat → Int32) : lk (T_L L xs) 160 = o_bin (fun x y => x + y) 161 := (sk_0 L xs 160 (by omega)).trans rfl
theorem kL_161 (L : Nat) (xs : Nat → Int32) : lk (T_L L xs) 161 = o_xld L xs 162 := (sk_0 L xs 161 (by omega)).trans rfl
theorem kL_162 (L : Nat) (xs : Nat → Int32) : lk (T_L L xs) 162 = o_i2l 163 := (sk_0 L xs 162 (by omega)).trans rfl
theorem kL_163 (L : Nat) (xs : Nat → Int32) : lk (T_L L xs) 163 = o_const 32 165 := (sk_0 L xs 163 (by omega)).trans rfl
theorem kL_165 (L : Nat) (xs : Nat → Int32) : lk (T_L L xs) 165 = o_lsh (fun x y => x <<< (y.toInt64 &&& 63)) 166 := (sk_0 L xs 165 (by omega)).trans rfl
theorem kL_166 (L : Nat) (xs : Nat → Int32) : lk (T_L L xs) 166 = o_aload 0 167 := (sk_0 L xs 166 (by omega)).trans rfl
theorem kL_167 (L : Nat) (xs : Nat → Int32) : lk (T_L L xs) 167 = o_iload 3 168 := (sk_0 L xs 167 (by omega)).trans rfl
theorem kL_168 (L : Nat) (xs : Nat → Int32) : lk (T_L L xs) 168 = o_const 2 169 := (sk_0 L xs 168 (by omega)).trans rfl
theorem kL_169 (L : Nat) (xs : Nat → Int32) : lk (T_L L xs) 169 = o_bin (fun x y => x + y) 170 := (sk_1 L xs 169 (by omega)).trans rfl
theorem kL_170 (L : Nat) (xs : Nat → Int32) : lk (T_L L xs) 170 = o_xld L xs 171 := (sk_1 L xs 170 (by omega)).trans rfl
theorem kL_171 (L : Nat) (xs : Nat → Int32) : lk (T_L L xs) 171 = o_i2l 172 := (sk_1 L xs 171 (by omega)).trans rfl
theorem kL_172 (L : Nat) (xs : Nat → Int32) : lk (T_L L xs) 172 = o_lconst 4294967295 175 := (sk_1 L xs 172 (by omega)).trans rfl
theorem kL_175 (L : Nat) (xs : Nat → Int32) : lk (T_L L xs) 175 = o_lbin (fun x y => x &&& y) 176 := (sk_1 L xs 175 (by omega)).trans rfl
theorem kL_176 (L : Nat) (xs : Nat → Int32) : lk (T_L L xs) 176 = o_lbin (fun x y => x ||| y) 177 := (sk_1 L xs 176 (by omega)).trans rfl
theorem kL_177 (L : Nat) (xs : Nat → Int32) : lk (T_L L xs) 177 = o_aload 0 178 := (sk_1 L xs 177 (by omega)).trans rfl
theorem kL_178 (L : Nat) (xs : Nat → Int32) : lk (T_L L xs) 178 = o_iload 3 179 := (sk_1 L xs 178 (by omega)).trans rfl
theorem kL_179 (L : Nat) (xs : Nat → Int32) : lk (T_L L xs) 179 = o_const 3 180 := (sk_1 L xs 179 (by omega)).trans rfl
theorem kL_180 (L : Nat) (xs : Nat → Int32) : lk (T_L L xs) 180 = o_bin (fun x y => x + y) 181 := (sk_1 L xs 180 (by omega)).trans rfl
theorem kL_181 (L : Nat) (xs : Nat → Int32) : lk (T_L L xs) 181 = o_xld L xs 182 := (sk_1 L xs 181 (by omega)).trans rfl
theorem kL_182 (L : Nat) (xs : Nat → Int32) : lk (T_L L xs) 182 = o_callV 4 S_X4_type 2 185 := (sk_1 L xs 182 (by omega)).trans rfl
theorem kL_185 (L : Nat) (xs : Nat → Int32) : lk (T_L L xs) 185 = o_aload 2 186 := (sk_1 L xs 185 (by omega)).trans rfl
theorem kL_186 (L : Nat) (xs : Nat → Int32) : lk (T_L L xs) 186 = o_aload 0 187 := (sk_1 L xs 186 (by omega)).trans rfl
theorem kL_187 (L : Nat) (xs : Nat → Int32) : lk (T_L L xs) 187 = o_iload 3 188 := (sk_1 L xs 187 (by omega)).trans rfl
theorem kL_188 (L : Nat) (xs : Nat → Int32) : lk (T_L L xs) 188 = o_const 1 189 := (sk_1 L xs 188 (by omega)).trans rfl
theorem kL_189 (L : Nat) (xs : Nat → Int32) : lk (T_L L xs) 189 = o_bin (fun x y => x + y) 190 := (sk_1 L xs 189 (by omega)).trans rfl
theorem kL_190 (L : Nat) (xs : Nat → Int32) : lk (T_L L xs) 190 = o_xld L xs 191 := (sk_1 L xs 190 (by omega)).trans rfl
theorem kL_191 (L : Nat) (xs : Nat → Int32) : lk (T_L L xs) 191 = o_i2l 192 := (sk_1 L xs 191 (by omega)).trans rfl
theorem kL_192 (L : Nat) (xs : Nat → Int32) : lk (T_L L xs) 192 = o_const 32 194 := (sk_1 L xs 192 (by omega)).trans rfl
theorem kL_194 (L : Nat) (xs : Nat → Int32) : lk (T_L L xs) 194 = o_lsh (fun x y => x <<< (y.toInt64 &&& 63)) 195 := (sk_1 L xs 194 (by omega)).trans rfl
theorem kL_195 (L : Nat) (xs : Nat → Int32) : lk (T_L L xs) 195 = o_aload 0 196 := (sk_1 L xs 195 (by omega)).trans rfl
theorem kL_196 (L : Nat) (xs : Nat → Int32) : lk (T_L L xs) 196 = o_iload 3 197 := (sk_1 L xs 196 (by omega)).trans rfl
theorem kL_197 (L : Nat) (xs : Nat → Int32) : lk (T_L L xs) 197 = o_const 2 198 := (sk_1 L xs 197 (by omega)).trans rfl
theorem kL_198 (L : Nat) (xs : Nat → Int32) : lk (T_L L xs) 198 = o_bin (fun x y => x + y) 199 := (sk_2 L xs 198 (by omega)).trans rfl
theorem kL_199 (L : Nat) (xs : Nat → Int32) : lk (T_L L xs) 199 = o_xld L xs 200 := (sk_2 L xs 199 (by omega)).trans rfl
theorem kL_200 (L : Nat) (xs : Nat → Int32) : lk (T_L L xs) 200 = o_i2l 201 := (sk_2 L xs 200 (by omega)).trans rfl
theorem kL_201 (L : Nat) (xs : Nat → Int32) : lk (T_L L xs) 201 = o_lconst 4294967295 204 := (sk_2 L xs 201 (by omega)).trans rfl
theorem kL_204 (L : Nat) (xs : Nat → Int32) : lk (T_L L xs) 204 = o_lbin (fun x y => x &&& y) 205 := (sk_2 L xs 204 (by omega)).trans rfl
theorem kL_205 (L : Nat) (xs : Nat → Int32) : lk (T_L L xs) 205 = o_lbin (fun x y => x ||| y) 206 := (sk_2 L xs 205 (by omega)).trans rfl
theorem kL_206 (L : Nat) (xs : Nat → Int32) : lk (T_L L xs) 206 = o_aload 0 207 := (sk_2 L xs 206 (by omega)).trans rfl
theorem kL_207 (L : Nat) (xs : Nat → Int32) : lk (T_L L xs) 207 = o_iload 3 208 := (sk_2 L xs 207 (by omega)).trans rfl
theorem kL_208 (L : Nat) (xs : Nat → Int32) : lk (T_L L xs) 208 = o_const 3 209 := (sk_2 L xs 208 (by omega)).trans rfl
theorem kL_209 (L : Nat) (xs : Nat → Int32) : lk (T_L L xs) 209 = o_bin (fun x y => x + y) 210 := (sk_2 L xs 209 (by omega)).trans rfl
theorem kL_210 (L : Nat) (xs : Nat → Int32) : lk (T_L L xs) 210 = o_xld L xs 211 := (sk_2 L xs 210 (by omega)).trans rfl
theorem kL_211 (L : Nat) (xs : Nat → Int32) : lk (T_L L xs) 211 = o_callV 5 S_X5_type 2 214 := (sk_2 L xs 211 (by omega)).trans rfl
theorem kL_214 (L : Nat) (xs : Nat → Int32) : lk (T_L L xs) 214 = o_icmp (fun x y => x = y) 888 217 := (sk_2 L xs 214 (by omega)).trans rfl
theorem kL_217 (L : Nat) (xs : Nat → Int32) : lk (T_L L xs) 217 = o_const 0 218 := (sk_2 L xs 217 (by omega)).trans rfl
theorem kL_218 (L : Nat) (xs : Nat → Int32) : lk (T_L L xs) 218 = o_fin := (sk_2 L xs 218 (by omega)).trans rfl
theorem kL_219 (L : Nat) (xs : Nat → Int32) : lk (T_L L xs) 219 = o_aload 1 220 := (sk_2 L xs 219 (by omega)).trans rfl
theorem kL_220 (L : Nat) (xs : Nat → Int32) : lk (T_L L xs) 220 = o_callV 4 S_X4_clear 0 223 := (sk_2 L xs 220 (by omega)).trans rfl
theorem kL_223 (L : Nat) (xs : Nat → Int32) : lk (T_L L xs) 223 = o_aload 2 224 := (sk_2 L xs 223 (by omega)).trans rfl
theorem kL_224 (L : Nat) (xs : Nat → Int32) : lk (T_L L xs) 224 = o_callV 5 S_X5_clear 0 227 := (sk_2 L xs 224 (by omega)).trans rfl
theorem kL_227 (L : Nat) (xs : Nat → Int32) : lk (T_L L xs) 227 = o_icmp (fun x y => x = y) 888 230 := (sk_2 L xs 227 (by omega)).trans rfl
theorem kL_230 (L : Nat) (xs : Nat → Int32) : lk (T_L L xs) 230 = o_const 0 231 := (sk_2 L xs 230 (by omega)).trans rfl
theorem kL_231 (L : Nat) (xs : Nat → Int32) : lk (T_L L xs) 231 = o_fin := (sk_2 L xs 231 (by omega)).trans rfl
theorem kL_232 (L : Nat) (xs : Nat → Int32) : lk (T_L L xs) 232 = o_aload 1 233 := (sk_2 L xs 232 (by omega)).trans rfl
theorem kL_233 (L : Nat) (xs : Nat → Int32) : lk (T_L L xs) 233 = o_callV 4 S_X4_house 0 236 := (sk_2 L xs 233 (by omega)).trans rfl
theorem kL_236 (L : Nat) (xs : Nat → Int32) : lk (T_L L xs) 236 = o_aload 2 237 := (sk_3 L xs 236 (by omega)).trans rfl
theorem kL_237 (L : Nat) (xs : Nat → Int32) : lk (T_L L xs) 237 = o_callV 5 S_X5_house 0 240 := (sk_3 L xs 237 (by omega)).trans rfl
theorem kL_240 (L : Nat) (xs : Nat → Int32) : lk (T_L L xs) 240 = o_icmp (fun x y => x = y) 888 243 := (sk_3 L xs 240 (by omega)).trans rfl
theorem kL_243 (L : Nat) (xs : Nat → Int32) : lk (T_L L xs) 243 = o_const 0 244 := (sk_3 L xs 243 (by omega)).trans rfl
theorem kL_244 (L : Nat) (xs : Nat → Int32) : lk (T_L L xs) 244 = o_fin := (sk_3 L xs 244 (by omega)).trans rfl
theorem kL_245 (L : Nat) (xs : Nat → Int32) : lk (T_L L xs) 245 = o_aload 1 246 := (sk_3 L xs 245 (by omega)).trans rfl
theorem kL_246 (L : Nat) (xs : Nat → Int32) : lk (T_L L xs) 246 = o_aload 0 247 := (sk_3 L xs 246 (by omega)).trans rfl
theorem kL_247 (L : Nat) (xs : Nat → Int32) : lk (T_L L xs) 247 = o_iload 3 248 := (sk_3 L xs 247 (by omega)).trans rfl
theorem kL_248 (L : Nat) (xs : Nat → Int32) : lk (T_L L xs) 248 = o_const 1 249 := (sk_3 L xs 248 (by omega)).trans rfl
theorem kL_249 (L : Nat) (xs : Nat → Int32) : lk (T_L L xs) 249 = o_bin (fun x y => x + y) 250 := (sk_3 L xs 249 (by omega)).trans rfl
theorem kL_250 (L : Nat) (xs : Nat → Int32) : lk (T_L L xs) 250 = o_xld L xs 251 := (sk_3 L xs 250 (by omega)).trans rfl
theorem kL_251 (L : Nat) (xs : Nat → Int32) : lk (T_L L xs) 251 = o_aload 0 252 := (sk_3 L xs 251 (by omega)).trans rfl
theorem kL_252 (L : Nat) (xs : Nat → Int32) : lk (T_L L xs) 252 = o_iload 3 253 := (sk_3 L xs 252 (by omega)).trans rfl
theorem kL_253 (L : Nat) (xs : Nat → Int32) : lk (T_L L xs) 253 = o_const 2 254 := (sk_3 L xs 253 (by omega)).trans rfl
theorem kL_254 (L : Nat) (xs : Nat → Int32) : lk (T_L L xs) 254 = o_bin (fun x y => x + y) 255 := (sk_3 L xs 254 (by omega)).trans rfl
theorem kL_255 (L : Nat) (xs : Nat → Int32) : lk (T_L L xs) 255 = o_xld L xs 256 := (sk_3 L xs 255 (by omega)).trans rfl
theorem kL_256 (L : Nat) (xs : Nat → Int32) : lk (T_L L xs) 256 = o_callV 4 S_X4_key 2 259 := (sk_3 L xs 256 (by omega)).trans rfl
theorem kL_259 (L : Nat) (xs : Nat → Int32) : lk (T_L L xs) 259 = o_aload 2 260 := (sk_3 L xs 259 (by omega)).trans rfl
theorem kL_260 (L : Nat) (xs : Nat → Int32) : lk (T_L L xs) 260 = o_aload 0 261 := (sk_3 L xs 260 (by omega)).trans rfl
theorem kL_261 (L : Nat) (xs : Nat → Int32) : lk (T_L L xs) 261 = o_iload 3 262 := (sk_3 L xs 261 (by omega)).trans rfl
theorem kL_262 (L : Nat) (xs : Nat → Int32) : lk (T_L L xs) 262 = o_const 1 263 := (sk_3 L xs 262 (by omega)).trans rfl
theorem kL_263 (L : Nat) (xs : Nat → Int32) : lk (T_L L xs) 263 = o_bin (fun x y => x + y) 264 := (sk_3 L xs 263 (by omega)).trans rfl
theorem kL_264 (L : Nat) (xs : Nat → Int32) : lk (T_L L xs) 264 = o_xld L xs 265 := (sk_3 L xs 264 (by omega)).trans rfl
theorem kL_265 (L : Nat) (xs : Nat → Int32) : lk (T_L L xs) 265 = o_aload 0 266 := (sk_3 L xs 265 (by omega)).trans rfl
theorem kL_266 (L : Nat) (xs : Nat → Int32) : lk (T_L L xs) 266 = o_iload 3 267 := (sk_4 L xs 266 (by omega)).trans rfl
theorem kL_267 (L : Nat) (xs : Nat → Int32) : lk (T_L L xs) 267 = o_const 2 268 := (sk_4 L xs 267 (by omega)).trans rfl
theorem kL_268 (L : Nat) (xs : Nat → Int32) : lk (T_L L xs) 268 = o_bin (fun x y => x + y) 269 := (sk_4 L xs 268 (by omega)).trans rfl
theorem kL_269 (L : Nat) (xs : Nat → Int32) : lk (T_L L xs) 269 = o_xld L xs 270 := (sk_4 L xs 269 (by omega)).trans rfl
theorem kL_270 (L : Nat) (xs : Nat → Int32) : lk (T_L L xs) 270 = o_callV 5 S_X5_key 2 273 := (sk_4 L xs 270 (by omega)).trans rfl
theorem kL_273 (L : Nat) (xs : Nat → Int32) : lk (T_L L xs) 273 = o_icmp (fun x y => x = y) 888 276 := (sk_4 L xs 273 (by omega)).trans rfl
theorem kL_276 (L : Nat) (xs : Nat → Int32) : lk (T_L L xs) 276 = o_const 0 277 := (sk_4 L xs 276 (by omega)).trans rfl
theorem kL_277 (L : Nat) (xs : Nat → Int32) : lk (T_L L xs) 277 = o_fin := (sk_4 L xs 277 (by omega)).trans rfl
theorem kL_278 (L : Nat) (xs : Nat → Int32) : lk (T_L L xs) 278 = o_aload 1 279 := (sk_4 L xs 278 (by omega)).trans rfl
theorem kL_279 (L : Nat) (xs : Nat → Int32) : lk (T_L L xs) 279 = o_aload 0 280 := (sk_4 L xs 279 (by omega)).trans rfl
theorem kL_280 (L : Nat) (xs : Nat → Int32) : lk (T_L L xs) 280 = o_iload 3 281 := (sk_4 L xs 280 (by omega)).trans rfl
theorem kL_281 (L : Nat) (xs : Nat → Int32) : lk (T_L L xs) 281 = o_const 1 282 := (sk_4 L xs 281 (by omega)).trans rfl
theorem kL_282 (L : Nat) (xs : Nat → Int32) : lk (T_L L xs) 282 = o_bin (fun x y => x + y) 283 := (sk_4 L xs 282 (by omega)).trans rfl
theorem kL_283 (L : Nat) (xs : Nat → Int32) : lk (T_L L xs) 283 = o_xld L xs 284 := (sk_4 L xs 283 (by omega)).trans rfl
theorem kL_284 (L : Nat) (xs : Nat → Int32) : lk (T_L L xs) 284 = o_callV 4 S_X4_lock 1 287 := (sk_4 L xs 284 (by omega)).trans rfl
theorem kL_287 (L : Nat) (xs : Nat → Int32) : lk (T_L L xs) 287 = o_aload 2 288 := (sk_4 L xs 287 (by omega)).trans rfl
theorem kL_288 (L : Nat) (xs : Nat → Int32) : lk (T_L L xs) 288 = o_aload 0 289 := (sk_4 L xs 288 (by omega)).trans rfl
theorem kL_289 (L : Nat) (xs : Nat → Int32) : lk (T_L L xs) 289 = o_iload 3 290 := (sk_4 L xs 289 (by omega)).trans rfl
theorem kL_290 (L : Nat) (xs : Nat → Int32) : lk (T_L L xs) 290 = o_const 1 291 := (sk_4 L xs 290 (by omega)).trans rfl
theorem kL_291 (L : Nat) (xs : Nat → Int32) : lk (T_L L xs) 291 = o_bin (fun x y => x + y) 292 := (sk_4 L xs 291 (by omega)).trans rfl
theorem kL_292 (L : Nat) (xs : Nat → Int32) : lk (T_L L xs) 292 = o_xld L xs 293 := (sk_4 L xs 292 (by omega)).trans rfl
theorem kL_293 (L : Nat) (xs : Nat → Int32) : lk (T_L L xs) 293 = o_callV 5 S_X5_lock 1 296 := (sk_4 L xs 293 (by omega)).trans rfl
theorem kL_296 (L : Nat) (xs : Nat → Int32) : lk (T_L L xs) 296 = o_icmp (fun x y => x = y) 888 299 := (sk_4 L xs 296 (by omega)).trans rfl
theorem kL_299 (L : Nat) (xs : Nat → Int32) : lk (T_L L xs) 299 = o_const 0 300 := (sk_4 L xs 299 (by omega)).trans rfl
theorem kL_300 (L : Nat) (xs : Nat → Int32) : lk (T_L L xs) 300 = o_fin := (sk_5 L xs 300 (by omega)).trans rfl
theorem kL_301 (L : Nat) (xs : Nat → Int32) : lk (T_L L xs) 301 = o_aload 1 302 := (sk_5 L xs 301 (by omega)).trans rfl
theorem kL_302 (L : Nat) (xs : Nat → Int32) : lk (T_L L xs) 302 = o_aload 0 303 := (sk_5 L xs 302 (by omega)).trans rfl
theorem kL_303 (L : Nat) (xs : Nat → Int32) : lk (T_L L xs) 303 = o_iload 3 304 := (sk_5 L xs 303 (by omega)).trans rfl
theorem kL_304 (L : Nat) (xs : Nat → Int32) : lk (T_L L xs) 304 = o_const 1 305 := (sk_5 L xs 304 (by omega)).trans rfl
theorem kL_305 (L : Nat) (xs : Nat → Int32) : lk (T_L L xs) 305 = o_bin (fun x y => x + y) 306 := (sk_5 L xs 305 (by omega)).trans rfl
theorem kL_306 (L : Nat) (xs : Nat → Int32) : lk (T_L L xs) 306 = o_xld L xs 307 := (sk_5 L xs 306 (by omega)).trans rfl
theorem kL_307 (L : Nat) (xs : Nat → Int32) : lk (T_L L xs) 307 = o_callV 4 S_X4_laid 1 310 := (sk_5 L xs 307 (by omega)).trans rfl
theorem kL_310 (L : Nat) (xs : Nat → Int32) : lk (T_L L xs) 310 = o_aload 2 311 := (sk_5 L xs 310 (by omega)).trans rfl
theorem kL_311 (L : Nat) (xs : Nat → Int32) : lk (T_L L xs) 311 = o_aload 0 312 := (sk_5 L xs 311 (by omega)).trans rfl
theorem kL_312 (L : Nat) (xs : Nat → Int32) : lk (T_L L xs) 312 = o_iload 3 313 := (sk_5 L xs 312 (by omega)).trans rfl
theorem kL_313 (L : Nat) (xs : Nat → Int32) : lk (T_L L xs) 313 = o_const 1 314 := (sk_5 L xs 313 (by omega)).trans rfl
theorem kL_314 (L : Nat) (xs : Nat → Int32) : lk (T_L L xs) 314 = o_bin (fun x y => x + y) 315 := (sk_5 L xs 314 (by omega)).trans rfl
theorem kL_315 (L : Nat) (xs : Nat → Int32) : lk (T_L L xs) 315 = o_xld L xs 316 := (sk_5 L xs 315 (by omega)).trans rfl
theorem kL_316 (L : Nat) (xs : Nat → Int32) : lk (T_L L xs) 316 = o_callV 5 S_X5_laid 1 319 := (sk_5 L xs 316 (by omega)).trans rfl
theorem kL_319 (L : Nat) (xs : Nat → Int32) : lk (T_L L xs) 319 = o_icmp (fun x y => x = y) 888 322 := (sk_5 L xs 319 (by omega)).trans rfl
theorem kL_322 (L : Nat) (xs : Nat → Int32) : lk (T_L L xs) 322 = o_const 0 323 := (sk_5 L xs 322 (by omega)).trans rfl
theorem kL_323 (L : Nat) (xs : Nat → Int32) : lk (T_L L xs) 323 = o_fin := (sk_5 L xs 323 (by omega)).trans rfl
theorem kL_324 (L : Nat) (xs : Nat → Int32) : lk (T_L L xs) 324 = o_aload 1 325 := (sk_5 L xs 324 (by omega)).trans rfl
theorem kL_325 (L : Nat) (xs : Nat → Int32) : lk (T_L L xs) 325 = o_aload 0 326 := (sk_5 L xs 325 (by omega)).trans rfl
theorem kL_326 (L : Nat) (xs : Nat → Int32) : lk (T_L L xs) 326 = o_iload 3 327 := (sk_5 L xs 326 (by omega)).trans rfl
theorem kL_327 (L : Nat) (xs : Nat → Int32) : lk (T_L L xs) 327 = o_const 1 328 := (sk_5 L xs 327 (by omega)).trans rfl
theorem kL_328 (L : Nat) (xs : Nat → Int32) : lk (T_L L xs) 328 = o_bin (fun x y => x + y) 329 := (sk_5 L xs 328 (by omega)).trans rfl
theorem kL_329 (L : Nat) (xs : Nat → Int32) : lk (T_L L xs) 329 = o_xld L xs 330 := (sk_5 L xs 329 (by omega)).trans rfl
theorem kL_330 (L : Nat) (xs : Nat → Int32) : lk (T_L L xs) 330 = o_callV 4 S_X4_cut 1 333 := (sk_6 L xs 330 (by omega)).trans rfl
theorem kL_333 (L : Nat) (xs : Nat → Int32) : lk (T_L L xs) 333 = o_aload 2 334 := (sk_6 L xs 333 (by omega)).trans rfl
theorem kL_334 (L : Nat) (xs : Nat → Int32) : lk (T_L L xs) 334 = o_aload 0 335 := (sk_6 L xs 334 (by omega)).trans rfl
theorem kL_335 (L : Nat) (xs : Nat → Int32) : lk (T_L L xs) 335 = o_iload 3 336 := (sk_6 L xs 335 (by omega)).trans rfl
theorem kL_336 (L : Nat) (xs : Nat → Int32) : lk (T_L L xs) 336 = o_const 1 337 := (sk_6 L xs 336 (by omega)).trans rfl
theorem kL_337 (L : Nat) (xs : Nat → Int32) : lk (T_L L xs) 337 = o_bin (fun x y => x + y) 338 := (sk_6 L xs 337 (by omega)).trans rfl
theorem kL_338 (L : Nat) (xs : Nat → Int32) : lk (T_L L xs) 338 = o_xld L xs 339 := (sk_6 L xs 338 (by omega)).trans rfl
theorem kL_339 (L : Nat) (xs : Nat → Int32) : lk (T_L L xs) 339 = o_callV 5 S_X5_cut 1 342 := (sk_6 L xs 339 (by omega)).trans rfl
theorem kL_342 (L : Nat) (xs : Nat → Int32) : lk (T_L L xs) 342 = o_icmp (fun x y => x = y) 888 345 := (sk_6 L xs 342 (by omega)).trans rfl
theorem kL_345 (L : Nat) (xs : Nat → Int32) : lk (T_L L xs) 345 = o_const 0 346 := (sk_6 L xs 345 (by omega)).trans rfl
theorem kL_346 (L : Nat) (xs : Nat → Int32) : lk (T_L L xs) 346 = o_fin := (sk_6 L xs 346 (by omega)).trans rfl
theorem kL_347 (L : Nat) (xs : Nat → Int32) : lk (T_L L xs) 347 = o_aload 1 348 := (sk_6 L xs 347 (by omega)).trans rfl
theorem kL_348 (L : Nat) (xs : Nat → Int32) : lk (T_L L xs) 348 = o_aload 0 349 := (sk_6 L xs 348 (by omega)).trans rfl
theorem kL_349 (L : Nat) (xs : Nat → Int32) : lk (T_L L xs) 349 = o_iload 3 350 := (sk_6 L xs 349 (by omega)).trans rfl
theorem kL_350 (L : Nat) (xs : Nat → Int32) : lk (T_L L xs) 350 = o_const 1 351 := (sk_6 L xs 350 (by omega)).trans rfl
theorem kL_351 (L : Nat) (xs : Nat → Int32) : lk (T_L L xs) 351 = o_bin (fun x y => x + y) 352 := (sk_6 L xs 351 (by omega)).trans rfl
theorem kL_352 (L : Nat) (xs : Nat → Int32) : lk (T_L L xs) 352 = o_xld L xs 353 := (sk_6 L xs 352 (by omega)).trans rfl
theorem kL_353 (L : Nat) (xs : Nat → Int32) : lk (T_L L xs) 353 = o_aload 0 354 := (sk_6 L xs 353 (by omega)).trans rfl
theorem kL_354 (L : Nat) (xs : Nat → Int32) : lk (T_L L xs) 354 = o_iload 3 355 := (sk_6 L xs 354 (by omega)).trans rfl
theorem kL_355 (L : Nat) (xs : Nat → Int32) : lk (T_L L xs) 355 = o_const 2 356 := (sk_6 L xs 355 (by omega)).trans rfl
theorem kL_356 (L : Nat) (xs : Nat → Int32) : lk (T_L L xs) 356 = o_bin (fun x y => x + y) 357 := (sk_6 L xs 356 (by omega)).trans rfl
theorem kL_357 (L : Nat) (xs : Nat → Int32) : lk (T_L L xs) 357 = o_xld L xs 358 := (sk_6 L xs 357 (by omega)).trans rfl
theorem kL_358 (L : Nat) (xs : Nat → Int32) : lk (T_L L xs) 358 = o_callV 4 S_X4_give 2 361 := (sk_6 L xs 358 (by omega)).trans rfl
theorem kL_361 (L : Nat) (xs : Nat → Int32) : lk (T_L L xs) 361 = o_aload 2 362 := (sk_6 L xs 361 (by omega)).trans rfl
theorem kL_362 (L : Nat) (xs : Nat → Int32) : lk (T_L L xs) 362 = o_aload 0 363 := (sk_7 L xs 362 (by omega)).trans rfl
theorem kL_363 (L : Nat) (xs : Nat → Int32) : lk (T_L L xs) 363 = o_iload 3 364 := (sk_7 L xs 363 (by omega)).trans rfl
theorem kL_364 (L : Nat) (xs : Nat → Int32) : lk (T_L L xs) 364 = o_const 1 365 := (sk_7 L xs 364 (by omega)).trans rfl
theorem kL_365 (L : Nat) (xs : Nat → Int32) : lk (T_L L xs) 365 = o_bin (fun x y => x + y) 366 := (sk_7 L xs 365 (by omega)).trans rfl
theorem kL_366 (L : Nat) (xs : Nat → Int32) : lk (T_L L xs) 366 = o_xld L xs 367 := (sk_7 L xs 366 (by omega)).trans rfl
theorem kL_367 (L : Nat) (xs : Nat → Int32) : lk (T_L L xs) 367 = o_aload 0 368 := (sk_7 L xs 367 (by omega)).trans rfl
theorem kL_368 (L : Nat) (xs : Nat → Int32) : lk (T_L L xs) 368 = o_iload 3 369 := (sk_7 L xs 368 (by omega)).trans rfl
theorem kL_369 (L : Nat) (xs : Nat → Int32) : lk (T_L L xs) 369 = o_const 2 370 := (sk_7 L xs 369 (by omega)).trans rfl
theorem kL_370 (L : Nat) (xs : Nat → Int32) : lk (T_L L xs) 370 = o_bin (fun x y => x + y) 371 := (sk_7 L xs 370 (by omega)).trans rfl
theorem kL_371 (L : Nat) (xs : Nat → Int32) : lk (T_L L xs) 371 = o_xld L xs 372 := (sk_7 L xs 371 (by omega)).trans rfl
theorem kL_372 (L : Nat) (xs : Nat → Int32) : lk (T_L L xs) 372 = o_callV 5 S_X5_give 2 375 := (sk_7 L xs 372 (by omega)).trans rfl
theorem kL_375 (L : Nat) (xs : Nat → Int32) : lk (T_L L xs) 375 = o_icmp (fun x y => x = y) 888 378 := (sk_7 L xs 375 (by omega)).trans rfl
theorem kL_378 (L : Nat) (xs : Nat → Int32) : lk (T_L L xs) 378 = o_const 0 379 := (sk_7 L xs 378 (by omega)).trans rfl
theorem kL_379 (L : Nat) (xs : Nat → Int32) : lk (T_L L xs) 379 = o_fin := (sk_7 L xs 379 (by omega)).trans rfl
theorem kL_380 (L : Nat) (xs : Nat → Int32) : lk (T_L L xs) 380 = o_aload 1 381 := (sk_7 L xs 380 (by omega)).trans rfl
theorem kL_381 (L : Nat) (xs : Nat → Int32) : lk (T_L L xs) 381 = o_aload 0 382 := (sk_7 L xs 381 (by omega)).trans rfl
theorem kL_382 (L : Nat) (xs : Nat → Int32) : lk (T_L L xs) 382 = o_iload 3 383 := (sk_7 L xs 382 (by omega)).trans rfl
theorem kL_383 (L : Nat) (xs : Nat → Int32) : lk (T_L L xs) 383 = o_const 1 384 := (sk_7 L xs 383 (by omega)).trans rfl
theorem kL_384 (L : Nat) (xs : Nat → Int32) : lk (T_L L xs) 384 = o_bin (fun x y => x + y) 385 := (sk_7 L xs 384 (by omega)).trans rfl
theorem kL_385 (L : Nat) (xs : Nat → Int32) : lk (T_L L xs) 385 = o_xld L xs 386 := (sk_7 L xs 385 (by omega)).trans rfl
theorem kL_386 (L : Nat) (xs : Nat → Int32) : lk (T_L L xs) 386 = o_callV 4 S_X4_lose 1 389 := (sk_7 L xs 386 (by omega)).trans rfl
theorem kL_389 (L : Nat) (xs : Nat → Int32) : lk (T_L L xs) 389 = o_aload 2 390 := (sk_7 L xs 389 (by omega)).trans rfl
theorem kL_390 (L : Nat) (xs : Nat → Int32) : lk (T_L L xs) 390 = o_aload 0 391 := (sk_7 L xs 390 (by omega)).trans rfl
theorem kL_391 (L : Nat) (xs : Nat → Int32) : lk (T_L L xs) 391 = o_iload 3 392 := (sk_7 L xs 391 (by omega)).trans rfl
theorem kL_392 (L : Nat) (xs : Nat → Int32) : lk (T_L L xs) 392 = o_const 1 393 := (sk_8 L xs 392 (by omega)).trans rfl
theorem kL_393 (L : Nat) (xs : Nat → Int32) : lk (T_L L xs) 393 = o_bin (fun x y => x + y) 394 := (sk_8 L xs 393 (by omega)).trans rfl
theorem kL_394 (L : Nat) (xs : Nat → Int32) : lk (T_L L xs) 394 = o_xld L xs 395 := (sk_8 L xs 394 (by omega)).trans rfl
theorem kL_395 (L : Nat) (xs : Nat → Int32) : lk (T_L L xs) 395 = o_callV 5 S_X5_lose 1 398 := (sk_8 L xs 395 (by omega)).trans rfl
theorem kL_398 (L : Nat) (xs : Nat → Int32) : lk (T_L L xs) 398 = o_icmp (fun x y => x = y) 888 401 := (sk_8 L xs 398 (by omega)).trans rfl
theorem kL_401 (L : Nat) (xs : Nat → Int32) : lk (T_L L xs) 401 = o_const 0 402 := (sk_8 L xs 401 (by omega)).trans rfl
theorem kL_402 (L : Nat) (xs : Nat → Int32) : lk (T_L L xs) 402 = o_fin := (sk_8 L xs 402 (by omega)).trans rfl
theorem kL_403 (L : Nat) (xs : Nat → Int32) : lk (T_L L xs) 403 = o_aload 1 404 := (sk_8 L xs 403 (by omega)).trans rfl
theorem kL_404 (L : Nat) (xs : Nat → Int32) : lk (T_L L xs) 404 = o_aload 0 405 := (sk_8 L xs 404 (by omega)).trans rfl
theorem kL_405 (L : Nat) (xs : Nat → Int32) : lk (T_L L xs) 405 = o_iload 3 406 := (sk_8 L xs 405 (by omega)).trans rfl
theorem kL_406 (L : Nat) (xs : Nat → Int32) : lk (T_L L xs) 406 = o_const 1 407 := (sk_8 L xs 406 (by omega)).trans rfl
theorem kL_407 (L : Nat) (xs : Nat → Int32) : lk (T_L L xs) 407 = o_bin (fun x y => x + y) 408 := (sk_8 L xs 407 (by omega)).trans rfl
theorem kL_408 (L : Nat) (xs : Nat → Int32) : lk (T_L L xs) 408 = o_xld L xs 409 := (sk_8 L xs 408 (by omega)).trans rfl
theorem kL_409 (L : Nat) (xs : Nat → Int32) : lk (T_L L xs) 409 = o_aload 0 410 := (sk_8 L xs 409 (by omega)).trans rfl
theorem kL_410 (L : Nat) (xs : Nat → Int32) : lk (T_L L xs) 410 = o_iload 3 411 := (sk_8 L xs 410 (by omega)).trans rfl
theorem kL_411 (L : Nat) (xs : Nat → Int32) : lk (T_L L xs) 411 = o_const 2 412 := (sk_8 L xs 411 (by omega)).trans rfl
theorem kL_412 (L : Nat) (xs : Nat → Int32) : lk (T_L L xs) 412 = o_bin (fun x y => x + y) 413 := (sk_8 L xs 412 (by omega)).trans rfl
theorem kL_413 (L : Nat) (xs : Nat → Int32) : lk (T_L L xs) 413 = o_xld L xs 414 := (sk_8 L xs 413 (by omega)).trans rfl
theorem kL_414 (L : Nat) (xs : Nat → Int32) : lk (T_L L xs) 414 = o_callV 4 S_X4_forge 2 417 := (sk_8 L xs 414 (by omega)).trans rfl
theorem kL_417 (L : Nat) (xs : Nat → Int32) : lk (T_L L xs) 417 = o_aload 2 418 := (sk_8 L xs 417 (by omega)).trans rfl
theorem kL_418 (L : Nat) (xs : Nat → Int32) : lk (T_L L xs) 418 = o_aload 0 419 := (sk_8 L xs 418 (by omega)).trans rfl
theorem kL_419 (L : Nat) (xs : Nat → Int32) : lk (T_L L xs) 419 = o_iload 3 420 := (sk_8 L xs 419 (by omega)).trans rfl
theorem kL_420 (L : Nat) (xs : Nat → Int32) : lk (T_L L xs) 420 = o_const 1 421 := (sk_8 L xs 420 (by omega)).trans rfl
theorem kL_421 (L : Nat) (xs : Nat → Int32) : lk (T_L L xs) 421 = o_bin (fun x y => x + y) 422 := (sk_8 L xs 421 (by omega)).trans rfl
theorem kL_422 (L : Nat) (xs : Nat → Int32) : lk (T_L L xs) 422 = o_xld L xs 423 := (sk_9 L xs 422 (by omega)).trans rfl
theorem kL_423 (L : Nat) (xs : Nat → Int32) : lk (T_L L xs) 423 = o_aload 0 424 := (sk_9 L xs 423 (by omega)).trans rfl
theorem kL_424 (L : Nat) (xs : Nat → Int32) : lk (T_L L xs) 424 = o_iload 3 425 := (sk_9 L xs 424 (by omega)).trans rfl
theorem kL_425 (L : Nat) (xs : Nat → Int32) : lk (T_L L xs) 425 = o_const 2 426 := (sk_9 L xs 425 (by omega)).trans rfl
theorem kL_426 (L : Nat) (xs : Nat → Int32) : lk (T_L L xs) 426 = o_bin (fun x y => x + y) 427 := (sk_9 L xs 426 (by omega)).trans rfl
theorem kL_427 (L : Nat) (xs : Nat → Int32) : lk (T_L L xs) 427 = o_xld L xs 428 := (sk_9 L xs 427 (by omega)).trans rfl
theorem kL_428 (L : Nat) (xs : Nat → Int32) : lk (T_L L xs) 428 = o_callV 5 S_X5_forge 2 431 := (sk_9 L xs 428 (by omega)).trans rfl
theorem kL_431 (L : Nat) (xs : Nat → Int32) : lk (T_L L xs) 431 = o_icmp (fun x y => x = y) 888 434 := (sk_9 L xs 431 (by omega)).trans rfl
theorem kL_434 (L : Nat) (xs : Nat → Int32) : lk (T_L L xs) 434 = o_const 0 435 := (sk_9 L xs 434 (by omega)).trans rfl
theorem kL_435 (L : Nat) (xs : Nat → Int32) : lk (T_L L xs) 435 = o_fin := (sk_9 L xs 435 (by omega)).trans rfl
theorem kL_436 (L : Nat) (xs : Nat → Int32) : lk (T_L L xs) 436 = o_aload 1 437 := (sk_9 L xs 436 (by omega)).trans rfl
theorem kL_437 (L : Nat) (xs : Nat → Int32) : lk (T_L L xs) 437 = o_callV 4 S_X4_undo 0 440 := (sk_9 L xs 437 (by omega)).trans rfl
theorem kL_440 (L : Nat) (xs : Nat → Int32) : lk (T_L L xs) 440 = o_aload 2 441 := (sk_9 L xs 440 (by omega)).trans rfl
theorem kL_441 (L : Nat) (xs : Nat → Int32) : lk (T_L L xs) 441 = o_callV 5 S_X5_undo 0 444 := (sk_9 L xs 441 (by omega)).trans rfl
theorem kL_444 (L : Nat) (xs : Nat → Int32) : lk (T_L L xs) 444 = o_icmp (fun x y => x = y) 888 447 := (sk_9 L xs 444 (by omega)).trans rfl
theorem kL_447 (L : Nat) (xs : Nat → Int32) : lk (T_L L xs) 447 = o_const 0 448 := (sk_9 L xs 447 (by omega)).trans rfl
theorem kL_448 (L : Nat) (xs : Nat → Int32) : lk (T_L L xs) 448 = o_fin := (sk_9 L xs 448 (by omega)).trans rfl
theorem kL_449 (L : Nat) (xs : Nat → Int32) : lk (T_L L xs) 449 = o_aload 1 450 := (sk_9 L xs 449 (by omega)).trans rfl
theorem kL_450 (L : Nat) (xs : Nat → Int32) : lk (T_L L xs) 450 = o_callV 4 S_X4_alone 0 453 := (sk_9 L xs 450 (by omega)).trans rfl
theorem kL_453 (L : Nat) (xs : Nat → Int32) : lk (T_L L xs) 453 = o_aload 2 454 := (sk_9 L xs 453 (by omega)).trans rfl
theorem kL_454 (L : Nat) (xs : Nat → Int32) : lk (T_L L xs) 454 = o_callV 5 S_X5_alone 0 457 := (sk_9 L xs 454 (by omega)).trans rfl
theorem kL_457 (L : Nat) (xs : Nat → Int32) : lk (T_L L xs) 457 = o_icmp (fun x y => x = y) 888 460 := (sk_9 L xs 457 (by omega)).trans rfl
theorem kL_460 (L : Nat) (xs : Nat → Int32) : lk (T_L L xs) 460 = o_const 0 461 := (sk_9 L xs 460 (by omega)).trans rfl
theorem kL_461 (L : Nat) (xs : Nat → Int32) : lk (T_L L xs) 461 = o_fin := (sk_9 L xs 461 (by omega)).trans rfl
theorem kL_462 (L : Nat) (xs : Nat → Int32) : lk (T_L L xs) 462 = o_aload 1 463 := (sk_10 L xs 462 (by omega)).trans rfl
theorem kL_463 (L : Nat) (xs : Nat → Int32) : lk (T_L L xs) 463 = o_aload 0 464 := (sk_10 L xs 463 (by omega)).trans rfl
theorem kL_464 (L : Nat) (xs : Nat → Int32) : lk (T_L L xs) 464 = o_iload 3 465 := (sk_10 L xs 464 (by omega)).trans rfl
theorem kL_465 (L : Nat) (xs : Nat → Int32) : lk (T_L L xs) 465 = o_const 1 466 := (sk_10 L xs 465 (by omega)).trans rfl
theorem kL_466 (L : Nat) (xs : Nat → Int32) : lk (T_L L xs) 466 = o_bin (fun x y => x + y) 467 := (sk_10 L xs 466 (by omega)).trans rfl
theorem kL_467 (L : Nat) (xs : Nat → Int32) : lk (T_L L xs) 467 = o_xld L xs 468 := (sk_10 L xs 467 (by omega)).trans rfl
theorem kL_468 (L : Nat) (xs : Nat → Int32) : lk (T_L L xs) 468 = o_aload 0 469 := (sk_10 L xs 468 (by omega)).trans rfl
theorem kL_469 (L : Nat) (xs : Nat → Int32) : lk (T_L L xs) 469 = o_iload 3 470 := (sk_10 L xs 469 (by omega)).trans rfl
theorem kL_470 (L : Nat) (xs : Nat → Int32) : lk (T_L L xs) 470 = o_const 2 471 := (sk_10 L xs 470 (by omega)).trans rfl
theorem kL_471 (L : Nat) (xs : Nat → Int32) : lk (T_L L xs) 471 = o_bin (fun x y => x + y) 472 := (sk_10 L xs 471 (by omega)).trans rfl
theorem kL_472 (L : Nat) (xs : Nat → Int32) : lk (T_L L xs) 472 = o_xld L xs 473 := (sk_10 L xs 472 (by omega)).trans rfl
theorem kL_473 (L : Nat) (xs : Nat → Int32) : lk (T_L L xs) 473 = o_aload 0 474 := (sk_10 L xs 473 (by omega)).trans rfl
theorem kL_474 (L : Nat) (xs : Nat → Int32) : lk (T_L L xs) 474 = o_iload 3 475 := (sk_10 L xs 474 (by omega)).trans rfl
theorem kL_475 (L : Nat) (xs : Nat → Int32) : lk (T_L L xs) 475 = o_const 3 476 := (sk_10 L xs 475 (by omega)).trans rfl
theorem kL_476 (L : Nat) (xs : Nat → Int32) : lk (T_L L xs) 476 = o_bin (fun x y => x + y) 477 := (sk_10 L xs 476 (by omega)).trans rfl
theorem kL_477 (L : Nat) (xs : Nat → Int32) : lk (T_L L xs) 477 = o_xld L xs 478 := (sk_10 L xs 477 (by omega)).trans rfl
theorem kL_478 (L : Nat) (xs : Nat → Int32) : lk (T_L L xs) 478 = o_callV 4 S_X4_fewest 3 481 := (sk_10 L xs 478 (by omega)).trans rfl
theorem kL_481 (L : Nat) (xs : Nat → Int32) : lk (T_L L xs) 481 = o_aload 2 482 := (sk_10 L xs 481 (by omega)).trans rfl
theorem kL_482 (L : Nat) (xs : Nat → Int32) : lk (T_L L xs) 482 = o_aload 0 483 := (sk_10 L xs 482 (by omega)).trans rfl
theorem kL_483 (L : Nat) (xs : Nat → Int32) : lk (T_L L xs) 483 = o_iload 3 484 := (sk_10 L xs 483 (by omega)).trans rfl
theorem kL_484 (L : Nat) (xs : Nat → Int32) : lk (T_L L xs) 484 = o_const 1 485 := (sk_10 L xs 484 (by omega)).trans rfl
theorem kL_485 (L : Nat) (xs : Nat → Int32) : lk (T_L L xs) 485 = o_bin (fun x y => x + y) 486 := (sk_10 L xs 485 (by omega)).trans rfl
theorem kL_486 (L : Nat) (xs : Nat → Int32) : lk (T_L L xs) 486 = o_xld L xs 487 := (sk_10 L xs 486 (by omega)).trans rfl
theorem kL_487 (L : Nat) (xs : Nat → Int32) : lk (T_L L xs) 487 = o_aload 0 488 := (sk_10 L xs 487 (by omega)).trans rfl
theorem kL_488 (L : Nat) (xs : Nat → Int32) : lk (T_L L xs) 488 = o_iload 3 489 := (sk_11 L xs 488 (by omega)).trans rfl
theorem kL_489 (L : Nat) (xs : Nat → Int32) : lk (T_L L xs) 489 = o_const 2 490 := (sk_11 L xs 489 (by omega)).trans rfl
theorem kL_490 (L : Nat) (xs : Nat → Int32) : lk (T_L L xs) 490 = o_bin (fun x y => x + y) 491 := (sk_11 L xs 490 (by omega)).trans rfl
theorem kL_491 (L : Nat) (xs : Nat → Int32) : lk (T_L L xs) 491 = o_xld L xs 492 := (sk_11 L xs 491 (by omega)).trans rfl
theorem kL_492 (L : Nat) (xs : Nat → Int32) : lk (T_L L xs) 492 = o_aload 0 493 := (sk_11 L xs 492 (by omega)).trans rfl
theorem kL_493 (L : Nat) (xs : Nat → Int32) : lk (T_L L xs) 493 = o_iload 3 494 := (sk_11 L xs 493 (by omega)).trans rfl
theorem kL_494 (L : Nat) (xs : Nat → Int32) : lk (T_L L xs) 494 = o_const 3 495 := (sk_11 L xs 494 (by omega)).trans rfl
theorem kL_495 (L : Nat) (xs : Nat → Int32) : lk (T_L L xs) 495 = o_bin (fun x y => x + y) 496 := (sk_11 L xs 495 (by omega)).trans rfl
theorem kL_496 (L : Nat) (xs : Nat → Int32) : lk (T_L L xs) 496 = o_xld L xs 497 := (sk_11 L xs 496 (by omega)).trans rfl
theorem kL_497 (L : Nat) (xs : Nat → Int32) : lk (T_L L xs) 497 = o_callV 5 S_X5_fewest 3 500 := (sk_11 L xs 497 (by omega)).trans rfl
theorem kL_500 (L : Nat) (xs : Nat → Int32) : lk (T_L L xs) 500 = o_icmp (fun x y => x = y) 888 503 := (sk_11 L xs 500 (by omega)).trans rfl
theorem kL_503 (L : Nat) (xs : Nat → Int32) : lk (T_L L xs) 503 = o_const 0 504 := (sk_11 L xs 503 (by omega)).trans rfl
theorem kL_504 (L : Nat) (xs : Nat → Int32) : lk (T_L L xs) 504 = o_fin := (sk_11 L xs 504 (by omega)).trans rfl
theorem kL_505 (L : Nat) (xs : Nat → Int32) : lk (T_L L xs) 505 = o_aload 1 506 := (sk_11 L xs 505 (by omega)).trans rfl
theorem kL_506 (L : Nat) (xs : Nat → Int32) : lk (T_L L xs) 506 = o_aload 0 507 := (sk_11 L xs 506 (by omega)).trans rfl
theorem kL_507 (L : Nat) (xs : Nat → Int32) : lk (T_L L xs) 507 = o_iload 3 508 := (sk_11 L xs 507 (by omega)).trans rfl
theorem kL_508 (L : Nat) (xs : Nat → Int32) : lk (T_L L xs) 508 = o_const 1 509 := (sk_11 L xs 508 (by omega)).trans rfl
theorem kL_509 (L : Nat) (xs : Nat → Int32) : lk (T_L L xs) 509 = o_bin (fun x y => x + y) 510 := (sk_11 L xs 509 (by omega)).trans rfl
theorem kL_510 (L : Nat) (xs : Nat → Int32) : lk (T_L L xs) 510 = o_xld L xs 511 := (sk_11 L xs 510 (by omega)).trans rfl
theorem kL_511 (L : Nat) (xs : Nat → Int32) : lk (T_L L xs) 511 = o_callV 4 S_X4_opens 1 514 := (sk_11 L xs 511 (by omega)).trans rfl
theorem kL_514 (L : Nat) (xs : Nat → Int32) : lk (T_L L xs) 514 = o_aload 2 515 := (sk_11 L xs 514 (by omega)).trans rfl
theorem kL_515 (L : Nat) (xs : Nat → Int32) : lk (T_L L xs) 515 = o_aload 0 516 := (sk_11 L xs 515 (by omega)).trans rfl
theorem kL_516 (L : Nat) (xs : Nat → Int32) : lk (T_L L xs) 516 = o_iload 3 517 := (sk_11 L xs 516 (by omega)).trans rfl
theorem kL_517 (L : Nat) (xs : Nat → Int32) : lk (T_L L xs) 517 = o_const 1 518 := (sk_11 L xs 517 (by omega)).trans rfl
theorem kL_518 (L : Nat) (xs : Nat → Int32) : lk (T_L L xs) 518 = o_bin (fun x y => x + y) 519 := (sk_12 L xs 518 (by omega)).trans rfl
theorem kL_519 (L : Nat) (xs : Nat → Int32) : lk (T_L L xs) 519 = o_xld L xs 520 := (sk_12 L xs 519 (by omega)).trans rfl
theorem kL_520 (L : Nat) (xs : Nat → Int32) : lk (T_L L xs) 520 = o_callV 5 S_X5_opens 1 523 := (sk_12 L xs 520 (by omega)).trans rfl
theorem kL_523 (L : Nat) (xs : Nat → Int32) : lk (T_L L xs) 523 = o_icmp (fun x y => x = y) 888 526 := (sk_12 L xs 523 (by omega)).trans rfl
theorem kL_526 (L : Nat) (xs : Nat → Int32) : lk (T_L L xs) 526 = o_const 0 527 := (sk_12 L xs 526 (by omega)).trans rfl
theorem kL_527 (L : Nat) (xs : Nat → Int32) : lk (T_L L xs) 527 = o_fin := (sk_12 L xs 527 (by omega)).trans rfl
theorem kL_528 (L : Nat) (xs : Nat → Int32) : lk (T_L L xs) 528 = o_aload 1 529 := (sk_12 L xs 528 (by omega)).trans rfl
theorem kL_529 (L : Nat) (xs : Nat → Int32) : lk (T_L L xs) 529 = o_aload 0 530 := (sk_12 L xs 529 (by omega)).trans rfl
theorem kL_530 (L : Nat) (xs : Nat → Int32) : lk (T_L L xs) 530 = o_iload 3 531 := (sk_12 L xs 530 (by omega)).trans rfl
theorem kL_531 (L : Nat) (xs : Nat → Int32) : lk (T_L L xs) 531 = o_const 1 532 := (sk_12 L xs 531 (by omega)).trans rfl
theorem kL_532 (L : Nat) (xs : Nat → Int32) : lk (T_L L xs) 532 = o_bin (fun x y => x + y) 533 := (sk_12 L xs 532 (by omega)).trans rfl
theorem kL_533 (L : Nat) (xs : Nat → Int32) : lk (T_L L xs) 533 = o_xld L xs 534 := (sk_12 L xs 533 (by omega)).trans rfl
theorem kL_534 (L : Nat) (xs : Nat → Int32) : lk (T_L L xs) 534 = o_aload 0 535 := (sk_12 L xs 534 (by omega)).trans rfl
theorem kL_535 (L : Nat) (xs : Nat → Int32) : lk (T_L L xs) 535 = o_iload 3 536 := (sk_12 L xs 535 (by omega)).trans rfl
theorem kL_536 (L : Nat) (xs : Nat → Int32) : lk (T_L L xs) 536 = o_const 2 537 := (sk_12 L xs 536 (by omega)).trans rfl
theorem kL_537 (L : Nat) (xs : Nat → Int32) : lk (T_L L xs) 537 = o_bin (fun x y => x + y) 538 := (sk_12 L xs 537 (by omega)).trans rfl
theorem kL_538 (L : Nat) (xs : Nat → Int32) : lk (T_L L xs) 538 = o_xld L xs 539 := (sk_12 L xs 538 (by omega)).trans rfl
theorem kL_539 (L : Nat) (xs : Nat → Int32) : lk (T_L L xs) 539 = o_callV 4 S_X4_groups 2 542 := (sk_12 L xs 539 (by omega)).trans rfl
theorem kL_542 (L : Nat) (xs : Nat → Int32) : lk (T_L L xs) 542 = o_aload 2 543 := (sk_12 L xs 542 (by omega)).trans rfl
theorem kL_543 (L : Nat) (xs : Nat → Int32) : lk (T_L L xs) 543 = o_aload 0 544 := (sk_12 L xs 543 (by omega)).trans rfl
theorem kL_544 (L : Nat) (xs : Nat → Int32) : lk (T_L L xs) 544 = o_iload 3 545 := (sk_12 L xs 544 (by omega)).trans rfl
theorem kL_545 (L : Nat) (xs : Nat → Int32) : lk (T_L L xs) 545 = o_const 1 546 := (sk_12 L xs 545 (by omega)).trans rfl
theorem kL_546 (L : Nat) (xs : Nat → Int32) : lk (T_L L xs) 546 = o_bin (fun x y => x + y) 547 := (sk_12 L xs 546 (by omega)).trans rfl
theorem kL_547 (L : Nat) (xs : Nat → Int32) : lk (T_L L xs) 547 = o_xld L xs 548 := (sk_12 L xs 547 (by omega)).trans rfl
theorem kL_548 (L : Nat) (xs : Nat → Int32) : lk (T_L L xs) 548 = o_aload 0 549 := (sk_13 L xs 548 (by omega)).trans rfl
theorem kL_549 (L : Nat) (xs : Nat → Int32) : lk (T_L L xs) 549 = o_iload 3 550 := (sk_13 L xs 549 (by omega)).trans rfl
theorem kL_550 (L : Nat) (xs : Nat → Int32) : lk (T_L L xs) 550 = o_const 2 551 := (sk_13 L xs 550 (by omega)).trans rfl
theorem kL_551 (L : Nat) (xs : Nat → Int32) : lk (T_L L xs) 551 = o_bin (fun x y => x + y) 552 := (sk_13 L xs 551 (by omega)).trans rfl
theorem kL_552 (L : Nat) (xs : Nat → Int32) : lk (T_L L xs) 552 = o_xld L xs 553 := (sk_13 L xs 552 (by omega)).trans rfl
theorem kL_553 (L : Nat) (xs : Nat → Int32) : lk (T_L L xs) 553 = o_callV 5 S_X5_groups 2 556 := (sk_13 L xs 553 (by omega)).trans rfl
theorem kL_556 (L : Nat) (xs : Nat → Int32) : lk (T_L L xs) 556 = o_icmp (fun x y => x = y) 888 559 := (sk_13 L xs 556 (by omega)).trans rfl
theorem kL_559 (L : Nat) (xs : Nat → Int32) : lk (T_L L xs) 559 = o_const 0 560 := (sk_13 L xs 559 (by omega)).trans rfl
theorem kL_560 (L : Nat) (xs : Nat → Int32) : lk (T_L L xs) 560 = o_fin := (sk_13 L xs 560 (by omega)).trans rfl
theorem kL_561 (L : Nat) (xs : Nat → Int32) : lk (T_L L xs) 561 = o_aload 1 562 := (sk_13 L xs 561 (by omega)).trans rfl
theorem kL_562 (L : Nat) (xs : Nat → Int32) : lk (T_L L xs) 562 = o_aload 0 563 := (sk_13 L xs 562 (by omega)).trans rfl
theorem kL_563 (L : Nat) (xs : Nat → Int32) : lk (T_L L xs) 563 = o_iload 3 564 := (sk_13 L xs 563 (by omega)).trans rfl
theorem kL_564 (L : Nat) (xs : Nat → Int32) : lk (T_L L xs) 564 = o_const 1 565 := (sk_13 L xs 564 (by omega)).trans rfl
theorem kL_565 (L : Nat) (xs : Nat → Int32) : lk (T_L L xs) 565 = o_bin (fun x y => x + y) 566 := (sk_13 L xs 565 (by omega)).trans rfl
theorem kL_566 (L : Nat) (xs : Nat → Int32) : lk (T_L L xs) 566 = o_xld L xs 567 := (sk_13 L xs 566 (by omega)).trans rfl
theorem kL_567 (L : Nat) (xs : Nat → Int32) : lk (T_L L xs) 567 = o_aload 0 568 := (sk_13 L xs 567 (by omega)).trans rfl
theorem kL_568 (L : Nat) (xs : Nat → Int32) : lk (T_L L xs) 568 = o_iload 3 569 := (sk_13 L xs 568 (by omega)).trans rfl
theorem kL_569 (L : Nat) (xs : Nat → Int32) : lk (T_L L xs) 569 = o_const 2 570 := (sk_13 L xs 569 (by omega)).trans rfl
theorem kL_570 (L : Nat) (xs : Nat → Int32) : lk (T_L L xs) 570 = o_bin (fun x y => x + y) 571 := (sk_13 L xs 570 (by omega)).trans rfl
theorem kL_571 (L : Nat) (xs : Nat → Int32) : lk (T_L L xs) 571 = o_xld L xs 572 := (sk_13 L xs 571 (by omega)).trans rfl
theorem kL_572 (L : Nat) (xs : Nat → Int32) : lk (T_L L xs) 572 = o_aload 0 573 := (sk_13 L xs 572 (by omega)).trans rfl
theorem kL_573 (L : Nat) (xs : Nat → Int32) : lk (T_L L xs) 573 = o_iload 3 574 := (sk_13 L xs 573 (by omega)).trans rfl
theorem kL_574 (L : Nat) (xs : Nat → Int32) : lk (T_L L xs) 574 = o_const 3 575 := (sk_13 L xs 574 (by omega)).trans rfl
theorem kL_575 (L : Nat) (xs : Nat → Int32) : lk (T_L L xs) 575 = o_bin (fun x y => x + y) 576 := (sk_13 L xs 575 (by omega)).trans rfl
theorem kL_576 (L : Nat) (xs : Nat → Int32) : lk (T_L L xs) 576 = o_xld L xs 577 := (sk_14 L xs 576 (by omega)).trans rfl
theorem kL_577 (L : Nat) (xs : Nat → Int32) : lk (T_L L xs) 577 = o_callV 4 S_X4_wish 3 580 := (sk_14 L xs 577 (by omega)).trans rfl
theorem kL_580 (L : Nat) (xs : Nat → Int32) : lk (T_L L xs) 580 = o_aload 2 581 := (sk_14 L xs 580 (by omega)).trans rfl
theorem kL_581 (L : Nat) (xs : Nat → Int32) : lk (T_L L xs) 581 = o_aload 0 582 := (sk_14 L xs 581 (by omega)).trans rfl
theorem kL_582 (L : Nat) (xs : Nat → Int32) : lk (T_L L xs) 582 = o_iload 3 583 := (sk_14 L xs 582 (by omega)).trans rfl
theorem kL_583 (L : Nat) (xs : Nat → Int32) : lk (T_L L xs) 583 = o_const 1 584 := (sk_14 L xs 583 (by omega)).trans rfl
theorem kL_584 (L : Nat) (xs : Nat → Int32) : lk (T_L L xs) 584 = o_bin (fun x y => x + y) 585 := (sk_14 L xs 584 (by omega)).trans rfl
theorem kL_585 (L : Nat) (xs : Nat → Int32) : lk (T_L L xs) 585 = o_xld L xs 586 := (sk_14 L xs 585 (by omega)).trans rfl
theorem kL_586 (L : Nat) (xs : Nat → Int32) : lk (T_L L xs) 586 = o_aload 0 587 := (sk_14 L xs 586 (by omega)).trans rfl
theorem kL_587 (L : Nat) (xs : Nat → Int32) : lk (T_L L xs) 587 = o_iload 3 588 := (sk_14 L xs 587 (by omega)).trans rfl
theorem kL_588 (L : Nat) (xs : Nat → Int32) : lk (T_L L xs) 588 = o_const 2 589 := (sk_14 L xs 588 (by omega)).trans rfl
theorem kL_589 (L : Nat) (xs : Nat → Int32) : lk (T_L L xs) 589 = o_bin (fun x y => x + y) 590 := (sk_14 L xs 589 (by omega)).trans rfl
theorem kL_590 (L : Nat) (xs : Nat → Int32) : lk (T_L L xs) 590 = o_xld L xs 591 := (sk_14 L xs 590 (by omega)).trans rfl
theorem kL_591 (L : Nat) (xs : Nat → Int32) : lk (T_L L xs) 591 = o_aload 0 592 := (sk_14 L xs 591 (by omega)).trans rfl
theorem kL_592 (L : Nat) (xs : Nat → Int32) : lk (T_L L xs) 592 = o_iload 3 593 := (sk_14 L xs 592 (by omega)).trans rfl
theorem kL_593 (L : Nat) (xs : Nat → Int32) : lk (T_L L xs) 593 = o_const 3 594 := (sk_14 L xs 593 (by omega)).trans rfl
theorem kL_594 (L : Nat) (xs : Nat → Int32) : lk (T_L L xs) 594 = o_bin (fun x y => x + y) 595 := (sk_14 L xs 594 (by omega)).trans rfl
theorem kL_595 (L : Nat) (xs : Nat → Int32) : lk (T_L L xs) 595 = o_xld L xs 596 := (sk_14 L xs 595 (by omega)).trans rfl
theorem kL_596 (L : Nat) (xs : Nat → Int32) : lk (T_L L xs) 596 = o_callV 5 S_X5_wish 3 599 := (sk_14 L xs 596 (by omega)).trans rfl
theorem kL_599 (L : Nat) (xs : Nat → Int32) : lk (T_L L xs) 599 = o_icmp (fun x y => x = y) 888 602 := (sk_14 L xs 599 (by omega)).trans rfl
theorem kL_602 (L : Nat) (xs : Nat → Int32) : lk (T_L L xs) 602 = o_const 0 603 := (sk_14 L xs 602 (by omega)).trans rfl
theorem kL_603 (L : Nat) (xs : Nat → Int32) : lk (T_L L xs) 603 = o_fin := (sk_14 L xs 603 (by omega)).trans rfl
theorem kL_604 (L : Nat) (xs : Nat → Int32) : lk (T_L L xs) 604 = o_aload 1 605 := (sk_14 L xs 604 (by omega)).trans rfl
theorem kL_605 (L : Nat) (xs : Nat → Int32) : lk (T_L L xs) 605 = o_aload 0 606 := (sk_14 L xs 605 (by omega)).trans rfl
theorem kL_606 (L : Nat) (xs : Nat → Int32) : lk (T_L L xs) 606 = o_iload 3 607 := (sk_15 L xs 606 (by omega)).trans rfl
theorem kL_607 (L : Nat) (xs : Nat → Int32) : lk (T_L L xs) 607 = o_const 1 608 := (sk_15 L xs 607 (by omega)).trans rfl
theorem kL_608 (L : Nat) (xs : Nat → Int32) : lk (T_L L xs) 608 = o_bin (fun x y => x + y) 609 := (sk_15 L xs 608 (by omega)).trans rfl
theorem kL_609 (L : Nat) (xs : Nat → Int32) : lk (T_L L xs) 609 = o_xld L xs 610 := (sk_15 L xs 609 (by omega)).trans rfl
theorem kL_610 (L : Nat) (xs : Nat → Int32) : lk (T_L L xs) 610 = o_callV 4 S_X4_shut 1 613 := (sk_15 L xs 610 (by omega)).trans rfl
theorem kL_613 (L : Nat) (xs : Nat → Int32) : lk (T_L L xs) 613 = o_aload 2 614 := (sk_15 L xs 613 (by omega)).trans rfl
theorem kL_614 (L : Nat) (xs : Nat → Int32) : lk (T_L L xs) 614 = o_aload 0 615 := (sk_15 L xs 614 (by omega)).trans rfl
theorem kL_615 (L : Nat) (xs : Nat → Int32) : lk (T_L L xs) 615 = o_iload 3 616 := (sk_15 L xs 615 (by omega)).trans rfl
theorem kL_616 (L : Nat) (xs : Nat → Int32) : lk (T_L L xs) 616 = o_const 1 617 := (sk_15 L xs 616 (by omega)).trans rfl
theorem kL_617 (L : Nat) (xs : Nat → Int32) : lk (T_L L xs) 617 = o_bin (fun x y => x + y) 618 := (sk_15 L xs 617 (by omega)).trans rfl
theorem kL_618 (L : Nat) (xs : Nat → Int32) : lk (T_L L xs) 618 = o_xld L xs 619 := (sk_15 L xs 618 (by omega)).trans rfl
theorem kL_619 (L : Nat) (xs : Nat → Int32) : lk (T_L L xs) 619 = o_callV 5 S_X5_shut 1 622 := (sk_15 L xs 619 (by omega)).trans rfl
theorem kL_622 (L : Nat) (xs : Nat → Int32) : lk (T_L L xs) 622 = o_icmp (fun x y => x = y) 888 625 := (sk_15 L xs 622 (by omega)).trans rfl
theorem kL_625 (L : Nat) (xs : Nat → Int32) : lk (T_L L xs) 625 = o_const 0 626 := (sk_15 L xs 625 (by omega)).trans rfl
theorem kL_626 (L : Nat) (xs : Nat → Int32) : lk (T_L L xs) 626 = o_fin := (sk_15 L xs 626 (by omega)).trans rfl
theorem kL_627 (L : Nat) (xs : Nat → Int32) : lk (T_L L xs) 627 = o_aload 1 628 := (sk_15 L xs 627 (by omega)).trans rfl
theorem kL_628 (L : Nat) (xs : Nat → Int32) : lk (T_L L xs) 628 = o_aload 0 629 := (sk_15 L xs 628 (by omega)).trans rfl
theorem kL_629 (L : Nat) (xs : Nat → Int32) : lk (T_L L xs) 629 = o_iload 3 630 := (sk_15 L xs 629 (by omega)).trans rfl
theorem kL_630 (L : Nat) (xs : Nat → Int32) : lk (T_L L xs) 630 = o_const 1 631 := (sk_15 L xs 630 (by omega)).trans rfl
theorem kL_631 (L : Nat) (xs : Nat → Int32) : lk (T_L L xs) 631 = o_bin (fun x y => x + y) 632 := (sk_15 L xs 631 (by omega)).trans rfl
theorem kL_632 (L : Nat) (xs : Nat → Int32) : lk (T_L L xs) 632 = o_xld L xs 633 := (sk_15 L xs 632 (by omega)).trans rfl
theorem kL_633 (L : Nat) (xs : Nat → Int32) : lk (T_L L xs) 633 = o_callV 4 S_X4_brings 1 636 := (sk_15 L xs 633 (by omega)).trans rfl
theorem kL_636 (L : Nat) (xs : Nat → Int32) : lk (T_L L xs) 636 = o_aload 2 637 := (sk_15 L xs 636 (by omega)).trans rfl
theorem kL_637 (L : Nat) (xs : Nat → Int32) : lk (T_L L xs) 637 = o_aload 0 638 := (sk_15 L xs 637 (by omega)).trans rfl
theorem kL_638 (L : Nat) (xs : Nat → Int32) : lk (T_L L xs) 638 = o_iload 3 639 := (sk_16 L xs 638 (by omega)).trans rfl
theorem kL_639 (L : Nat) (xs : Nat → Int32) : lk (T_L L xs) 639 = o_const 1 640 := (sk_16 L xs 639 (by omega)).trans rfl
theorem kL_640 (L : Nat) (xs : Nat → Int32) : lk (T_L L xs) 640 = o_bin (fun x y => x + y) 641 := (sk_16 L xs 640 (by omega)).trans rfl
theorem kL_641 (L : Nat) (xs : Nat → Int32) : lk (T_L L xs) 641 = o_xld L xs 642 := (sk_16 L xs 641 (by omega)).trans rfl
theorem kL_642 (L : Nat) (xs : Nat → Int32) : lk (T_L L xs) 642 = o_callV 5 S_X5_brings 1 645 := (sk_16 L xs 642 (by omega)).trans rfl
theorem kL_645 (L : Nat) (xs : Nat → Int32) : lk (T_L L xs) 645 = o_icmp (fun x y => x = y) 888 648 := (sk_16 L xs 645 (by omega)).trans rfl
theorem kL_648 (L : Nat) (xs : Nat → Int32) : lk (T_L L xs) 648 = o_const 0 649 := (sk_16 L xs 648 (by omega)).trans rfl
theorem kL_649 (L : Nat) (xs : Nat → Int32) : lk (T_L L xs) 649 = o_fin := (sk_16 L xs 649 (by omega)).trans rfl
theorem kL_650 (L : Nat) (xs : Nat → Int32) : lk (T_L L xs) 650 = o_aload 1 651 := (sk_16 L xs 650 (by omega)).trans rfl
theorem kL_651 (L : Nat) (xs : Nat → Int32) : lk (T_L L xs) 651 = o_aload 0 652 := (sk_16 L xs 651 (by omega)).trans rfl
theorem kL_652 (L : Nat) (xs : Nat → Int32) : lk (T_L L xs) 652 = o_iload 3 653 := (sk_16 L xs 652 (by omega)).trans rfl
theorem kL_653 (L : Nat) (xs : Nat → Int32) : lk (T_L L xs) 653 = o_const 1 654 := (sk_16 L xs 653 (by omega)).trans rfl
theorem kL_654 (L : Nat) (xs : Nat → Int32) : lk (T_L L xs) 654 = o_bin (fun x y => x + y) 655 := (sk_16 L xs 654 (by omega)).trans rfl
theorem kL_655 (L : Nat) (xs : Nat → Int32) : lk (T_L L xs) 655 = o_xld L xs 656 := (sk_16 L xs 655 (by omega)).trans rfl
theorem kL_656 (L : Nat) (xs : Nat → Int32) : lk (T_L L xs) 656 = o_callV 4 S_X4_rob 1 659 := (sk_16 L xs 656 (by omega)).trans rfl
theorem kL_659 (L : Nat) (xs : Nat → Int32) : lk (T_L L xs) 659 = o_aload 2 660 := (sk_16 L xs 659 (by omega)).trans rfl
theorem kL_660 (L : Nat) (xs : Nat → Int32) : lk (T_L L xs) 660 = o_aload 0 661 := (sk_16 L xs 660 (by omega)).trans rfl
theorem kL_661 (L : Nat) (xs : Nat → Int32) : lk (T_L L xs) 661 = o_iload 3 662 := (sk_16 L xs 661 (by omega)).trans rfl
theorem kL_662 (L : Nat) (xs : Nat → Int32) : lk (T_L L xs) 662 = o_const 1 663 := (sk_16 L xs 662 (by omega)).trans rfl
theorem kL_663 (L : Nat) (xs : Nat → Int32) : lk (T_L L xs) 663 = o_bin (fun x y => x + y) 664 := (sk_16 L xs 663 (by omega)).trans rfl
theorem kL_664 (L : Nat) (xs : Nat → Int32) : lk (T_L L xs) 664 = o_xld L xs 665 := (sk_16 L xs 664 (by omega)).trans rfl
theorem kL_665 (L : Nat) (xs : Nat → Int32) : lk (T_L L xs) 665 = o_callV 5 S_X5_rob 1 668 := (sk_16 L xs 665 (by omega)).trans rfl
theorem kL_668 (L : Nat) (xs : Nat → Int32) : lk (T_L L xs) 668 = o_icmp (fun x y => x = y) 888 671 := (sk_16 L xs 668 (by omega)).trans rfl
theorem kL_671 (L : Nat) (xs : Nat → Int32) : lk (T_L L xs) 671 = o_const 0 672 := (sk_16 L xs 671 (by omega)).trans rfl
theorem kL_672 (L : Nat) (xs : Nat → Int32) : lk (T_L L xs) 672 = o_fin := (sk_17 L xs 672 (by omega)).trans rfl
theorem kL_673 (L : Nat) (xs : Nat → Int32) : lk (T_L L xs) 673 = o_aload 1 674 := (sk_17 L xs 673 (by omega)).trans rfl
theorem kL_674 (L : Nat) (xs : Nat → Int32) : lk (T_L L xs) 674 = o_callV 4 S_X4_apart 0 677 := (sk_17 L xs 674 (by omega)).trans rfl
theorem kL_677 (L : Nat) (xs : Nat → Int32) : lk (T_L L xs) 677 = o_aload 2 678 := (sk_17 L xs 677 (by omega)).trans rfl
theorem kL_678 (L : Nat) (xs : Nat → Int32) : lk (T_L L xs) 678 = o_callV 5 S_X5_apart 0 681 := (sk_17 L xs 678 (by omega)).trans rfl
theorem kL_681 (L : Nat) (xs : Nat → Int32) : lk (T_L L xs) 681 = o_icmp (fun x y => x = y) 888 684 := (sk_17 L xs 681 (by omega)).trans rfl
theorem kL_684 (L : Nat) (xs : Nat → Int32) : lk (T_L L xs) 684 = o_const 0 685 := (sk_17 L xs 684 (by omega)).trans rfl
theorem kL_685 (L : Nat) (xs : Nat → Int32) : lk (T_L L xs) 685 = o_fin := (sk_17 L xs 685 (by omega)).trans rfl
theorem kL_686 (L : Nat) (xs : Nat → Int32) : lk (T_L L xs) 686 = o_aload 1 687 := (sk_17 L xs 686 (by omega)).trans rfl
theorem kL_687 (L : Nat) (xs : Nat → Int32) : lk (T_L L xs) 687 = o_aload 0 688 := (sk_17 L xs 687 (by omega)).trans rfl
theorem kL_688 (L : Nat) (xs : Nat → Int32) : lk (T_L L xs) 688 = o_iload 3 689 := (sk_17 L xs 688 (by omega)).trans rfl
theorem kL_689 (L : Nat) (xs : Nat → Int32) : lk (T_L L xs) 689 = o_const 1 690 := (sk_17 L xs 689 (by omega)).trans rfl
theorem kL_690 (L : Nat) (xs : Nat → Int32) : lk (T_L L xs) 690 = o_bin (fun x y => x + y) 691 := (sk_17 L xs 690 (by omega)).trans rfl
theorem kL_691 (L : Nat) (xs : Nat → Int32) : lk (T_L L xs) 691 = o_xld L xs 692 := (sk_17 L xs 691 (by omega)).trans rfl
theorem kL_692 (L : Nat) (xs : Nat → Int32) : lk (T_L L xs) 692 = o_aload 0 693 := (sk_17 L xs 692 (by omega)).trans rfl
theorem kL_693 (L : Nat) (xs : Nat → Int32) : lk (T_L L xs) 693 = o_iload 3 694 := (sk_17 L xs 693 (by omega)).trans rfl
theorem kL_694 (L : Nat) (xs : Nat → Int32) : lk (T_L L xs) 694 = o_const 2 695 := (sk_17 L xs 694 (by omega)).trans rfl
theorem kL_695 (L : Nat) (xs : Nat → Int32) : lk (T_L L xs) 695 = o_bin (fun x y => x + y) 696 := (sk_17 L xs 695 (by omega)).trans rfl
theorem kL_696 (L : Nat) (xs : Nat → Int32) : lk (T_L L xs) 696 = o_xld L xs 697 := (sk_17 L xs 696 (by omega)).trans rfl
theorem kL_697 (L : Nat) (xs : Nat → Int32) : lk (T_L L xs) 697 = o_aload 0 698 := (sk_17 L xs 697 (by omega)).trans rfl
theorem kL_698 (L : Nat) (xs : Nat → Int32) : lk (T_L L xs) 698 = o_iload 3 699 := (sk_17 L xs 698 (by omega)).trans rfl
theorem kL_699 (L : Nat) (xs : Nat → Int32) : lk (T_L L xs) 699 = o_const 3 700 := (sk_17 L xs 699 (by omega)).trans rfl
theorem kL_700 (L : Nat) (xs : Nat → Int32) : lk (T_L L xs) 700 = o_bin (fun x y => x + y) 701 := (sk_17 L xs 700 (by omega)).trans rfl
theorem kL_701 (L : Nat) (xs : Nat → Int32) : lk (T_L L xs) 701 = o_xld L xs 702 := (sk_17 L xs 701 (by omega)).trans rfl
theorem kL_702 (L : Nat) (xs : Nat → Int32) : lk (T_L L xs) 702 = o_callV 4 S_X4_slips 3 705 := (sk_18 L xs 702 (by omega)).trans rfl
theorem kL_705 (L : Nat) (xs : Nat → Int32) : lk (T_L L xs) 705 = o_aload 2 706 := (sk_18 L xs 705 (by omega)).trans rfl
theorem kL_706 (L : Nat) (xs : Nat → Int32) : lk (T_L L xs) 706 = o_aload 0 707 := (sk_18 L xs 706 (by omega)).trans rfl
theorem kL_707 (L : Nat) (xs : Nat → Int32) : lk (T_L L xs) 707 = o_iload 3 708 := (sk_18 L xs 707 (by omega)).trans rfl
theorem kL_708 (L : Nat) (xs : Nat → Int32) : lk (T_L L xs) 708 = o_const 1 709 := (sk_18 L xs 708 (by omega)).trans rfl
theorem kL_709 (L : Nat) (xs : Nat → Int32) : lk (T_L L xs) 709 = o_bin (fun x y => x + y) 710 := (sk_18 L xs 709 (by omega)).trans rfl
theorem kL_710 (L : Nat) (xs : Nat → Int32) : lk (T_L L xs) 710 = o_xld L xs 711 := (sk_18 L xs 710 (by omega)).trans rfl
theorem kL_711 (L : Nat) (xs : Nat → Int32) : lk (T_L L xs) 711 = o_aload 0 712 := (sk_18 L xs 711 (by omega)).trans rfl
theorem kL_712 (L : Nat) (xs : Nat → Int32) : lk (T_L L xs) 712 = o_iload 3 713 := (sk_18 L xs 712 (by omega)).trans rfl
theorem kL_713 (L : Nat) (xs : Nat → Int32) : lk (T_L L xs) 713 = o_const 2 714 := (sk_18 L xs 713 (by omega)).trans rfl
theorem kL_714 (L : Nat) (xs : Nat → Int32) : lk (T_L L xs) 714 = o_bin (fun x y => x + y) 715 := (sk_18 L xs 714 (by omega)).trans rfl
theorem kL_715 (L : Nat) (xs : Nat → Int32) : lk (T_L L xs) 715 = o_xld L xs 716 := (sk_18 L xs 715 (by omega)).trans rfl
theorem kL_716 (L : Nat) (xs : Nat → Int32) : lk (T_L L xs) 716 = o_aload 0 717 := (sk_18 L xs 716 (by omega)).trans rfl
theorem kL_717 (L : Nat) (xs : Nat → Int32) : lk (T_L L xs) 717 = o_iload 3 718 := (sk_18 L xs 717 (by omega)).trans rfl
theorem kL_718 (L : Nat) (xs : Nat → Int32) : lk (T_L L xs) 718 = o_const 3 719 := (sk_18 L xs 718 (by omega)).trans rfl
theorem kL_719 (L : Nat) (xs : Nat → Int32) : lk (T_L L xs) 719 = o_bin (fun x y => x + y) 720 := (sk_18 L xs 719 (by omega)).trans rfl
theorem kL_720 (L : Nat) (xs : Nat → Int32) : lk (T_L L xs) 720 = o_xld L xs 721 := (sk_18 L xs 720 (by omega)).trans rfl
theorem kL_721 (L : Nat) (xs : Nat → Int32) : lk (T_L L xs) 721 = o_callV 5 S_X5_slips 3 724 := (sk_18 L xs 721 (by omega)).trans rfl
theorem kL_724 (L : Nat) (xs : Nat → Int32) : lk (T_L L xs) 724 = o_icmp (fun x y => x = y) 888 727 := (sk_18 L xs 724 (by omega)).trans rfl
theorem kL_727 (L : Nat) (xs : Nat → Int32) : lk (T_L L xs) 727 = o_const 0 728 := (sk_18 L xs 727 (by omega)).trans rfl
theorem kL_728 (L : Nat) (xs : Nat → Int32) : lk (T_L L xs) 728 = o_fin := (sk_18 L xs 728 (by omega)).trans rfl
theorem kL_729 (L : Nat) (xs : Nat → Int32) : lk (T_L L xs) 729 = o_aload 1 730 := (sk_18 L xs 729 (by omega)).trans rfl
theorem kL_730 (L : Nat) (xs : Nat → Int32) : lk (T_L L xs) 730 = o_aload 0 731 := (sk_18 L xs 730 (by omega)).trans rfl
theorem kL_731 (L : Nat) (xs : Nat → Int32) : lk (T_L L xs) 731 = o_iload 3 732 := (sk_18 L xs 731 (by omega)).trans rfl
theorem kL_732 (L : Nat) (xs : Nat → Int32) : lk (T_L L xs) 732 = o_const 1 733 := (sk_19 L xs 732 (by omega)).trans rfl
theorem kL_733 (L : Nat) (xs : Nat → Int32) : lk (T_L L xs) 733 = o_bin (fun x y => x + y) 734 := (sk_19 L xs 733 (by omega)).trans rfl
theorem kL_734 (L : Nat) (xs : Nat → Int32) : lk (T_L L xs) 734 = o_xld L xs 735 := (sk_19 L xs 734 (by omega)).trans rfl
theorem kL_735 (L : Nat) (xs : Nat → Int32) : lk (T_L L xs) 735 = o_aload 0 736 := (sk_19 L xs 735 (by omega)).trans rfl
theorem kL_736 (L : Nat) (xs : Nat → Int32) : lk (T_L L xs) 736 = o_iload 3 737 := (sk_19 L xs 736 (by omega)).trans rfl
theorem kL_737 (L : Nat) (xs : Nat → Int32) : lk (T_L L xs) 737 = o_const 2 738 := (sk_19 L xs 737 (by omega)).trans rfl
theorem kL_738 (L : Nat) (xs : Nat → Int32) : lk (T_L L xs) 738 = o_bin (fun x y => x + y) 739 := (sk_19 L xs 738 (by omega)).trans rfl
theorem kL_739 (L : Nat) (xs : Nat → Int32) : lk (T_L L xs) 739 = o_xld L xs 740 := (sk_19 L xs 739 (by omega)).trans rfl
theorem kL_740 (L : Nat) (xs : Nat → Int32) : lk (T_L L xs) 740 = o_aload 0 741 := (sk_19 L xs 740 (by omega)).trans rfl
theorem kL_741 (L : Nat) (xs : Nat → Int32) : lk (T_L L xs) 741 = o_iload 3 742 := (sk_19 L xs 741 (by omega)).trans rfl
theorem kL_742 (L : Nat) (xs : Nat → Int32) : lk (T_L L xs) 742 = o_const 3 743 := (sk_19 L xs 742 (by omega)).trans rfl
theorem kL_743 (L : Nat) (xs : Nat → Int32) : lk (T_L L xs) 743 = o_bin (fun x y => x + y) 744 := (sk_19 L xs 743 (by omega)).trans rfl
theorem kL_744 (L : Nat) (xs : Nat → Int32) : lk (T_L L xs) 744 = o_xld L xs 745 := (sk_19 L xs 744 (by omega)).trans rfl
theorem kL_745 (L : Nat) (xs : Nat → Int32) : lk (T_L L xs) 745 = o_callV 4 S_X4_odds 3 748 := (sk_19 L xs 745 (by omega)).trans rfl
theorem kL_748 (L : Nat) (xs : Nat → Int32) : lk (T_L L xs) 748 = o_aload 2 749 := (sk_19 L xs 748 (by omega)).trans rfl
theorem kL_749 (L : Nat) (xs : Nat → Int32) : lk (T_L L xs) 749 = o_aload 0 750 := (sk_19 L xs 749 (by omega)).trans rfl
theorem kL_750 (L : Nat) (xs : Nat → Int32) : lk (T_L L xs) 750 = o_iload 3 751 := (sk_19 L xs 750 (by omega)).trans rfl
theorem kL_751 (L : Nat) (xs : Nat → Int32) : lk (T_L L xs) 751 = o_const 1 752 := (sk_19 L xs 751 (by omega)).trans rfl
theorem kL_752 (L : Nat) (xs : Nat → Int32) : lk (T_L L xs) 752 = o_bin (fun x y => x + y) 753 := (sk_19 L xs 752 (by omega)).trans rfl
theorem kL_753 (L : Nat) (xs : Nat → Int32) : lk (T_L L xs) 753 = o_xld L xs 754 := (sk_19 L xs 753 (by omega)).trans rfl
theorem kL_754 (L : Nat) (xs : Nat → Int32) : lk (T_L L xs) 754 = o_aload 0 755 := (sk_19 L xs 754 (by omega)).trans rfl
theorem kL_755 (L : Nat) (xs : Nat → Int32) : lk (T_L L xs) 755 = o_iload 3 756 := (sk_19 L xs 755 (by omega)).trans rfl
theorem kL_756 (L : Nat) (xs : Nat → Int32) : lk (T_L L xs) 756 = o_const 2 757 := (sk_19 L xs 756 (by omega)).trans rfl
theorem kL_757 (L : Nat) (xs : Nat → Int32) : lk (T_L L xs) 757 = o_bin (fun x y => x + y) 758 := (sk_19 L xs 757 (by omega)).trans rfl
theorem kL_758 (L : Nat) (xs : Nat → Int32) : lk (T_L L xs) 758 = o_xld L xs 759 := (sk_20 L xs 758 (by omega)).trans rfl
theorem kL_759 (L : Nat) (xs : Nat → Int32) : lk (T_L L xs) 759 = o_aload 0 760 := (sk_20 L xs 759 (by omega)).trans rfl
theorem kL_760 (L : Nat) (xs : Nat → Int32) : lk (T_L L xs) 760 = o_iload 3 761 := (sk_20 L xs 760 (by omega)).trans rfl
theorem kL_761 (L : Nat) (xs : Nat → Int32) : lk (T_L L xs) 761 = o_const 3 762 := (sk_20 L xs 761 (by omega)).trans rfl
theorem kL_762 (L : Nat) (xs : Nat → Int32) : lk (T_L L xs) 762 = o_bin (fun x y => x + y) 763 := (sk_20 L xs 762 (by omega)).trans rfl
theorem kL_763 (L : Nat) (xs : Nat → Int32) : lk (T_L L xs) 763 = o_xld L xs 764 := (sk_20 L xs 763 (by omega)).trans rfl
theorem kL_764 (L : Nat) (xs : Nat → Int32) : lk (T_L L xs) 764 = o_callV 5 S_X5_odds 3 767 := (sk_20 L xs 764 (by omega)).trans rfl
theorem kL_767 (L : Nat) (xs : Nat → Int32) : lk (T_L L xs) 767 = o_icmp (fun x y => x = y) 888 770 := (sk_20 L xs 767 (by omega)).trans rfl
theorem kL_770 (L : Nat) (xs : Nat → Int32) : lk (T_L L xs) 770 = o_const 0 771 := (sk_20 L xs 770 (by omega)).trans rfl
theorem kL_771 (L : Nat) (xs : Nat → Int32) : lk (T_L L xs) 771 = o_fin := (sk_20 L xs 771 (by omega)).trans rfl
theorem kL_772 (L : Nat) (xs : Nat → Int32) : lk (T_L L xs) 772 = o_aload 1 773 := (sk_20 L xs 772 (by omega)).trans rfl
theorem kL_773 (L : Nat) (xs : Nat → Int32) : lk (T_L L xs) 773 = o_aload 0 774 := (sk_20 L xs 773 (by omega)).trans rfl
theorem kL_774 (L : Nat) (xs : Nat → Int32) : lk (T_L L xs) 774 = o_iload 3 775 := (sk_20 L xs 774 (by omega)).trans rfl
theorem kL_775 (L : Nat) (xs : Nat → Int32) : lk (T_L L xs) 775 = o_const 1 776 := (sk_20 L xs 775 (by omega)).trans rfl
theorem kL_776 (L : Nat) (xs : Nat → Int32) : lk (T_L L xs) 776 = o_bin (fun x y => x + y) 777 := (sk_20 L xs 776 (by omega)).trans rfl
theorem kL_777 (L : Nat) (xs : Nat → Int32) : lk (T_L L xs) 777 = o_xld L xs 778 := (sk_20 L xs 777 (by omega)).trans rfl
theorem kL_778 (L : Nat) (xs : Nat → Int32) : lk (T_L L xs) 778 = o_aload 0 779 := (sk_20 L xs 778 (by omega)).trans rfl
theorem kL_779 (L : Nat) (xs : Nat → Int32) : lk (T_L L xs) 779 = o_iload 3 780 := (sk_20 L xs 779 (by omega)).trans rfl
theorem kL_780 (L : Nat) (xs : Nat → Int32) : lk (T_L L xs) 780 = o_const 2 781 := (sk_20 L xs 780 (by omega)).trans rfl
theorem kL_781 (L : Nat) (xs : Nat → Int32) : lk (T_L L xs) 781 = o_bin (fun x y => x + y) 782 := (sk_20 L xs 781 (by omega)).trans rfl
theorem kL_782 (L : Nat) (xs : Nat → Int32) : lk (T_L L xs) 782 = o_xld L xs 783 := (sk_20 L xs 782 (by omega)).trans rfl
theorem kL_783 (L : Nat) (xs : Nat → Int32) : lk (T_L L xs) 783 = o_callV 4 S_X4_rate 2 786 := (sk_20 L xs 783 (by omega)).trans rfl
theorem kL_786 (L : Nat) (xs : Nat → Int32) : lk (T_L L xs) 786 = o_aload 2 787 := (sk_20 L xs 786 (by omega)).trans rfl
theorem kL_787 (L : Nat) (xs : Nat → Int32) : lk (T_L L xs) 787 = o_aload 0 788 := (sk_20 L xs 787 (by omega)).trans rfl
theorem kL_788 (L : Nat) (xs : Nat → Int32) : lk (T_L L xs) 788 = o_iload 3 789 := (sk_21 L xs 788 (by omega)).trans rfl
theorem kL_789 (L : Nat) (xs : Nat → Int32) : lk (T_L L xs) 789 = o_const 1 790 := (sk_21 L xs 789 (by omega)).trans rfl
theorem kL_790 (L : Nat) (xs : Nat → Int32) : lk (T_L L xs) 790 = o_bin (fun x y => x + y) 791 := (sk_21 L xs 790 (by omega)).trans rfl
theorem kL_791 (L : Nat) (xs : Nat → Int32) : lk (T_L L xs) 791 = o_xld L xs 792 := (sk_21 L xs 791 (by omega)).trans rfl
theorem kL_792 (L : Nat) (xs : Nat → Int32) : lk (T_L L xs) 792 = o_aload 0 793 := (sk_21 L xs 792 (by omega)).trans rfl
theorem kL_793 (L : Nat) (xs : Nat → Int32) : lk (T_L L xs) 793 = o_iload 3 794 := (sk_21 L xs 793 (by omega)).trans rfl
theorem kL_794 (L : Nat) (xs : Nat → Int32) : lk (T_L L xs) 794 = o_const 2 795 := (sk_21 L xs 794 (by omega)).trans rfl
theorem kL_795 (L : Nat) (xs : Nat → Int32) : lk (T_L L xs) 795 = o_bin (fun x y => x + y) 796 := (sk_21 L xs 795 (by omega)).trans rfl
theorem kL_796 (L : Nat) (xs : Nat → Int32) : lk (T_L L xs) 796 = o_xld L xs 797 := (sk_21 L xs 796 (by omega)).trans rfl
theorem kL_797 (L : Nat) (xs : Nat → Int32) : lk (T_L L xs) 797 = o_callV 5 S_X5_rate 2 800 := (sk_21 L xs 797 (by omega)).trans rfl
theorem kL_800 (L : Nat) (xs : Nat → Int32) : lk (T_L L xs) 800 = o_icmp (fun x y => x = y) 888 803 := (sk_21 L xs 800 (by omega)).trans rfl
theorem kL_803 (L : Nat) (xs : Nat → Int32) : lk (T_L L xs) 803 = o_const 0 804 := (sk_21 L xs 803 (by omega)).trans rfl
theorem kL_804 (L : Nat) (xs : Nat → Int32) : lk (T_L L xs) 804 = o_fin := (sk_21 L xs 804 (by omega)).trans rfl
theorem kL_805 (L : Nat) (xs : Nat → Int32) : lk (T_L L xs) 805 = o_aload 1 806 := (sk_21 L xs 805 (by omega)).trans rfl
theorem kL_806 (L : Nat) (xs : Nat → Int32) : lk (T_L L xs) 806 = o_aload 0 807 := (sk_21 L xs 806 (by omega)).trans rfl
theorem kL_807 (L : Nat) (xs : Nat → Int32) : lk (T_L L xs) 807 = o_iload 3 808 := (sk_21 L xs 807 (by omega)).trans rfl
theorem kL_808 (L : Nat) (xs : Nat → Int32) : lk (T_L L xs) 808 = o_const 1 809 := (sk_21 L xs 808 (by omega)).trans rfl
theorem kL_809 (L : Nat) (xs : Nat → Int32) : lk (T_L L xs) 809 = o_bin (fun x y => x + y) 810 := (sk_21 L xs 809 (by omega)).trans rfl
theorem kL_810 (L : Nat) (xs : Nat → Int32) : lk (T_L L xs) 810 = o_xld L xs 811 := (sk_21 L xs 810 (by omega)).trans rfl
theorem kL_811 (L : Nat) (xs : Nat → Int32) : lk (T_L L xs) 811 = o_callV 4 S_X4_keep 1 814 := (sk_21 L xs 811 (by omega)).trans rfl
theorem kL_814 (L : Nat) (xs : Nat → Int32) : lk (T_L L xs) 814 = o_aload 2 815 := (sk_21 L xs 814 (by omega)).trans rfl
theorem kL_815 (L : Nat) (xs : Nat → Int32) : lk (T_L L xs) 815 = o_aload 0 816 := (sk_21 L xs 815 (by omega)).trans rfl
theorem kL_816 (L : Nat) (xs : Nat → Int32) : lk (T_L L xs) 816 = o_iload 3 817 := (sk_21 L xs 816 (by omega)).trans rfl
theorem kL_817 (L : Nat) (xs : Nat → Int32) : lk (T_L L xs) 817 = o_const 1 818 := (sk_21 L xs 817 (by omega)).trans rfl
theorem kL_818 (L : Nat) (xs : Nat → Int32) : lk (T_L L xs) 818 = o_bin (fun x y => x + y) 819 := (sk_22 L xs 818 (by omega)).trans rfl
theorem kL_819 (L : Nat) (xs : Nat → Int32) : lk (T_L L xs) 819 = o_xld L xs 820 := (sk_22 L xs 819 (by omega)).trans rfl
theorem kL_820 (L : Nat) (xs : Nat → Int32) : lk (T_L L xs) 820 = o_callV 5 S_X5_keep 1 823 := (sk_22 L xs 820 (by omega)).trans rfl
theorem kL_823 (L : Nat) (xs : Nat → Int32) : lk (T_L L xs) 823 = o_icmp (fun x y => x = y) 888 826 := (sk_22 L xs 823 (by omega)).trans rfl
theorem kL_826 (L : Nat) (xs : Nat → Int32) : lk (T_L L xs) 826 = o_const 0 827 := (sk_22 L xs 826 (by omega)).trans rfl
theorem kL_827 (L : Nat) (xs : Nat → Int32) : lk (T_L L xs) 827 = o_fin := (sk_22 L xs 827 (by omega)).trans rfl
theorem kL_828 (L : Nat) (xs : Nat → Int32) : lk (T_L L xs) 828 = o_aload 1 829 := (sk_22 L xs 828 (by omega)).trans rfl
theorem kL_829 (L : Nat) (xs : Nat → Int32) : lk (T_L L xs) 829 = o_aload 0 830 := (sk_22 L xs 829 (by omega)).trans rfl
theorem kL_830 (L : Nat) (xs : Nat → Int32) : lk (T_L L xs) 830 = o_iload 3 831 := (sk_22 L xs 830 (by omega)).trans rfl
theorem kL_831 (L : Nat) (xs : Nat → Int32) : lk (T_L L xs) 831 = o_const 1 832 := (sk_22 L xs 831 (by omega)).trans rfl
theorem kL_832 (L : Nat) (xs : Nat → Int32) : lk (T_L L xs) 832 = o_bin (fun x y => x + y) 833 := (sk_22 L xs 832 (by omega)).trans rfl
theorem kL_833 (L : Nat) (xs : Nat → Int32) : lk (T_L L xs) 833 = o_xld L xs 834 := (sk_22 L xs 833 (by omega)).trans rfl
theorem kL_834 (L : Nat) (xs : Nat → Int32) : lk (T_L L xs) 834 = o_callV 4 S_X4_back 1 837 := (sk_22 L xs 834 (by omega)).trans rfl
theorem kL_837 (L : Nat) (xs : Nat → Int32) : lk (T_L L xs) 837 = o_aload 2 838 := (sk_22 L xs 837 (by omega)).trans rfl
theorem kL_838 (L : Nat) (xs : Nat → Int32) : lk (T_L L xs) 838 = o_aload 0 839 := (sk_22 L xs 838 (by omega)).trans rfl
theorem kL_839 (L : Nat) (xs : Nat → Int32) : lk (T_L L xs) 839 = o_iload 3 840 := (sk_22 L xs 839 (by omega)).trans rfl
theorem kL_840 (L : Nat) (xs : Nat → Int32) : lk (T_L L xs) 840 = o_const 1 841 := (sk_22 L xs 840 (by omega)).trans rfl
theorem kL_841 (L : Nat) (xs : Nat → Int32) : lk (T_L L xs) 841 = o_bin (fun x y => x + y) 842 := (sk_22 L xs 841 (by omega)).trans rfl
theorem kL_842 (L : Nat) (xs : Nat → Int32) : lk (T_L L xs) 842 = o_xld L xs 843 := (sk_22 L xs 842 (by omega)).trans rfl
theorem kL_843 (L : Nat) (xs : Nat → Int32) : lk (T_L L xs) 843 = o_callV 5 S_X5_back 1 846 := (sk_22 L xs 843 (by omega)).trans rfl
theorem kL_846 (L : Nat) (xs : Nat → Int32) : lk (T_L L xs) 846 = o_icmp (fun x y => x = y) 888 849 := (sk_22 L xs 846 (by omega)).trans rfl
theorem kL_849 (L : Nat) (xs : Nat → Int32) : lk (T_L L xs) 849 = o_const 0 850 := (sk_22 L xs 849 (by omega)).trans rfl
theorem kL_850 (L : Nat) (xs : Nat → Int32) : lk (T_L L xs) 850 = o_fin := (sk_22 L xs 850 (by omega)).trans rfl
theorem kL_851 (L : Nat) (xs : Nat → Int32) : lk (T_L L xs) 851 = o_aload 1 852 := (sk_22 L xs 851 (by omega)).trans rfl
theorem kL_852 (L : Nat) (xs : Nat → Int32) : lk (T_L L xs) 852 = o_aload 0 853 := (sk_23 L xs 852 (by omega)).trans rfl
theorem kL_853 (L : Nat) (xs : Nat → Int32) : lk (T_L L xs) 853 = o_iload 3 854 := (sk_23 L xs 853 (by omega)).trans rfl
theorem kL_854 (L : Nat) (xs : Nat → Int32) : lk (T_L L xs) 854 = o_const 1 855 := (sk_23 L xs 854 (by omega)).trans rfl
theorem kL_855 (L : Nat) (xs : Nat → Int32) : lk (T_L L xs) 855 = o_bin (fun x y => x + y) 856 := (sk_23 L xs 855 (by omega)).trans rfl
theorem kL_856 (L : Nat) (xs : Nat → Int32) : lk (T_L L xs) 856 = o_xld L xs 857 := (sk_23 L xs 856 (by omega)).trans rfl
theorem kL_857 (L : Nat) (xs : Nat → Int32) : lk (T_L L xs) 857 = o_callV 4 S_X4_count 1 860 := (sk_23 L xs 857 (by omega)).trans rfl
theorem kL_860 (L : Nat) (xs : Nat → Int32) : lk (T_L L xs) 860 = o_aload 2 861 := (sk_23 L xs 860 (by omega)).trans rfl
theorem kL_861 (L : Nat) (xs : Nat → Int32) : lk (T_L L xs) 861 = o_aload 0 862 := (sk_23 L xs 861 (by omega)).trans rfl
theorem kL_862 (L : Nat) (xs : Nat → Int32) : lk (T_L L xs) 862 = o_iload 3 863 := (sk_23 L xs 862 (by omega)).trans rfl
theorem kL_863 (L : Nat) (xs : Nat → Int32) : lk (T_L L xs) 863 = o_const 1 864 := (sk_23 L xs 863 (by omega)).trans rfl
theorem kL_864 (L : Nat) (xs : Nat → Int32) : lk (T_L L xs) 864 = o_bin (fun x y => x + y) 865 := (sk_23 L xs 864 (by omega)).trans rfl
theorem kL_865 (L : Nat) (xs : Nat → Int32) : lk (T_L L xs) 865 = o_xld L xs 866 := (sk_23 L xs 865 (by omega)).trans rfl
theorem kL_866 (L : Nat) (xs : Nat → Int32) : lk (T_L L xs) 866 = o_callV 5 S_X5_count 1 869 := (sk_23 L xs 866 (by omega)).trans rfl
theorem kL_869 (L : Nat) (xs : Nat → Int32) : lk (T_L L xs) 869 = o_icmp (fun x y => x = y) 888 872 := (sk_23 L xs 869 (by omega)).trans rfl
theorem kL_872 (L : Nat) (xs : Nat → Int32) : lk (T_L L xs) 872 = o_const 0 873 := (sk_23 L xs 872 (by omega)).trans rfl
theorem kL_873 (L : Nat) (xs : Nat → Int32) : lk (T_L L xs) 873 = o_fin := (sk_23 L xs 873 (by omega)).trans rfl
theorem kL_874 (L : Nat) (xs : Nat → Int32) : lk (T_L L xs) 874 = o_aload 1 875 := (sk_23 L xs 874 (by omega)).trans rfl
theorem kL_875 (L : Nat) (xs : Nat → Int32) : lk (T_L L xs) 875 = o_callV 4 S_X4_trace 0 878 := (sk_23 L xs 875 (by omega)).trans rfl
theorem kL_878 (L : Nat) (xs : Nat → Int32) : lk (T_L L xs) 878 = o_aload 2 879 := (sk_23 L xs 878 (by omega)).trans rfl
theorem kL_879 (L : Nat) (xs : Nat → Int32) : lk (T_L L xs) 879 = o_callV 5 S_X5_trace 0 882 := (sk_23 L xs 879 (by omega)).trans rfl
theorem kL_882 (L : Nat) (xs : Nat → Int32) : lk (T_L L xs) 882 = o_lcmp 883 := (sk_23 L xs 882 (by omega)).trans rfl
theorem kL_883 (L : Nat) (xs : Nat → Int32) : lk (T_L L xs) 883 = o_if (fun x => x = 0) 888 886 := (sk_23 L xs 883 (by omega)).trans rfl
theorem kL_886 (L : Nat) (xs : Nat → Int32) : lk (T_L L xs) 886 = o_const 0 887 := (sk_23 L xs 886 (by omega)).trans rfl
theorem kL_887 (L : Nat) (xs : Nat → Int32) : lk (T_L L xs) 887 = o_fin := (sk_23 L xs 887 (by omega)).trans rfl
theorem kL_888 (L : Nat) (xs : Nat → Int32) : lk (T_L L xs) 888 = o_iinc 3 4 891 := (sk_24 L xs 888 (by omega)).trans rfl
theorem kL_891 (L : Nat) (xs : Nat → Int32) : lk (T_L L xs) 891 = o_goto 18 := (sk_24 L xs 891 (by omega)).trans rfl
theorem kL_894 (L : Nat) (xs : Nat → Int32) : lk (T_L L xs) 894 = o_const 1 895 := (sk_24 L xs 894 (by omega)).trans rfl
theorem kL_895 (L : Nat) (xs : Nat → Int32) : lk (T_L L xs) 895 = o_fin := (sk_24 L xs 895 (by omega)).trans rfl
