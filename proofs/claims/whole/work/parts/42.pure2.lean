/-! What the coupling needs of numbers. -/
theorem In_p {x : Int32} {p : Nat} (hp : p ≤ 6) : In x (2 ^ p - 1) ↔ (0 ≤ x ∧ x < nI (2 ^ p)) := by
  have h1 := Nat.one_le_two_pow (n := p)
  have h2 : 2 ^ p ≤ 2 ^ 6 := Nat.pow_le_pow_right (by omega) hp
  constructor
  · intro h
    obtain ⟨T, rfl, hT, hT2⟩ := In_at (by omega) h
    exact ⟨nI_pos' (by omega), (nI_ltI (by omega) (by omega)).mpr (by omega)⟩
  · intro h
    obtain ⟨k, rfl, hk⟩ := rg (by omega) h
    rw [In_nI (by omega) (by omega), Nat.and_two_pow_sub_one_eq_mod, Nat.mod_eq_of_lt hk]
theorem ct_mono {P Q : Nat → Bool} (h : ∀ j, P j = true → Q j = true) : ∀ m, ct P m ≤ ct Q m := by
  intro m
  induction m with
  | zero => exact Nat.le_refl 0
  | succ m ih =>
    rw [ct, ct]
    by_cases e : P m = true
    · rw [if_pos e, if_pos (h m e)]; omega
    · rw [if_neg e]; omega
theorem oG_le (r : Nat → Nat) (n a k row m : Nat) : ct (oG r n a k row) m ≤ ct (oS a k) m := ct_mono (fun j hj => by
  unfold oG at hj
  rw [Bool.and_eq_true] at hj
  exact hj.1) m
theorem xr_cgf {f g : Nat → Int32} {T : Nat} : ∀ m, (∀ k, k < m → f k = g k) → xrI f T m = xrI g T m := by
  intro m
  induction m with
  | zero => intro _; rfl
  | succ m ih =>
    intro h
    rw [xrI, xrI, ih (fun k hk => h k (by omega)), h m (by omega)]
theorem fw_cg {us n lim : Nat} {F F' : Nat → Int32} {row : Int32} (h : ∀ k, k < n → F k = F' k) : fwP us n lim F row = fwP us n lim F' row := by
  funext T
  unfold fwP
  rw [xr_cgf n h]
