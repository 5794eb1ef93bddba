/-! What is asked: slips, odds, rates, counts. -/
theorem bits_ln2 (T : Nat) : ∀ n, (bits T n).length = cn T n := by
  intro n
  induction n with
  | zero => rfl
  | succ n ih =>
    rw [bits_s, cn]
    split
    · rw [List.length_append, ih]; rfl
    · rw [ih]; rfl
theorem bits_8 {T : Nat} (hT : T < 256) : bits T 8 = bits T 9 := by
  rw [bits_s T 8, if_neg (by rw [Nat.testBit_lt_two_pow (show T < 2 ^ 8 from hT)]; decide)]
/-- the model's slips are the class's -/
theorem sl_eq {T w : Nat} (hT : T < 256) (hw : w < 512) : (flt (slQ T w) 80).length = (if cn w 9 = 1 then cn T 9 else 0) ∧ ∀ i k t, i < (if cn w 9 = 1 then cn T 9 else 0) → (bits T 9)[i]? = some k → (bits w 9)[0]? = some t → (flt (slQ T w) 80)[i]? = some (10 * k + t) := by
  by_cases h1 : cn w 9 = 1
  · obtain ⟨t0, ht0, rfl⟩ := cn_1 w hw h1
    rw [if_pos h1, show 80 = 10 * 8 by rfl, sl_map ht0 8, bits_8 hT]
    refine ⟨by rw [List.length_map, bits_ln2], fun i k t _ hk ht => ?_⟩
    rw [bits_2 t0 ht0] at ht
    rw [List.getElem?_map, hk, Option.some.inj ht]; rfl
  · rw [if_neg h1, sl_no h1]
    exact ⟨rfl, fun i k t hi => absurd hi (by omega)⟩
theorem bits_get {T i : Nat} (h : i < cn T 9) : ∃ k, (bits T 9)[i]? = some k := by
  rw [← bits_ln2] at h
  exact ⟨_, List.getElem?_eq_getElem h⟩
theorem K_slips {x y z : Int32} {M : AM} {post : PO} (hI : Inv M) (k : ∀ v M1, Ans S_X5_slips [VR 39, VI x, VI y, VI z] (VI v) M1 → post (some (VI v)) M1) : S_X4_slips [VR 0, VI x, VI y, VI z] M post := by
  have hI0 := hI
  obtain ⟨n, c, p, r, h, lk, L, t, u, hX, hM, hH, hV⟩ := hI
  have hc6 := hX.2.2.2.1
  have hr := hX.2.2.2.2.2.2.1
  have hlk := hX.2.2.2.2.2.2.2.2
  have hus := us_lt h hX.2.1
  have sl : ∀ (T l : Nat), T &&& us h n = T → l < c → (flt (slQ T (xrN r T n ^^^ lk l)) 80).length = slN r n (lk l) T ∧ ∀ i k t, i < slN r n (lk l) T → (bits T 9)[i]? = some k → (bits (xrN r T n ^^^ lk l) 9)[0]? = some t → (flt (slQ T (xrN r T n ^^^ lk l)) 80)[i]? = some (10 * k + t) := by
    intro T l hT hl
    have l1 := sub_lt hT hus
    have l2 := xr_lt (f := r) (T := T) n (fun j hj => (hr j hj).2)
    have l3 : xrN r T n ^^^ lk l < 512 := Nat.xor_lt_two_pow (n := 9) l2 (hlk l hl).2
    exact sl_eq (by omega) l3
  have ge : ∀ j : Nat, j < 2 ^ 31 → z = nI j → -1 ≤ z := fun j hj e => by
    have h1 := nI_pos' hj
    rw [← e] at h1
    rw [Int32.le_iff_toInt_le] at h1 ⊢
    have a0 : (0 : Int32).toInt = 0 := by decide
    have a1 : (-1 : Int32).toInt = -1 := by decide
    omega
  have cl : ∀ (T l : Nat), slN r n (lk l) T ≤ 9 := fun T l => by
    unfold slN
    split
    · exact cn_le T 9
    · omega
  refine ⟨x, y, z, n, c, p, r, h, lk, rfl, hX, fun g0 => k _ _ fun P hP => ⟨x, y, z, n, c, p, r, h, lk, rfl, hM, fun _ => hP _ hI0, fun T l e1 e2 e3 e4 w hw => ⟨fun e5 => ?_, fun i v e5 e6 => ?_, fun i e5 e6 e7 => ?_⟩⟩, fun T l e1 e2 e3 e4 => ⟨fun e5 => k _ _ fun P hP => ⟨x, y, z, n, c, p, r, h, lk, rfl, hM, fun g0 => ?_, fun T' l' b1 b2 b3 b4 w hw => ⟨fun b5 => ?_, fun i v b5 b6 => ?_, fun i b5 b6 b7 => ?_⟩⟩, fun i kk t e5 e6 e7 e8 => k _ _ fun P hP => ⟨x, y, z, n, c, p, r, h, lk, rfl, hM, fun g0 => ?_, fun T' l' b1 b2 b3 b4 w hw => ⟨fun b5 => ?_, fun i' v b5 b6 => ?_, fun i' b5 b6 b7 => ?_⟩⟩, fun i e5 e6 e7 => k _ _ fun P hP => ⟨x, y, z, n, c, p, r, h, lk, rfl, hM, fun g0 => ?_, fun T' l' b1 b2 b3 b4 w hw => ⟨fun b5 => ?_, fun i' v b5 b6 => ?_, fun i' b5 b6 b7 => ?_⟩⟩⟩⟩
  · exact absurd ⟨⟨T, e1, e2⟩, rgi (by omega) e3 e4, by rw [e5]; decide⟩ g0
  · have l1 := (List.getElem?_eq_some_iff.mp e6).1
    have l2 := flt_le (slQ T w) 80
    exact absurd ⟨⟨T, e1, e2⟩, rgi (by omega) e3 e4, ge i (by omega) e5⟩ g0
  · exact absurd ⟨⟨T, e1, e2⟩, rgi (by omega) e3 e4, ge i e6 e5⟩ g0
  · exact absurd ⟨⟨T, e1, e2⟩, rgi (by omega) e3 e4, by rw [e5]; decide⟩ g0
  · have x1 := nq (by have := sub_lt b2 hus; omega) (by have := sub_lt e2 hus; omega) b1 e1
    have x2 := nq (by omega) (by omega) b3 e3
    rw [hw, x1, x2, (sl T l e2 e4).1]
    exact hP _ hI0
  · have l1 := (List.getElem?_eq_some_iff.mp b6).1
    have l2 := flt_le (slQ T' w) 80
    exact (m1n e5 b5 (by omega)).elim
  · exact (m1n e5 b5 b6).elim
  · have l1 := cl T l
    exact absurd ⟨⟨T, e1, e2⟩, rgi (by omega) e3 e4, ge i (by omega) e5⟩ g0
  · have l1 := cl T l
    exact (m1n b5 e5 (by omega)).elim
  · have x1 := nq (by have := sub_lt b2 hus; omega) (by have := sub_lt e2 hus; omega) b1 e1
    have x2 := nq (by omega) (by omega) b3 e3
    have l1 := cl T l
    have l2 := (List.getElem?_eq_some_iff.mp b6).1
    have l3 := flt_le (slQ T' w) 80
    have x3 := nq (by omega) (by omega) b5 e5
    rw [hw, x1, x2, x3, (sl T l e2 e4).2 i kk t e6 e7 e8] at b6
    rw [← Option.some.inj b6]
    exact hP _ hI0
  · have x1 := nq (by have := sub_lt b2 hus; omega) (by have := sub_lt e2 hus; omega) b1 e1
    have x2 := nq (by omega) (by omega) b3 e3
    have l1 := cl T l
    have x3 := nq b6 (by omega) b5 e5
    rw [hw, x1, x2, x3, (sl T l e2 e4).1] at b7
    omega
  · exact absurd ⟨⟨T, e1, e2⟩, rgi (by omega) e3 e4, ge i e6 e5⟩ g0
  · exact (m1n b5 e5 e6).elim
  · have x1 := nq (by have := sub_lt b2 hus; omega) (by have := sub_lt e2 hus; omega) b1 e1
    have x2 := nq (by omega) (by omega) b3 e3
    have l2 := (List.getElem?_eq_some_iff.mp b6).1
    have l3 := flt_le (slQ T' w) 80
    have x3 := nq (by omega) e6 b5 e5
    rw [hw, x1, x2, x3, (sl T l e2 e4).1] at l2
    omega
  · exact hP _ hI0
theorem K_odds {x y z : Int32} {M : AM} {post : PO} (hI : Inv M) (k : ∀ v M1, Ans S_X5_odds [VR 39, VI x, VI y, VI z] (VI v) M1 → post (some (VI v)) M1) : S_X4_odds [VR 0, VI x, VI y, VI z] M post := by
  have hI0 := hI
  obtain ⟨n, c, p, r, h, lk, L, t, u, hX, hM, hH, hV⟩ := hI
  have i8 : ∀ {q : Nat}, x = nI q → q ≤ 8 → 0 ≤ x ∧ x ≤ 8 := fun e hq => by
    rw [e, show (8 : Int32) = nI 8 from rfl, nI_leI (by omega) (by omega)]
    exact ⟨nI_pos' (by omega), hq⟩
  have i512 : ∀ {q : Nat}, y = nI q → q < 512 → 0 ≤ y ∧ y < 512 := fun e hq => (show 0 ≤ y ∧ y < nI 512 from rgi (by omega) e hq)
  refine ⟨x, y, z, n, c, p, r, h, lk, rfl, hX, fun g0 => k _ _ fun P hP => ⟨x, y, z, n, c, p, r, h, lk, rfl, hM, fun _ => hP _ hI0, fun q row e1 e2 e3 e4 S G hS hG => ?_⟩, fun q row e1 e2 e3 e4 S G hS hG => ?_⟩
  · refine ⟨fun _ hz => ?_, fun _ e6 => ?_, fun _ e6 => ?_⟩
    · exact absurd ⟨i8 e1 e2, i512 e3 e4, hz⟩ g0
    · exact absurd ⟨i8 e1 e2, i512 e3 e4, Or.inl e6⟩ g0
    · exact absurd ⟨i8 e1 e2, i512 e3 e4, Or.inr e6⟩ g0
  · have main : ∀ v, (z = 0 ∨ z = 1) → (G = 0 → v = z) → (G ≠ 0 → z = 0 → v = nI (G / Nat.gcd G S)) → (G ≠ 0 → z = 1 → v = nI (S / Nat.gcd G S)) → Ans S_X5_odds [VR 39, VI x, VI y, VI z] (VI v) M := by
      intro v hz v0 v1 v2 P hP
      refine ⟨x, y, z, n, c, p, r, h, lk, rfl, hM, fun g0 => absurd ⟨i8 e1 e2, i512 e3 e4, hz⟩ g0, fun q' row' b1 b2 b3 b4 S' G' hS' hG' => ?_⟩
      have x1 := nq (by omega) (by omega) b1 e1
      have x2 := nq (by omega) (by omega) b3 e3
      rw [x1] at hS' hG'
      rw [x2] at hG'
      rw [← hS] at hS'
      rw [← hG] at hG'
      rw [hS', hG']
      exact ⟨fun e _ => by rw [← v0 e]; exact hP _ hI0, fun e e2 => by rw [← v1 e e2]; exact hP _ hI0, fun e e2 => by rw [← v2 e e2]; exact hP _ hI0⟩
    have hGS : G ≤ S := by rw [hS, hG]; exact oG_le r n (us h n) q row (us h n + 1)
    refine ⟨fun e5 e6 => k _ _ (main 0 (Or.inl e6) (fun _ => e6.symm) (fun e => absurd e (by omega)) (fun e => absurd e (by omega))), fun e5 e6 => k _ _ (main 1 (Or.inr e6) (fun _ => e6.symm) (fun e => absurd e (by omega)) (fun e => absurd e (by omega))), fun e5 e6 => k _ _ (main _ (Or.inl e6) (fun e => ?_) (fun _ _ => rfl) (fun _ e7 => (no01 e6 e7).elim)), fun e5 e6 => k _ _ (main _ (Or.inr e6) (fun e => ?_) (fun _ e7 => (no01 e7 e6).elim) (fun _ _ => rfl))⟩
    · rw [e, e6, Nat.zero_div]; rfl
    · rw [e, e6, Nat.gcd_zero_left, Nat.div_self (by omega)]; rfl
theorem K_rate {y x : Int32} {M : AM} {post : PO} (hI : Inv M) (k : ∀ v M1, Ans S_X5_rate [VR 39, VI y, VI x] (VI v) M1 → post (some (VI v)) M1) : S_X4_rate [VR 0, VI y, VI x] M post := by
  have hI0 := hI
  obtain ⟨n, c, p, r, h, lk, L, t, u, hX, hM, hH, hu, hCH, hTX, hTT, hi1, hi2, htr⟩ := hI
  have hp4 := hX.2.2.2.2.2.1
  have r6 : ∀ {q : Nat}, y = nI q → q < 6 → 0 ≤ y ∧ y < 6 := fun e hq => (show 0 ≤ y ∧ y < nI 6 from rgi (by omega) e hq)
  refine ⟨y, x, n, c, p, r, h, lk, rfl, hX, fun g0 => k _ _ fun P hP => ⟨y, x, n, c, p, r, h, lk, rfl, hM, hH, fun _ => hP _ hI0, fun q a e1 e2 e3 e4 f => ?_⟩, fun q a e1 e2 e3 e4 f _ => k _ _ fun P hP => ⟨y, x, n, c, p, r, h, lk, rfl, MW_of hM rfl rfl, hH, fun g0 => ?_, fun q' a' b1 b2 b3 b4 f' => ?_⟩⟩
  · exact absurd ⟨rgi (by omega) e3 e4, r6 e1 e2⟩ g0
  · exact absurd ⟨rgi (by omega) e3 e4, r6 e1 e2⟩ g0
  · rw [nq (by omega) (by omega) b1 e1]
    refine hP _ (Inv_A ?_ rfl f')
    refine ⟨n, c, p, r, h, lk, L, t, u, XW_of hX rfl rfl rfl rfl rfl rfl, MW_of hM rfl rfl, hH, hu, hCH, hTX, hTT, hi1, hi2, ?_⟩
    dsimp only [rdI1, rdI2, rdA1, rdA21, rdA22, rdL1, rdL22, rdL21, upN_at, Nat.reduceAdd, Nat.reduceSub]
    rw [htr]
theorem K_trace {M : AM} {post : PO} (hI : Inv M) (k : ∀ v M1, Ans S_X5_trace [VR 39] (VL v) M1 → post (some (VL v)) M1) : S_X4_trace [VR 0] M post := by
  have hI0 := hI
  obtain ⟨n, c, p, r, h, lk, L, t, u, hX, hM, hH, hu, hCH, hTX, hTT, hi1, hi2, htr⟩ := hI
  exact ⟨rfl, k _ _ fun P hP => ⟨rfl, by rw [← htr]; exact hP _ hI0⟩⟩
theorem K_count {x : Int32} {M : AM} {post : PO} (hI : Inv M) (k : ∀ v M1, Ans S_X5_count [VR 39, VI x] (VI v) M1 → post (some (VI v)) M1) : S_X4_count [VR 0, VI x] M post := by
  have hI0 := hI
  obtain ⟨n, c, p, r, h, lk, L, t, u, hX, hM, hH, hu, hCH, hTX, hTT, hi1, hi2, htr⟩ := hI
  have hS : ∀ v, (x = 0 → v = nI n) → (x = 1 → v = nI c) → (x = 2 → v = nI p) → (x = 3 → v = nI (cn (kB h n (-4)) 9)) → (x = 4 → v = nI (cn (kB h n (-3)) 9)) → (x = 5 → v = M.1 10) → (x = 6 → v = M.1 0) → (¬ (0 ≤ x ∧ x < 7) → v = -1) → Ans S_X5_count [VR 39, VI x] (VI v) M := by
    intro v a0 a1 a2 a3 a4 a5 a6 a7 P hP
    exact ⟨x, n, c, p, r, h, lk, rfl, hM, fun e => by rw [← a0 e]; exact hP _ hI0, fun e => by rw [← a1 e]; exact hP _ hI0, fun e => by rw [← a2 e]; exact hP _ hI0, fun e => by rw [← a3 e]; exact hP _ hI0, fun e => by rw [← a4 e]; exact hP _ hI0, fun e => by rw [hu.2.1, ← hu.1, ← a5 e]; exact hP _ hI0, fun e => by rw [hTT.1, ← hTX.1, ← a6 e]; exact hP _ hI0, fun e => by rw [← a7 e]; exact hP _ hI0⟩
  have nx : ∀ {a b : Int32}, x = a → x = b → ¬ a = b → False := fun e1 e2 e3 => e3 (e1.symm.trans e2)
  have in7 : ∀ (a : Int32), x = a → (0 ≤ a ∧ a < 7) → ¬ (0 ≤ x ∧ x < 7) → False := fun a e1 e2 e3 => e3 (by rw [e1]; exact e2)
  refine ⟨x, n, c, p, r, h, lk, rfl, hX, fun e => k _ _ (hS _ ?_ ?_ ?_ ?_ ?_ ?_ ?_ ?_), fun e => k _ _ (hS _ ?_ ?_ ?_ ?_ ?_ ?_ ?_ ?_), fun e => k _ _ (hS _ ?_ ?_ ?_ ?_ ?_ ?_ ?_ ?_), fun e => k _ _ (hS _ ?_ ?_ ?_ ?_ ?_ ?_ ?_ ?_), fun e => k _ _ (hS _ ?_ ?_ ?_ ?_ ?_ ?_ ?_ ?_), fun e => k _ _ (hS _ ?_ ?_ ?_ ?_ ?_ ?_ ?_ ?_), fun e => k _ _ (hS _ ?_ ?_ ?_ ?_ ?_ ?_ ?_ ?_), fun e => k _ _ (hS _ ?_ ?_ ?_ ?_ ?_ ?_ ?_ ?_)⟩
  all_goals first
    | exact fun _ => rfl
    | exact fun e2 => (nx e e2 (by decide)).elim
    | exact fun e2 => (in7 _ e (by decide) e2).elim
    | exact fun e2 => (in7 _ e2 (by decide) e).elim
