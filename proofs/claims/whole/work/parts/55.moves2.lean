/-! Keys cut, given, lost, forged, undone; images. -/
theorem c511 {x : Int32} : (0 ≤ x ∧ x < 512) ↔ (0 ≤ x ∧ x ≤ 511) := by
  rw [Int32.lt_iff_toInt_lt, Int32.le_iff_toInt_le, Int32.le_iff_toInt_le]
  have a1 : (512 : Int32).toInt = 512 := by decide
  have a2 : (511 : Int32).toInt = 511 := by decide
  omega
theorem c98 {x : Int32} : (0 ≤ x ∧ x < 9) ↔ (0 ≤ x ∧ x ≤ 8) := by
  rw [Int32.lt_iff_toInt_lt, Int32.le_iff_toInt_le, Int32.le_iff_toInt_le]
  have a1 : (9 : Int32).toInt = 9 := by decide
  have a2 : (8 : Int32).toInt = 8 := by decide
  omega
theorem K_cut {x : Int32} {M : AM} {post : PO} (hI : Inv M) (k : ∀ w M1, Ans S_X5_cut [VR 39, VI x] (VI w) M1 → post (some (VI w)) M1) : S_X4_cut [VR 0, VI x] M post := by
  have hI0 := hI
  obtain ⟨n, c, p, r, h, lk, L, t, u, hV⟩ := hI
  have hW := IV_RW hV
  obtain ⟨hX, hM, hH, hu, hCH, hTX, hTT, hi1, hi2, htr⟩ := id hV
  have hn8 := hX.2.1
  refine ⟨x, n, u, rfl, hX.1, hn8, hu.1, hu.2.2, fun g => k _ _ fun P hP => ⟨x, n, u, rfl, hM.1, hn8, hu.2.1, hu.2.2, fun _ => hP _ hI0, fun g2 => absurd (c511.mpr g2) g, fun g2 => absurd (c511.mpr g2) g⟩, fun g e => k _ _ fun P hP => ⟨x, n, u, rfl, hM.1, hn8, hu.2.1, hu.2.2, fun g2 => absurd (c511.mp g) g2, fun _ _ => hP _ hI0, fun _ e2 => absurd e (by omega)⟩, fun g e => ?_⟩
  rw [rem_eq M hu.2.2 n]
  refine k _ _ fun P hP => ⟨x, n, u, rfl, hM.1, hn8, hu.2.1, hu.2.2, fun g2 => absurd (c511.mp g) g2, fun _ e2 => absurd e (by omega), fun _ _ => ?_⟩
  obtain ⟨row, rfl, hrow⟩ := rg (x := x) (n := 512) (by omega) g
  refine hP _ ⟨n + 1, c, p, fun j => if j = n then row else r j, fun j => if j = n then -4 else h j, lk, L, t, ru u + 1, IV_ring hV (RW_push hW (k := n) (x := 0) (z := 0) (n2 := n + 1) (s2 := upd (upd (upd (M.2.2 33) (1 + n) (nI row)) (9 + n) (-4)) 0 (nI (n + 1))) (g2 := upd (M.2.2 2) n (nI row)) (g3 := upd (M.2.2 3) n (-4)) (r2 := fun j => if j = n then row else r j) (h2 := fun j => if j = n then -4 else h j) rfl (by omega) ?_ (fun j hj => ?_) (fun j hj => ?_) (fun j hj => ?_) (fun j hj => ?_) ⟨by omega, hn8, fun j hj => (hX.2.2.2.2.2.2.1 j hj).2, hH, rfl, rfl, rfl, Or.inl ⟨rfl, rfl, rfl, fun j hj => ?_⟩⟩) (fun i _ h9 h10 => by simp only [apn, o4, rdA1, rdI1]; simp (disch := omega) only [upN_n]) rfl (fun a _ h27 h33 => by simp only [apn, o4, rdA22, rdI2]; simp (disch := omega) only [upN_n])⟩
  · rw [upd_s]
  · by_cases q : j = n
    · subst q
      rw [if_pos rfl, upd_s, upd_n _ _ (by omega), upd_n _ _ (by omega), upd_s]
      exact ⟨rfl, rfl, hrow⟩
    · rw [if_neg q, upd_n _ _ q, upd_n _ _ (by omega), upd_n _ _ (by omega), upd_n _ _ (by omega)]
      obtain ⟨w1, w2, w3⟩ := hW.2.2.2.2.2.2.1 j (by omega)
      exact ⟨w1, w2, w3⟩
  · by_cases q : j = n
    · subst q
      rw [if_pos rfl, upd_s, upd_n _ _ (by omega), upd_s]
      exact ⟨rfl, rfl⟩
    · rw [if_neg q, upd_n _ _ q, upd_n _ _ (by omega), upd_n _ _ (by omega), upd_n _ _ (by omega)]
      exact hW.2.2.2.2.2.2.2.1 j (by omega)
  · by_cases q : j = n
    · exact Or.inl (by dsimp only; rw [if_pos q]; decide)
    · dsimp only; rw [if_neg q]; exact hH j (by omega)
  · rw [upd_n _ _ (by omega), upd_n _ _ (by omega), upd_n _ _ (by omega)]
  · dsimp only; rw [if_neg (by omega), if_neg (by omega)]; exact ⟨rfl, rfl⟩
/-- a key comes to y -/
theorem IV_move {M : AM} {n c p : Nat} {r : Nat → Nat} {h : Nat → Int32} {lk : Nat → Nat} {L : Nat} {t : Nat → Nat} {u : Nat} (hV : IV M n c p r h lk L t u) {k : Nat} (hk : k < n) {y : Int32} (hy : y < 0 ∨ ∃ q, q < p ∧ y = nI q) : Inv (sA 33 (ac3 (upd (M.2.2 33) (9 + k) y) u 1 (nI k) (h k)) (sA 3 (upd (M.2.2 3) k y) (sI 10 (nI (ru u + 1)) (o4 4 (rq (M.2.2 4) u (M.1 9)) (rq (M.2.2 5) u (nI k)) (rq (M.2.2 6) u (M.2.2 2 k)) (rq (M.2.2 7) u (M.2.2 3 k)) M)))) := by
  have hW := IV_RW hV
  obtain ⟨hX, hM, hH, hu, hCH, hTX, hTT, hi1, hi2, htr⟩ := id hV
  have hn8 := hX.2.1
  have w7 := hW.2.2.2.2.2.2.1
  have w8 := hW.2.2.2.2.2.2.2.1
  refine ⟨n, c, p, r, upd h k y, lk, L, t, ru u + 1, IV_ring hV (RW_push hW (k := k) (x := 1) (z := h k) (n2 := n) (sz2 := M.1 9) (s2 := upd (M.2.2 33) (9 + k) y) (g2 := M.2.2 2) (g3 := upd (M.2.2 3) k y) (r2 := r) (h2 := upd h k y) hX.1 hn8 ?_ (fun j hj => ?_) (fun j hj => ?_) (fun j hj => ?_) (fun j hj => upd_n _ _ (by omega)) ⟨by omega, hn8, fun j hj => (w7 j hj).2.2, hH, rfl, rfl, rfl, Or.inr (Or.inl ⟨rfl, rfl, hk, fun _ _ => rfl, fun j _ hjk => (upd_n _ _ hjk).symm, rfl, (w7 k hk).1, (w8 k hk).1⟩)⟩) (fun i _ h9 h10 => by simp only [o4, rdA1, rdI1]; simp (disch := omega) only [upN_n]) rfl (fun a _ h27 h33 => by simp only [o4, rdA22, rdI2]; simp (disch := omega) only [upN_n])⟩
  · rw [upd_n _ _ (by omega)]; exact hM.1
  · rw [upd_n _ _ (by omega)]; exact w7 j hj
  · by_cases q : j = k
    · subst q
      rw [upd_s, upd_s, upd_s]; exact ⟨rfl, rfl⟩
    · rw [upd_n _ _ q, upd_n _ _ q, upd_n _ _ (by omega)]; exact w8 j hj
  · by_cases q : j = k
    · subst q
      rw [upd_s]; exact hy
    · rw [upd_n _ _ q]; exact hH j hj
theorem K_give {x y : Int32} {M : AM} {post : PO} (hI : Inv M) (k : ∀ w M1, Ans S_X5_give [VR 39, VI x, VI y] (VI w) M1 → post (some (VI w)) M1) : S_X4_give [VR 0, VI x, VI y] M post := by
  have hI0 := hI
  obtain ⟨n, c, p, r, h, lk, L, t, u, hV⟩ := hI
  obtain ⟨hX, hM, hH, hu, hCH, hTX, hTT, hi1, hi2, htr⟩ := id hV
  have hn8 := hX.2.1
  have hp4 := hX.2.2.2.2.2.1
  have w8 : ∀ j, j < n → M.2.2 3 j = h j := hX.2.2.2.2.2.2.2.1
  refine ⟨x, y, n, p, u, rfl, hX.1, hn8, hX.2.2.2.2.1, hp4, hu.1, hu.2.2, fun g => k _ _ fun P hP => ⟨x, y, n, c, p, r, h, lk, u, rfl, hM, hu.2.1, hu.2.2, fun _ => hP _ hI0, fun q e1 e2 e3 _ => absurd ⟨rgi (by omega) e1 e2, e3⟩ g, fun q e1 e2 e3 _ => absurd ⟨rgi (by omega) e1 e2, e3⟩ g⟩, fun q e1 e2 e3 e4 => k _ _ fun P hP => ⟨x, y, n, c, p, r, h, lk, u, rfl, hM, hu.2.1, hu.2.2, fun g => absurd ⟨rgi (by omega) e1 e2, e3⟩ g, fun q' b1 b2 b3 b4 => hP _ hI0, fun q' b1 b2 b3 b4 => ?_⟩, fun q e1 e2 e3 e4 => ?_⟩
  · rw [nq (by omega) (by omega) b1 e1, ← w8 q e2] at b4
    exact absurd e4 b4
  · rw [rem_eq M hu.2.2 q]
    refine k _ _ fun P hP => ⟨x, y, n, c, p, r, h, lk, u, rfl, MW_of hM rfl rfl, hu.2.1, hu.2.2, fun g => absurd ⟨rgi (by omega) e1 e2, e3⟩ g, fun q' b1 b2 b3 b4 => ?_, fun q' b1 b2 b3 b4 => ?_⟩
    · rw [nq (by omega) (by omega) b1 e1, ← w8 q e2] at b4
      exact absurd b4 e4
    · rw [nq (by omega) (by omega) b1 e1, ← w8 q e2]
      refine hP _ ?_
      have hy : y < 0 ∨ ∃ a, a < p ∧ y = nI a := by
        rcases e3 with e3 | e3
        · exact Or.inl (by rw [e3]; decide)
        · obtain ⟨a, b, b'⟩ := rg (by omega) e3
          exact Or.inr ⟨a, b', b⟩
      have hz := IV_move hV e2 hy
      rw [← w8 q e2] at hz
      exact hz
theorem K_lose {x : Int32} {M : AM} {post : PO} (hI : Inv M) (k : ∀ w M1, Ans S_X5_lose [VR 39, VI x] (VI w) M1 → post (some (VI w)) M1) : S_X4_lose [VR 0, VI x] M post := by
  have hI0 := hI
  obtain ⟨n, c, p, r, h, lk, L, t, u, hV⟩ := hI
  obtain ⟨hX, hM, hH, hu, hCH, hTX, hTT, hi1, hi2, htr⟩ := id hV
  have hn8 := hX.2.1
  have w8 : ∀ j, j < n → M.2.2 3 j = h j := hX.2.2.2.2.2.2.2.1
  refine ⟨x, n, u, rfl, hX.1, hn8, hu.1, hu.2.2, fun g => k _ _ fun P hP => ⟨x, n, c, p, r, h, lk, u, rfl, hM, hu.2.1, hu.2.2, fun _ => hP _ hI0, fun q e1 e2 _ => absurd (rgi (by omega) e1 e2) g, fun q e1 e2 _ => absurd (rgi (by omega) e1 e2) g⟩, fun q e1 e2 e4 => k _ _ fun P hP => ⟨x, n, c, p, r, h, lk, u, rfl, hM, hu.2.1, hu.2.2, fun g => absurd (rgi (by omega) e1 e2) g, fun q' b1 b2 b4 => hP _ hI0, fun q' b1 b2 b4 => ?_⟩, fun q e1 e2 e4 => ?_⟩
  · rw [nq (by omega) (by omega) b1 e1, ← w8 q e2] at b4
    exact absurd e4 b4
  · rw [rem_eq M hu.2.2 q]
    refine k _ _ fun P hP => ⟨x, n, c, p, r, h, lk, u, rfl, MW_of hM rfl rfl, hu.2.1, hu.2.2, fun g => absurd (rgi (by omega) e1 e2) g, fun q' b1 b2 b4 => ?_, fun q' b1 b2 b4 => ?_⟩
    · rw [nq (by omega) (by omega) b1 e1, ← w8 q e2] at b4
      exact absurd b4 e4
    · rw [nq (by omega) (by omega) b1 e1, ← w8 q e2]
      refine hP _ ?_
      have hz := IV_move hV e2 (y := -3) (Or.inl (by decide))
      rw [← w8 q e2] at hz
      exact hz
theorem K_forge {x y : Int32} {M : AM} {post : PO} (hI : Inv M) (k : ∀ w M1, Ans S_X5_forge [VR 39, VI x, VI y] (VI w) M1 → post (some (VI w)) M1) : S_X4_forge [VR 0, VI x, VI y] M post := by
  have hI0 := hI
  obtain ⟨n, c, p, r, h, lk, L, t, u, hV⟩ := hI
  have hW := IV_RW hV
  obtain ⟨hX, hM, hH, hu, hCH, hTX, hTT, hi1, hi2, htr⟩ := id hV
  have hn8 := hX.2.1
  have w7 := hW.2.2.2.2.2.2.1
  have w8 := hW.2.2.2.2.2.2.2.1
  have i9 : ∀ {a : Nat}, y = nI a → a < 9 → 0 ≤ y ∧ y < 9 := fun e ha => (show 0 ≤ y ∧ y < nI 9 from rgi (by omega) e ha)
  refine ⟨x, y, n, u, rfl, hX.1, hn8, hu.1, hu.2.2, fun g => k _ _ fun P hP => ⟨x, y, n, c, p, r, h, lk, u, rfl, hM, hu.2.1, hu.2.2, fun _ => hP _ hI0, fun q e1 e2 e3 _ => absurd ⟨rgi (by omega) e1 e2, c98.mpr e3⟩ g, fun q a e1 e2 e3 e4 _ => absurd ⟨rgi (by omega) e1 e2, i9 e3 (by omega)⟩ g⟩, fun q e1 e2 e3 e4 => k _ _ fun P hP => ⟨x, y, n, c, p, r, h, lk, u, rfl, hM, hu.2.1, hu.2.2, fun g => absurd ⟨rgi (by omega) e1 e2, c98.mp e3⟩ g, fun q' b1 b2 b3 b4 => hP _ hI0, fun q' a b1 b2 b3 b4 b5 => ?_⟩, fun q a e1 e2 e3 e4 e5 => ?_⟩
  · rw [nq (by omega) (by omega) b1 e1, ← (w8 q e2).1] at b5
    exact absurd e4 b5
  · rw [rem_eq M hu.2.2 q, show M.2.2 2 q ^^^ nI (2 ^ a) = nI (r q ^^^ 2 ^ a) by rw [(w7 q e2).1, nI_xor]]
    refine k _ _ fun P hP => ⟨x, y, n, c, p, r, h, lk, u, rfl, MW_of hM rfl rfl, hu.2.1, hu.2.2, fun g => absurd ⟨rgi (by omega) e1 e2, c98.mp (i9 e3 e4)⟩ g, fun q' b1 b2 b3 b4 => ?_, fun q' a' b1 b2 b3 b4 b5 => ?_⟩
    · rw [nq (by omega) (by omega) b1 e1, ← (w8 q e2).1] at b4
      exact absurd b4 e5
    · rw [nq (by omega) (by omega) b1 e1, nq (by omega) (by omega) b3 e3]
      have hxl : r q ^^^ 2 ^ a < 512 := Nat.xor_lt_two_pow (n := 9) (w7 q e2).2.2 (n2p (by omega))
      refine hP _ ⟨n, c, p, fun j => if j = q then r q ^^^ 2 ^ a else r j, h, lk, L, t, ru u + 1, IV_ring hV (RW_push hW (k := q) (x := 2) (z := nI a) (n2 := n) (sz2 := M.1 9) (s2 := upd (M.2.2 33) (1 + q) (nI (r q ^^^ 2 ^ a))) (g2 := upd (M.2.2 2) q (nI (r q ^^^ 2 ^ a))) (g3 := M.2.2 3) (r2 := fun j => if j = q then r q ^^^ 2 ^ a else r j) (h2 := h) hX.1 hn8 ?_ (fun j hj => ?_) (fun j hj => ?_) hH (fun j hj => upd_n _ _ (by omega)) ⟨by omega, hn8, fun j hj => (w7 j hj).2.2, hH, rfl, rfl, rfl, Or.inr (Or.inr ⟨rfl, rfl, e2, fun _ _ => rfl, fun j _ hjk => (if_neg hjk).symm, a, by omega, rfl, if_pos rfl, (w7 q e2).1, (w8 q e2).1⟩)⟩) (fun i _ h9 h10 => by simp only [o4, rdA1, rdI1]; simp (disch := omega) only [upN_n]) rfl (fun b _ h27 h33 => by simp only [o4, rdA22, rdI2]; simp (disch := omega) only [upN_n])⟩
      · rw [upd_n _ _ (by omega)]; exact hM.1
      · by_cases g : j = q
        · subst g
          rw [if_pos rfl, upd_s, upd_s]; exact ⟨rfl, rfl, hxl⟩
        · rw [if_neg g, upd_n _ _ g, upd_n _ _ (by omega)]; exact w7 j hj
      · rw [upd_n _ _ (by omega)]; exact w8 j hj
