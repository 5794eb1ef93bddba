/-! Undone; images kept and taken back. -/
theorem K_undo {M : AM} {post : PO} (hI : Inv M) (k : ∀ w M1, Ans S_X5_undo [VR 39] (VI w) M1 → post (some (VI w)) M1) : S_X4_undo [VR 0] M post := by
  have hI0 := hI
  obtain ⟨n, c, p, r, h, lk, L, t, u, hV⟩ := hI
  have hW := IV_RW hV
  obtain ⟨hX, hM, hH, hu, hCH, hTX, hTT, hi1, hi2, htr⟩ := id hV
  have hn8 := hX.2.1
  have w7 := hW.2.2.2.2.2.2.1
  have w8 := hW.2.2.2.2.2.2.2.1
  refine ⟨u, rfl, hu.1, hu.2.2, fun e => k _ _ fun P hP => ⟨u, rfl, hu.2.1, hu.2.2, fun _ => hP _ hI0, fun v e2 => absurd e (by omega)⟩, fun v e => ?_⟩
  subst e
  rw [CH_s] at hCH
  obtain ⟨n', r', h', kk, ⟨c1, c2, c3, c4, c5, c6, c7, c8⟩, hc⟩ := hCH
  refine ⟨kk, c6, c1, k _ _ fun P hP => ⟨v + 1, rfl, hu.2.1, hu.2.2, fun e => absurd e (by omega), fun v' e => ?_⟩⟩
  have ev : v' = v := by omega
  subst ev
  have hC : ∀ s', (∀ j, 18 ≤ j → s' j = M.2.2 33 j) → CH (M.2.2 4) (M.2.2 5) (M.2.2 6) (M.2.2 7) s' p v' n' r' h' := fun s' hs => CH_cg v' n' r' h' (fun j _ => ⟨rfl, rfl, rfl, rfl⟩) (fun j hj _ => hs j hj) hc
  refine ⟨kk, c7, c1, fun g => ?_, fun g => ?_, fun g g' => ?_⟩
  · have g : M.2.2 33 (18 + 3 * v') = 0 := g
    rcases c8 with ⟨d1, d2, d3, d4⟩ | ⟨d1, _⟩ | ⟨d1, _⟩
    · refine hP _ ⟨n', c, p, r', h', lk, L, t, v', IV_ring hV ⟨c5, c2, rfl, by omega, ?_, ?_, fun j hj => ?_, fun j hj => ?_, c4, hC _ fun j hj => ?_⟩ (fun i _ h9 h10 => by simp only [rdA1, rdI1]; simp (disch := omega) only [upN_n]) rfl (fun b _ h27 h33 => by simp only [rdA22, rdI2]; simp (disch := omega) only [upN_n])⟩
      · show upd (upd (M.2.2 33) 17 (nI v')) 0 (M.2.2 33 0 - 1) 0 = nI n'
        rw [upd_s, hM.1, d2]
        exact pk_sub (a := n' + 1) (b := 1) (by omega)
      · show upd (upd (M.2.2 33) 17 (nI v')) 0 (M.2.2 33 0 - 1) 17 = nI v'
        rw [upd_n _ _ (by omega), upd_s]
      · show upd (M.2.2 2) kk (M.2.2 6 v') j = nI (r' j) ∧ upd (upd (M.2.2 33) 17 (nI v')) 0 (M.2.2 33 0 - 1) (1 + j) = nI (r' j) ∧ r' j < 512
        rw [upd_n _ _ (by omega), upd_n _ _ (by omega), upd_n _ _ (by omega), (d4 j hj).1]
        exact w7 j (by omega)
      · show upd (M.2.2 3) kk (M.2.2 7 v') j = h' j ∧ upd (upd (M.2.2 33) 17 (nI v')) 0 (M.2.2 33 0 - 1) (9 + j) = h' j
        rw [upd_n _ _ (by omega), upd_n _ _ (by omega), upd_n _ _ (by omega), (d4 j hj).2]
        exact w8 j (by omega)
      · show upd (upd (M.2.2 33) 17 (nI v')) 0 (M.2.2 33 0 - 1) j = M.2.2 33 j
        rw [upd_n _ _ (by omega), upd_n _ _ (by omega)]
    · rw [g] at d1; exact absurd d1 (by decide)
    · rw [g] at d1; exact absurd d1 (by decide)
  · have g : M.2.2 33 (18 + 3 * v') = 1 := g
    rcases c8 with ⟨d1, _⟩ | ⟨d1, d2, d3, d4, d5, d6, d7, d8⟩ | ⟨d1, _⟩
    · rw [g] at d1; exact absurd d1 (by decide)
    · refine hP _ ⟨n', c, p, r', h', lk, L, t, v', IV_ring hV ⟨c5, c2, rfl, by omega, ?_, ?_, fun j hj => ?_, fun j hj => ?_, c4, hC _ fun j hj => ?_⟩ (fun i _ h9 h10 => by simp only [rdA1, rdI1]; simp (disch := omega) only [upN_n]) rfl (fun b _ h27 h33 => by simp only [rdA22, rdI2]; simp (disch := omega) only [upN_n])⟩
      · show upd (upd (M.2.2 33) 17 (nI v')) (9 + kk) (M.2.2 33 (18 + 3 * v' + 2)) 0 = nI n'
        rw [upd_n _ _ (by omega), upd_n _ _ (by omega), hM.1, d2]
      · show upd (upd (M.2.2 33) 17 (nI v')) (9 + kk) (M.2.2 33 (18 + 3 * v' + 2)) 17 = nI v'
        rw [upd_n _ _ (by omega), upd_s]
      · show upd (M.2.2 2) kk (M.2.2 6 v') j = nI (r' j) ∧ upd (upd (M.2.2 33) 17 (nI v')) (9 + kk) (M.2.2 33 (18 + 3 * v' + 2)) (1 + j) = nI (r' j) ∧ r' j < 512
        rw [upd_n _ _ (show 1 + j ≠ 9 + kk by omega), upd_n _ _ (show 1 + j ≠ 17 by omega)]
        obtain ⟨x1, x2, x3⟩ := w7 j (by omega)
        have e4 := d4 j (by omega)
        rw [← e4] at x1 x2 x3
        refine ⟨?_, x2, x3⟩
        by_cases q : j = kk
        · rw [q, upd_s, d7]
        · rw [upd_n _ _ q]; exact x1
      · show upd (M.2.2 3) kk (M.2.2 7 v') j = h' j ∧ upd (upd (M.2.2 33) 17 (nI v')) (9 + kk) (M.2.2 33 (18 + 3 * v' + 2)) (9 + j) = h' j
        by_cases q : j = kk
        · subst q
          rw [upd_s, upd_s, d8, d6]; exact ⟨rfl, rfl⟩
        · rw [upd_n _ _ q, upd_n _ _ (by omega), upd_n _ _ (by omega), d5 j (by omega) q]
          exact w8 j (by omega)
      · show upd (upd (M.2.2 33) 17 (nI v')) (9 + kk) (M.2.2 33 (18 + 3 * v' + 2)) j = M.2.2 33 j
        rw [upd_n _ _ (by omega), upd_n _ _ (by omega)]
    · rw [g] at d1; exact absurd d1 (by decide)
  · have g : ¬ M.2.2 33 (18 + 3 * v') = 0 := g
    have g' : ¬ M.2.2 33 (18 + 3 * v') = 1 := g'
    rcases c8 with ⟨d1, _⟩ | ⟨d1, _⟩ | ⟨d1, d2, d3, d4, d5, a, d6, d7, d8, d9, d10⟩
    · exact absurd d1 g
    · exact absurd d1 g'
    · have ex : M.2.2 33 (1 + kk) ^^^ (1 : Int32) <<< (M.2.2 33 (18 + 3 * v' + 2) &&& 31) = nI (r' kk) := by
        rw [d7, one_shl (by omega), (w7 kk d3).2.1, d8, nI_xor, Nat.xor_assoc, Nat.xor_self, Nat.xor_zero]
      have e0 : (sI 9 (M.2.2 4 v') (sA 3 (upd (M.2.2 3) kk (M.2.2 7 v')) (sA 2 (upd (M.2.2 2) kk (M.2.2 6 v')) (sI 10 (nI v') M)))).2.2 33 = M.2.2 33 := rfl
      rw [e0, ex]
      refine hP _ ⟨n', c, p, r', h', lk, L, t, v', IV_ring hV ⟨c5, c2, rfl, by omega, ?_, ?_, fun j hj => ?_, fun j hj => ?_, c4, hC _ fun j hj => ?_⟩ (fun i _ h9 h10 => by simp only [rdA1, rdI1]; simp (disch := omega) only [upN_n]) rfl (fun b _ h27 h33 => by simp only [rdA22, rdI2]; simp (disch := omega) only [upN_n])⟩
      · show upd (upd (M.2.2 33) 17 (nI v')) (1 + kk) (nI (r' kk)) 0 = nI n'
        rw [upd_n _ _ (by omega), upd_n _ _ (by omega), hM.1, d2]
      · show upd (upd (M.2.2 33) 17 (nI v')) (1 + kk) (nI (r' kk)) 17 = nI v'
        rw [upd_n _ _ (by omega), upd_s]
      · show upd (M.2.2 2) kk (M.2.2 6 v') j = nI (r' j) ∧ upd (upd (M.2.2 33) 17 (nI v')) (1 + kk) (nI (r' kk)) (1 + j) = nI (r' j) ∧ r' j < 512
        by_cases q : j = kk
        · subst q
          rw [upd_s, upd_s, d9]; exact ⟨rfl, rfl, c3 j hj⟩
        · rw [upd_n _ _ q, upd_n _ _ (by omega), upd_n _ _ (by omega), d5 j (by omega) q]
          exact w7 j (by omega)
      · show upd (M.2.2 3) kk (M.2.2 7 v') j = h' j ∧ upd (upd (M.2.2 33) 17 (nI v')) (1 + kk) (nI (r' kk)) (9 + j) = h' j
        rw [upd_n _ _ (show 9 + j ≠ 1 + kk by omega), upd_n _ _ (show 9 + j ≠ 17 by omega)]
        obtain ⟨x1, x2⟩ := w8 j (by omega)
        rw [← d4 j (by omega)] at x1 x2
        refine ⟨?_, x2⟩
        by_cases q : j = kk
        · rw [q, upd_s, d10]
        · rw [upd_n _ _ q]; exact x1
      · show upd (upd (M.2.2 33) 17 (nI v')) (1 + kk) (nI (r' kk)) j = M.2.2 33 j
        rw [upd_n _ _ (by omega), upd_n _ _ (by omega)]
theorem cpy_lt {f g : Nat → Int32} {m j : Nat} (h : j < m) : cpy f g m j = g j := by unfold cpy; rw [if_pos h]
theorem IM_cg {kp sz kn kf : Int32} {f2 f3 f4 f5 f6 f7 s s' : Nat → Int32} {p : Nat} (h : IM kp sz kn kf f2 f3 f4 f5 f6 f7 s p) (hs : ∀ j, j < 48 → s' j = s j) : IM kp sz kn kf f2 f3 f4 f5 f6 f7 s' p := by
  rcases h with h | ⟨h1, h2, n, u, r, hh, hW⟩
  · exact Or.inl h
  · exact Or.inr ⟨h1, h2, n, u, r, hh, RW_cg hW (fun _ _ => ⟨rfl, rfl⟩) (fun _ _ => ⟨rfl, rfl, rfl, rfl⟩) hs⟩
theorem K_keep {x : Int32} {M : AM} {post : PO} (hI : Inv M) (k : ∀ w M1, Ans S_X5_keep [VR 39, VI x] (VI w) M1 → post (some (VI w)) M1) : S_X4_keep [VR 0, VI x] M post := by
  have hI0 := hI
  obtain ⟨n, c, p, r, h, lk, L, t, u, hV⟩ := hI
  have hW := IV_RW hV
  obtain ⟨hX, hM, hH, hu, hCH, hTX, hTT, hi1, hi2, htr⟩ := id hV
  have n9 : M.1 9 = M.2.2 33 0 := hX.1.trans hM.1.symm
  refine ⟨x, rfl, fun g => k _ _ fun P hP => ⟨x, rfl, fun _ => hP _ hI0, fun e e1 e2 => ?_⟩, fun g => k _ _ fun P hP => ⟨x, rfl, fun g2 => absurd (Or.inl g) g2, fun e e1 e2 => ?_⟩, fun g => k _ _ fun P hP => ⟨x, rfl, fun g2 => absurd (Or.inr g) g2, fun e e1 e2 => ?_⟩⟩
  · rcases (by omega : e = 0 ∨ e = 1) with rfl | rfl
    · exact absurd (Or.inl e2) g
    · exact absurd (Or.inr e2) g
  · have e0 : e = 0 := nq (by omega) (by omega) e2 g
    subst e0
    rw [show (sI 21 1 (cpR 17 19 4 9 M)).2.2 33 0 = M.1 9 from n9.symm]
    refine hP _ ⟨n, c, p, r, h, lk, L, t, u, XW_of hX rfl rfl rfl rfl rfl rfl, MW_of hM rfl rfl, hH, hu, hCH, hTX, hTT, Or.inr ⟨rfl, ?_, n, u, r, h, RW_cg hW (fun j hj => ⟨cpy_lt hj, cpy_lt hj⟩) (fun j hj => ⟨cpy_lt hj, cpy_lt hj, cpy_lt hj, cpy_lt hj⟩) (fun j hj => ?_)⟩, ?_, htr⟩
    · show upd (M.2.2 35) 0 1 0 = 1
      rw [upd_s]
    · show cpI (M.2.2 34) (M.2.2 33) 0 48 j = M.2.2 33 j
      unfold cpI
      rw [if_pos (by omega), show j - 48 * 0 = j by omega]
    · have e1 : upd (M.2.2 35) 0 1 1 = M.2.2 35 1 := upd_n _ _ (by omega)
      show IM (M.1 24) (M.1 22) (M.1 23) (upd (M.2.2 35) 0 1 1) (M.2.2 21) (M.2.2 22) (M.2.2 23) (M.2.2 24) (M.2.2 25) (M.2.2 26) (fun j => cpI (M.2.2 34) (M.2.2 33) 0 48 (48 + j)) p
      rw [e1]
      refine IM_cg hi2 fun j _ => ?_
      show cpI (M.2.2 34) (M.2.2 33) 0 48 (48 + j) = M.2.2 34 (48 + j)
      unfold cpI
      rw [if_neg (by omega)]
  · have e0 : e = 1 := nq (by omega) (by omega) e2 g
    subst e0
    rw [show (sI 24 1 (cpR 23 22 4 9 M)).2.2 33 0 = M.1 9 from n9.symm]
    refine hP _ ⟨n, c, p, r, h, lk, L, t, u, XW_of hX rfl rfl rfl rfl rfl rfl, MW_of hM rfl rfl, hH, hu, hCH, hTX, hTT, ?_, Or.inr ⟨rfl, ?_, n, u, r, h, RW_cg hW (fun j hj => ⟨cpy_lt hj, cpy_lt hj⟩) (fun j hj => ⟨cpy_lt hj, cpy_lt hj, cpy_lt hj, cpy_lt hj⟩) (fun j hj => ?_)⟩, htr⟩
    · have e1 : upd (M.2.2 35) 1 1 0 = M.2.2 35 0 := upd_n _ _ (by omega)
      show IM (M.1 21) (M.1 19) (M.1 20) (upd (M.2.2 35) 1 1 0) (M.2.2 15) (M.2.2 16) (M.2.2 17) (M.2.2 18) (M.2.2 19) (M.2.2 20) (cpI (M.2.2 34) (M.2.2 33) 1 48) p
      rw [e1]
      refine IM_cg hi1 fun j _ => ?_
      unfold cpI
      rw [if_neg (by omega)]
    · show upd (M.2.2 35) 1 1 1 = 1
      rw [upd_s]
    · show cpI (M.2.2 34) (M.2.2 33) 1 48 (48 + j) = M.2.2 33 j
      unfold cpI
      rw [if_pos (by omega), show 48 + j - 48 * 1 = j by omega]
theorem K_back {x : Int32} {M : AM} {post : PO} (hI : Inv M) (k : ∀ w M1, Ans S_X5_back [VR 39, VI x] (VI w) M1 → post (some (VI w)) M1) : S_X4_back [VR 0, VI x] M post := by
  have hI0 := hI
  obtain ⟨n, c, p, r, h, lk, L, t, u, hV⟩ := hI
  obtain ⟨hX, hM, hH, hu, hCH, hTX, hTT, hi1, hi2, htr⟩ := id hV
  have z1 : ¬ (1 : Int32) = 0 := by decide
  refine ⟨x, rfl, fun g => k _ _ fun P hP => ⟨x, rfl, fun _ => hP _ hI0, fun e e1 e2 _ => ?_, fun e e1 e2 _ => ?_⟩, fun g g1 => k _ _ fun P hP => ⟨x, rfl, fun g2 => absurd (Or.inl g) g2, fun e e1 e2 _ => hP _ hI0, fun e e1 e2 e3 => ?_⟩, fun g g1 => k _ _ fun P hP => ⟨x, rfl, fun g2 => absurd (Or.inr g) g2, fun e e1 e2 _ => hP _ hI0, fun e e1 e2 e3 => ?_⟩, fun g g1 => ?_, fun g g1 => ?_⟩
  · rcases (by omega : e = 0 ∨ e = 1) with rfl | rfl
    · exact absurd (Or.inl e2) g
    · exact absurd (Or.inr e2) g
  · rcases (by omega : e = 0 ∨ e = 1) with rfl | rfl
    · exact absurd (Or.inl e2) g
    · exact absurd (Or.inr e2) g
  · have e0 : e = 0 := nq (by omega) (by omega) e2 g
    subst e0
    rcases hi1 with h | ⟨h, _⟩
    · exact absurd h.2 e3
    · rw [g1] at h; exact absurd h.symm z1
  · have e0 : e = 1 := nq (by omega) (by omega) e2 g
    subst e0
    rcases hi2 with h | ⟨h, _⟩
    · exact absurd h.2 e3
    · rw [g1] at h; exact absurd h.symm z1
  · rcases hi1 with h | ⟨-, hf, n2, u2, r2, h2, hW⟩
    · exact absurd h.1 g1
    · refine k _ _ fun P hP => ⟨x, rfl, fun g2 => absurd (Or.inl g) g2, fun e e1 e2 e3 => ?_, fun e e1 e2 e3 => ?_⟩
      · have e0 : e = 0 := nq (by omega) (by omega) e2 g
        subst e0
        have e3 : M.2.2 35 0 = 0 := e3
        rw [hf] at e3; exact absurd e3 z1
      · have e0 : e = 0 := nq (by omega) (by omega) e2 g
        subst e0
        have n9 : M.2.2 34 (48 * 0) = M.1 19 := hW.2.2.2.2.1.trans hW.1.symm
        have e4 : (cpR 4 9 17 19 M).2.2 34 (48 * 0) = M.1 19 := n9
        rw [e4]
        refine hP _ ⟨n2, c, p, r2, h2, lk, L, t, u2, IV_ring hV (RW_cg hW (fun j hj => ⟨cpy_lt hj, cpy_lt hj⟩) (fun j hj => ⟨cpy_lt hj, cpy_lt hj, cpy_lt hj, cpy_lt hj⟩) (fun j hj => ?_)) (fun i _ h9 h10 => by simp only [cpR, o4, rdA1, rdI1]; simp (disch := omega) only [upN_n]) rfl (fun b _ h27 h33 => by simp only [cpR, o4, rdA22, rdI2]; simp (disch := omega) only [upN_n])⟩
        show bkI (M.2.2 33) (M.2.2 34) 0 48 j = M.2.2 34 j
        unfold bkI
        rw [if_pos hj, show 48 * 0 + j = j by omega]
  · rcases hi2 with h | ⟨-, hf, n2, u2, r2, h2, hW⟩
    · exact absurd h.1 g1
    · refine k _ _ fun P hP => ⟨x, rfl, fun g2 => absurd (Or.inr g) g2, fun e e1 e2 e3 => ?_, fun e e1 e2 e3 => ?_⟩
      · have e0 : e = 1 := nq (by omega) (by omega) e2 g
        subst e0
        have e3 : M.2.2 35 1 = 0 := e3
        rw [hf] at e3; exact absurd e3 z1
      · have e0 : e = 1 := nq (by omega) (by omega) e2 g
        subst e0
        have n9 : M.2.2 34 (48 * 1) = M.1 22 := hW.2.2.2.2.1.trans hW.1.symm
        have e4 : (cpR 4 9 23 22 M).2.2 34 (48 * 1) = M.1 22 := n9
        rw [e4]
        refine hP _ ⟨n2, c, p, r2, h2, lk, L, t, u2, IV_ring hV (RW_cg hW (fun j hj => ⟨cpy_lt hj, cpy_lt hj⟩) (fun j hj => ⟨cpy_lt hj, cpy_lt hj, cpy_lt hj, cpy_lt hj⟩) (fun j hj => ?_)) (fun i _ h9 h10 => by simp only [cpR, o4, rdA1, rdI1]; simp (disch := omega) only [upN_n]) rfl (fun b _ h27 h33 => by simp only [cpR, o4, rdA22, rdI2]; simp (disch := omega) only [upN_n])⟩
        show bkI (M.2.2 33) (M.2.2 34) 1 48 j = M.2.2 34 (48 + j)
        unfold bkI
        rw [if_pos hj]
