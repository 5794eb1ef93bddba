/-! What is asked: class and model answer alike. -/
theorem rgi {x : Int32} {q n : Nat} (hn : n < 2 ^ 31) (e : x = nI q) (hq : q < n) : 0 ≤ x ∧ x < nI n := by
  rw [e]
  exact ⟨nI_pos' (by omega), (nI_ltI (by omega) hn).mpr hq⟩
theorem nq {x : Int32} {a b : Nat} (ha : a < 2 ^ 31) (hb : b < 2 ^ 31) (e1 : x = nI a) (e2 : x = nI b) : a = b := (nI_eq ha hb).mp (e1.symm.trans e2)
theorem no01 {z : Int32} (h0 : z = 0) (h1 : z = 1) : False := by rw [h0] at h1; exact absurd h1 (by decide)
theorem m1n {i : Int32} {j : Nat} (h1 : i = -1) (h2 : i = nI j) (hj : j < 2 ^ 31) : False := by
  rw [h1] at h2
  exact nI_pos hj (by rw [← h2]; decide)
theorem K_key {x w : Int32} {M : AM} {post : PO} (hI : Inv M) (k : ∀ v M1, Ans S_X5_key [VR 39, VI x, VI w] (VI v) M1 → post (some (VI v)) M1) : S_X4_key [VR 0, VI x, VI w] M post := by
  have hI0 := hI
  obtain ⟨n, c, p, r, h, lk, L, t, u, hX, hM, hH, hV⟩ := hI
  have hn8 := hX.2.1
  refine ⟨x, w, n, c, p, r, h, lk, rfl, hX, fun g => k _ _ fun P hP => ⟨x, w, n, c, p, r, h, lk, rfl, hM, fun _ => hP _ hI0, fun q e1 e2 e3 => ?_, fun q e1 e2 e3 => ?_⟩, fun q e1 e2 e3 => k _ _ fun P hP => ⟨x, w, n, c, p, r, h, lk, rfl, hM, fun g => ?_, fun q' e4 e5 e6 => ?_, fun q' e4 e5 e6 => ?_⟩, fun q e1 e2 e3 => k _ _ fun P hP => ⟨x, w, n, c, p, r, h, lk, rfl, hM, fun g => ?_, fun q' e4 e5 e6 => ?_, fun q' e4 e5 e6 => ?_⟩⟩
  · exact absurd ⟨rgi (by omega) e1 e2, Or.inl e3⟩ g
  · exact absurd ⟨rgi (by omega) e1 e2, Or.inr e3⟩ g
  · exact absurd ⟨rgi (by omega) e1 e2, Or.inl e3⟩ g
  · rw [nq (by omega) (by omega) e4 e1]; exact hP _ hI0
  · exact (no01 e3 e6).elim
  · exact absurd ⟨rgi (by omega) e1 e2, Or.inr e3⟩ g
  · exact (no01 e6 e3).elim
  · rw [nq (by omega) (by omega) e4 e1]; exact hP _ hI0
theorem K_lock {x : Int32} {M : AM} {post : PO} (hI : Inv M) (k : ∀ v M1, Ans S_X5_lock [VR 39, VI x] (VI v) M1 → post (some (VI v)) M1) : S_X4_lock [VR 0, VI x] M post := by
  have hI0 := hI
  obtain ⟨n, c, p, r, h, lk, L, t, u, hX, hM, hH, hV⟩ := hI
  have hc6 := hX.2.2.2.1
  refine ⟨x, n, c, p, r, h, lk, rfl, hX, fun g => k _ _ fun P hP => ⟨x, n, c, p, r, h, lk, rfl, hM, fun _ => hP _ hI0, fun q e1 e2 => ?_⟩, fun q e1 e2 => k _ _ fun P hP => ⟨x, n, c, p, r, h, lk, rfl, hM, fun g => ?_, fun q' e4 e5 => ?_⟩⟩
  · exact absurd (rgi (by omega) e1 e2) g
  · exact absurd (rgi (by omega) e1 e2) g
  · rw [nq (by omega) (by omega) e4 e1]; exact hP _ hI0
theorem K_laid {x : Int32} {M : AM} {post : PO} (hI : Inv M) (k : ∀ v M1, Ans S_X5_laid [VR 39, VI x] (VI v) M1 → post (some (VI v)) M1) : S_X4_laid [VR 0, VI x] M post := by
  have hI0 := hI
  obtain ⟨n, c, p, r, h, lk, L, t, u, hX, hM, hH, hV⟩ := hI
  have hus := us_lt h hX.2.1
  have hr := hX.2.2.2.2.2.2.1
  refine ⟨x, n, c, p, r, h, lk, rfl, hX, fun g => k _ _ fun P hP => ⟨x, n, c, p, r, h, lk, rfl, hM, fun _ => hP _ hI0, fun T e1 e2 => ?_⟩, fun T e1 e2 => k _ _ fun P hP => ⟨x, n, c, p, r, h, lk, rfl, hM, fun g => ?_, fun T' e4 e5 => ?_⟩⟩
  · exact absurd ⟨T, e1, e2⟩ g
  · exact absurd ⟨T, e1, e2⟩ g
  · have l1 := sub_lt e2 hus
    have l2 := sub_lt e5 hus
    rw [nq (by omega) (by omega) e4 e1, ← xr_I n (fun j hj => (hr j hj).1)]
    exact hP _ hI0
theorem K_alone {M : AM} {post : PO} (hI : Inv M) (k : ∀ v M1, Ans S_X5_alone [VR 39] (VI v) M1 → post (some (VI v)) M1) : S_X4_alone [VR 0] M post := by
  have hI0 := hI
  obtain ⟨n, c, p, r, h, lk, L, t, u, hX, hM, hH, hV⟩ := hI
  exact ⟨n, c, p, r, h, lk, rfl, hX, fun f => k _ _ fun P hP => ⟨n, c, p, r, h, lk, rfl, MW_of hM rfl rfl, fun f' => hP _ (Inv_A (Inv_A hI0 rfl f) rfl f')⟩⟩
theorem K_fewest {x y z : Int32} {M : AM} {post : PO} (hI : Inv M) (k : ∀ v M1, Ans S_X5_fewest [VR 39, VI x, VI y, VI z] (VI v) M1 → post (some (VI v)) M1) : S_X4_fewest [VR 0, VI x, VI y, VI z] M post := by
  have hI0 := hI
  obtain ⟨n, c, p, r, h, lk, L, t, u, hX, hM, hH, hV⟩ := hI
  have hr := hX.2.2.2.2.2.2.1
  refine ⟨x, y, z, n, c, p, r, h, lk, rfl, hX, fun g => k _ _ fun P hP => ⟨x, y, z, n, c, p, r, h, lk, rfl, hM, fun _ => hP _ hI0, fun lim e1 e2 e3 e4 => ?_⟩, fun lim e1 e2 e3 e4 => k _ _ fun P hP => ⟨x, y, z, n, c, p, r, h, lk, rfl, hM, fun g => ?_, fun lim' e5 e6 e7 e8 => ?_⟩⟩
  · exact absurd ⟨e1, (show 0 ≤ y ∧ y < nI 9 from rgi (by omega) e2 e3), e4⟩ g
  · exact absurd ⟨e1, (show 0 ≤ y ∧ y < nI 9 from rgi (by omega) e2 e3), e4⟩ g
  · rw [nq (by omega) (by omega) e6 e2, ← fw_cg (F := M.2.2 2) (fun j hj => (hr j hj).1)]
    exact hP _ hI0
theorem K_opens {x : Int32} {M : AM} {post : PO} (hI : Inv M) (k : ∀ v M1, Ans S_X5_opens [VR 39, VI x] (VI v) M1 → post (some (VI v)) M1) : S_X4_opens [VR 0, VI x] M post := by
  have hI0 := hI
  obtain ⟨n, c, p, r, h, lk, L, t, u, hX, hM, hH, hV⟩ := hI
  have hp4 := hX.2.2.2.2.2.1
  have hp16 := ev_lt hp4
  refine ⟨x, n, c, p, r, h, lk, rfl, hX, fun g => k _ _ fun P hP => ⟨x, n, c, p, r, h, lk, rfl, hM, hH, fun _ => hP _ hI0, fun q e1 e2 => ?_⟩, fun q e1 e2 f => k _ _ fun P hP => ⟨x, n, c, p, r, h, lk, rfl, MW_of hM rfl rfl, hH, fun g => ?_, fun q' e4 e5 f' => ?_⟩⟩
  · exact absurd ⟨q, e1, and_p.mpr e2⟩ g
  · exact absurd (rgi (by omega) e1 (and_p.mp e2)) g
  · have l1 := and_p.mp e2
    rw [nq (by omega) (by omega) e4 e1]
    exact hP _ (Inv_A (Inv_A hI0 rfl f) rfl f')
theorem K_groups {x i : Int32} {M : AM} {post : PO} (hI : Inv M) (k : ∀ v M1, Ans S_X5_groups [VR 39, VI x, VI i] (VI v) M1 → post (some (VI v)) M1) : S_X4_groups [VR 0, VI x, VI i] M post := by
  have hI0 := hI
  obtain ⟨n, c, p, r, h, lk, L, t, u, hX, hM, hH, hV⟩ := hI
  have hc6 := hX.2.2.2.1
  have ge : ∀ j : Nat, j < 2 ^ 31 → i = nI j → -1 ≤ i := fun j hj e => by
    have h1 := nI_pos' hj
    rw [← e] at h1
    rw [Int32.le_iff_toInt_le] at h1 ⊢
    have a0 : (0 : Int32).toInt = 0 := by decide
    have a1 : (-1 : Int32).toInt = -1 := by decide
    omega
  refine ⟨x, i, n, c, p, r, h, lk, rfl, hX, fun g => k _ _ fun P hP => ⟨x, i, n, c, p, r, h, lk, rfl, hM, hH, fun _ => hP _ hI0, fun l e1 e2 e3 => ?_, fun l j e1 e2 e3 e4 => ?_⟩, fun l e1 e2 e3 f => k _ _ fun P hP => ⟨x, i, n, c, p, r, h, lk, rfl, MW_of hM rfl rfl, hH, fun g => ?_, fun l' e4 e5 e6 f' => ?_, fun l' j e4 e5 e6 e7 => ?_⟩, fun l j e1 e2 e3 e4 => ⟨fun gr eg f => k _ _ fun P hP => ⟨x, i, n, c, p, r, h, lk, rfl, MW_of hM rfl rfl, hH, fun g => ?_, fun l' e5 e6 e7 f' => ?_, fun l' j' e5 e6 e7 e8 => ⟨fun gr' eg' f' => ?_, fun eg' f' => ?_⟩⟩, fun eg f => k _ _ fun P hP => ⟨x, i, n, c, p, r, h, lk, rfl, MW_of hM rfl rfl, hH, fun g => ?_, fun l' e5 e6 e7 f' => ?_, fun l' j' e5 e6 e7 e8 => ⟨fun gr' eg' f' => ?_, fun eg' f' => ?_⟩⟩⟩⟩
  · exact absurd ⟨rgi (by omega) e1 e2, by rw [e3]; decide⟩ g
  · exact absurd ⟨rgi (by omega) e1 e2, ge j e4 e3⟩ g
  · exact absurd ⟨rgi (by omega) e1 e2, by rw [e3]; decide⟩ g
  · rw [nq (by omega) (by omega) e4 e1]
    exact hP _ (Inv_A (Inv_A hI0 rfl f) rfl f')
  · exact (m1n e3 e6 e7).elim
  · exact absurd ⟨rgi (by omega) e1 e2, ge j e4 e3⟩ g
  · exact (m1n e7 e3 e4).elim
  · have x1 := nq (by omega) (by omega) e5 e1
    have x2 := nq (by omega) (by omega) e7 e3
    rw [x1, x2, eg] at eg'
    rw [← Option.some.inj eg']
    exact hP _ (Inv_A (Inv_A hI0 rfl f) rfl f')
  · have x1 := nq (by omega) (by omega) e5 e1
    have x2 := nq (by omega) (by omega) e7 e3
    rw [x1, x2, eg] at eg'
    cases eg'
  · exact absurd ⟨rgi (by omega) e1 e2, ge j e4 e3⟩ g
  · exact (m1n e7 e3 e4).elim
  · have x1 := nq (by omega) (by omega) e5 e1
    have x2 := nq (by omega) (by omega) e7 e3
    rw [x1, x2, eg] at eg'
    cases eg'
  · exact hP _ (Inv_A (Inv_A hI0 rfl f) rfl f')
theorem K_shut {x : Int32} {M : AM} {post : PO} (hI : Inv M) (k : ∀ v M1, Ans S_X5_shut [VR 39, VI x] (VI v) M1 → post (some (VI v)) M1) : S_X4_shut [VR 0, VI x] M post := by
  have hI0 := hI
  obtain ⟨n, c, p, r, h, lk, L, t, u, hX, hM, hH, hV⟩ := hI
  have hn8 := hX.2.1
  refine ⟨x, n, c, p, r, h, lk, rfl, hX, fun g => k _ _ fun P hP => ⟨x, n, c, p, r, h, lk, rfl, hM, fun _ => hP _ hI0, fun q e1 e2 e3 => ?_⟩, fun q e1 e2 e3 f => k _ _ fun P hP => ⟨x, n, c, p, r, h, lk, rfl, MW_of hM rfl rfl, fun g => ?_, fun q' e4 e5 e6 f' => ?_⟩⟩
  · exact absurd (g q e1 e2) e3
  · exact absurd (g q e1 e2) e3
  · rw [nq (by omega) (by omega) e4 e1]
    exact hP _ (Inv_A (Inv_A hI0 rfl f) rfl f')
theorem K_brings {z : Int32} {M : AM} {post : PO} (hI : Inv M) (k : ∀ v M1, Ans S_X5_brings [VR 39, VI z] (VI v) M1 → post (some (VI v)) M1) : S_X4_brings [VR 0, VI z] M post := by
  have hI0 := hI
  obtain ⟨n, c, p, r, h, lk, L, t, u, hX, hM, hH, hV⟩ := hI
  refine ⟨z, n, c, p, r, h, lk, rfl, hX, fun g => k _ _ fun P hP => ⟨z, n, c, p, r, h, lk, rfl, hM, fun _ => hP _ hI0, fun e => absurd (Or.inl e) g, fun e => absurd (Or.inr e) g⟩, fun e f f2 => k _ _ fun P hP => ⟨z, n, c, p, r, h, lk, rfl, MW_of hM rfl rfl, fun g => absurd (Or.inl e) g, fun _ f' => hP _ (Inv_A (Inv_A (Inv_A hI0 rfl f) rfl f2) rfl f'), fun e2 => (no01 e e2).elim⟩, fun e f f2 => k _ _ fun P hP => ⟨z, n, c, p, r, h, lk, rfl, MW_of hM rfl rfl, fun g => absurd (Or.inr e) g, fun e2 => (no01 e2 e).elim, fun _ f' => hP _ (Inv_A (Inv_A (Inv_A hI0 rfl f) rfl f2) rfl f')⟩⟩
theorem K_rob {x : Int32} {M : AM} {post : PO} (hI : Inv M) (k : ∀ v M1, Ans S_X5_rob [VR 39, VI x] (VI v) M1 → post (some (VI v)) M1) : S_X4_rob [VR 0, VI x] M post := by
  have hI0 := hI
  obtain ⟨n, c, p, r, h, lk, L, t, u, hX, hM, hH, hV⟩ := hI
  have hc6 := hX.2.2.2.1
  have hc64 : 2 ^ c ≤ 64 := Nat.pow_le_pow_right (n := 2) (by omega) hc6
  refine ⟨x, n, c, p, r, h, lk, rfl, hX, fun g => k _ _ fun P hP => ⟨x, n, c, p, r, h, lk, rfl, hM, hH, fun _ => hP _ hI0, fun q e1 e2 => ?_⟩, fun q e1 e2 f => k _ _ fun P hP => ⟨x, n, c, p, r, h, lk, rfl, MW_of hM rfl rfl, hH, fun g => ?_, fun q' e4 e5 f' => ?_⟩⟩
  · exact absurd ⟨q, e1, and_p.mpr e2⟩ g
  · exact absurd (rgi (by omega) e1 (and_p.mp e2)) g
  · have l1 := and_p.mp e2
    rw [nq (by omega) (by omega) e4 e1]
    exact hP _ (Inv_A (Inv_A hI0 rfl f) rfl f')
theorem K_apart {M : AM} {post : PO} (hI : Inv M) (k : ∀ v M1, Ans S_X5_apart [VR 39] (VI v) M1 → post (some (VI v)) M1) : S_X4_apart [VR 0] M post := by
  have hI0 := hI
  obtain ⟨n, c, p, r, h, lk, L, t, u, hX, hM, hH, hV⟩ := hI
  exact ⟨n, c, p, r, h, lk, rfl, hX, fun f => k _ _ fun P hP => ⟨n, c, p, r, h, lk, rfl, MW_of hM rfl rfl, fun f' => hP _ (Inv_A (Inv_A hI0 rfl f) rfl f')⟩⟩
theorem K_wish {x y z : Int32} {M : AM} {post : PO} (hI : Inv M) (k : ∀ v M1, Ans S_X5_wish [VR 39, VI x, VI y, VI z] (VI v) M1 → post (some (VI v)) M1) : S_X4_wish [VR 0, VI x, VI y, VI z] M post := by
  have hI0 := hI
  obtain ⟨n, c, p, r, h, lk, L, t, u, hX, hM, hH, hV⟩ := hI
  have hp4 := hX.2.2.2.2.2.1
  have hc6 := hX.2.2.2.1
  have hp16 := ev_lt hp4
  have sm : ∀ {pp g l pp' g' l' : Nat}, x = nI pp → pp < p → y = nI g → g &&& (2 ^ p - 1) = g → z = nI l → l < c → x = nI pp' → pp' < p → y = nI g' → g' &&& (2 ^ p - 1) = g' → z = nI l' → l' < c → pp' = pp ∧ g' = g ∧ l' = l := by
    intro pp g l pp' g' l' a1 a2 a3 a4 a5 a6 b1 b2 b3 b4 b5 b6
    have l1 := and_p.mp a4
    have l2 := and_p.mp b4
    exact ⟨nq (by omega) (by omega) b1 a1, nq (by omega) (by omega) b3 a3, nq (by omega) (by omega) b5 a5⟩
  refine ⟨x, y, z, n, c, p, r, h, lk, rfl, hX, fun g0 => k _ _ fun P hP => ⟨x, y, z, n, c, p, r, h, lk, rfl, hM, hH, fun _ => hP _ hI0, fun pp g l e1 e2 e3 e4 e5 e6 e7 => ?_⟩, fun pp g l e1 e2 e3 e4 e5 e6 e7 => ⟨fun hq f b => k _ _ fun P hP => ⟨x, y, z, n, c, p, r, h, lk, rfl, MW_of hM rfl rfl, hH, fun g0 => ?_, fun pp' g' l' b1 b2 b3 b4 b5 b6 b7 => ⟨fun row hrow hG hl f' b' => ?_, fun hno f' b' => ?_⟩⟩, fun hno => ⟨fun row hrow hG hl f b => k _ _ fun P hP => ⟨x, y, z, n, c, p, r, h, lk, rfl, MW_of hM rfl rfl, hH, fun g0 => ?_, fun pp' g' l' b1 b2 b3 b4 b5 b6 b7 => ⟨fun row' hrow' hG' hl' f' b' => ?_, fun hno' f' b' => ?_⟩⟩, fun hG f b => k _ _ fun P hP => ⟨x, y, z, n, c, p, r, h, lk, rfl, MW_of hM rfl rfl, hH, fun g0 => ?_, fun pp' g' l' b1 b2 b3 b4 b5 b6 b7 => ⟨fun row' hrow' hG' hl' f' b' => ?_, fun hno' f' b' => ?_⟩⟩⟩⟩⟩
  · rw [g0 pp g l e1 e2 e3 e4 e5 e6] at e7; cases e7
  · rw [g0 pp g l e1 e2 e3 e4 e5 e6] at e7; cases e7
  · obtain ⟨rfl, rfl, rfl⟩ := sm e1 e2 e3 e4 e5 e6 b1 b2 b3 b4 b5 b6
    obtain ⟨q, q1, q2, q3⟩ := hq
    exact absurd q3 (hG.1 q q1 q2)
  · exact hP _ (Inv_A (Inv_A (Inv_A (Inv_A hI0 rfl f) rfl b) rfl f') rfl b')
  · rw [g0 pp g l e1 e2 e3 e4 e5 e6] at e7; cases e7
  · obtain ⟨rfl, rfl, rfl⟩ := sm e1 e2 e3 e4 e5 e6 b1 b2 b3 b4 b5 b6
    have e : row' = row := by
      rcases Nat.lt_trichotomy row' row with w | w | w
      · exact absurd hG'.2 (hl row' w)
      · exact w
      · exact absurd ⟨hno, hG⟩ (hl' row w)
    rw [e]
    exact hP _ (Inv_A (Inv_A (Inv_A (Inv_A hI0 rfl f) rfl b) rfl f') rfl b')
  · obtain ⟨rfl, rfl, rfl⟩ := sm e1 e2 e3 e4 e5 e6 b1 b2 b3 b4 b5 b6
    exact absurd ⟨hno, hG⟩ (hno' row hrow)
  · rw [g0 pp g l e1 e2 e3 e4 e5 e6] at e7; cases e7
  · obtain ⟨rfl, rfl, rfl⟩ := sm e1 e2 e3 e4 e5 e6 b1 b2 b3 b4 b5 b6
    exact absurd hG'.2 (hG row' hrow')
  · exact hP _ (Inv_A (Inv_A (Inv_A (Inv_A hI0 rfl f) rfl b) rfl f') rfl b')
