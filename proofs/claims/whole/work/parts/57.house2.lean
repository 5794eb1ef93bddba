/-! A text told: class and model hold the same. -/
/-- what a text tells is sound -/
def GD (d : Nat → Int32) : Prop := ∃ c p n, c ≤ 6 ∧ p ≤ 4 ∧ n ≤ 8 ∧ d 0 = nI c ∧ d 1 = nI p ∧ d 3 = nI n ∧ (∀ l, l < c → ∃ v, v < 512 ∧ d (4 + l) = nI v) ∧ (∀ k, k < n → ∃ v, v < 512 ∧ d (10 + k) = nI v) ∧ ∀ k, k < 8 → d (18 + k) = -4 ∨ ∃ q, q < p ∧ d (18 + k) = nI q
/-- whom holds named -/
def GQ (w : Nat) (q : Int32) (d : Nat → Int32) : Prop := w = 5 → ∃ j, q = nI j ∧ nI j < d 1 ∧ j < 1000
theorem GD_0 : GD d0 := ⟨0, 0, 0, by omega, by omega, by omega, rfl, rfl, rfl, fun l hl => absurd hl (by omega), fun k hk => absurd hk (by omega), fun k hk => Or.inl (by unfold d0; rw [if_pos (by omega)])⟩
theorem GD_2 {d : Nat → Int32} (h : GD d) (x : Int32) : GD (upd d 2 x) := by
  obtain ⟨c, p, n, h1, h2, h3, h4, h5, h6, h7, h8, h9⟩ := h
  refine ⟨c, p, n, h1, h2, h3, ?_, ?_, ?_, fun l hl => ?_, fun k hk => ?_, fun k hk => ?_⟩
  · rw [upd_n _ _ (by omega)]; exact h4
  · rw [upd_n _ _ (by omega)]; exact h5
  · rw [upd_n _ _ (by omega)]; exact h6
  · rw [upd_n _ _ (by omega)]; exact h7 l hl
  · rw [upd_n _ _ (by omega)]; exact h8 k hk
  · rw [upd_n _ _ (by omega)]; exact h9 k hk
theorem GD_stp {w : Nat} {q : Int32} {d : Nat → Int32} {k v : Int32} {x : Nat × (Int32 × (Nat → Int32))} (hG : GD d) (hQ : GQ w q d) (h2 : k = 2 → ∃ j : Nat, j < 1000 ∧ v = nI j) (h3 : k = 3 → ∃ j : Nat, j < 512 ∧ v = nI j) (h : stp w q d k v = some x) : GD x.2.2 ∧ GQ x.1 x.2.1 x.2.2 := by
  obtain ⟨c, p, n, g1, g2, g3, g4, g5, g6, g7, g8, g9⟩ := id hG
  have l1 : d 3 < 8 ↔ n < 8 := by rw [g6, show (8 : Int32) = nI 8 from rfl]; exact nI_ltI (by omega) (by omega)
  have l2 : d 0 < 6 ↔ c < 6 := by rw [g4, show (6 : Int32) = nI 6 from rfl]; exact nI_ltI (by omega) (by omega)
  have l3 : d 1 < 4 ↔ p < 4 := by rw [g5, show (4 : Int32) = nI 4 from rfl]; exact nI_ltI (by omega) (by omega)
  unfold stp at h
  split at h
  · split at h
    · split at h
      · cases h; exact ⟨hG, fun e => absurd e (by show ¬ 2 = 5; omega)⟩
      · cases h
    · split at h
      · split at h
        · cases h; exact ⟨hG, fun e => absurd e (by show ¬ 3 = 5; omega)⟩
        · cases h
      · split at h
        · split at h
          · rename_i e
            cases h
            have e := l3.mp e
            refine ⟨⟨c, p + 1, n, g1, by omega, g3, ?_, ?_, ?_, fun l hl => ?_, fun k hk => ?_, fun k hk => ?_⟩, fun e => absurd e (by show ¬ 1 = 5; omega)⟩
            all_goals dsimp only
            · rw [upd_n _ _ (by omega)]; exact g4
            · rw [upd_s, g5, nI_1]
            · rw [upd_n _ _ (by omega)]; exact g6
            · rw [upd_n _ _ (by omega)]; exact g7 l hl
            · rw [upd_n _ _ (by omega)]; exact g8 k hk
            · rw [upd_n _ _ (by omega)]
              rcases g9 k hk with z | ⟨a, z1, z2⟩
              · exact Or.inl z
              · exact Or.inr ⟨a, by omega, z2⟩
          · cases h
        · split at h
          · cases h; exact ⟨hG, fun e => absurd e (by show ¬ 4 = 5; omega)⟩
          · cases h
  · split at h
    · split at h
      · rename_i e
        cases h
        have e1 := l1.mp e.2
        obtain ⟨a, ha, rfl⟩ := h3 e.1
        refine ⟨⟨c, p, n + 1, g1, g2, by omega, ?_, ?_, ?_, fun l hl => ?_, fun k hk => ?_, fun k hk => ?_⟩, fun e => absurd e (by show ¬ 1 = 5; omega)⟩
        all_goals (dsimp only; rw [g6, nI_clamp (by omega)])
        · rw [upd_n _ _ (by omega), upd_n _ _ (by omega)]; exact g4
        · rw [upd_n _ _ (by omega), upd_n _ _ (by omega)]; exact g5
        · rw [upd_s, nI_1]
        · rw [upd_n _ _ (by omega), upd_n _ _ (by omega)]; exact g7 l hl
        · rw [upd_n _ _ (by omega)]
          by_cases z : k = n
          · rw [z, upd_s]; exact ⟨a, ha, rfl⟩
          · rw [upd_n _ _ (by omega)]; exact g8 k (by omega)
        · rw [upd_n _ _ (by omega), upd_n _ _ (by omega)]; exact g9 k hk
      · cases h
    · split at h
      · split at h
        · rename_i e
          cases h
          have e1 := l2.mp e.2
          obtain ⟨a, ha, rfl⟩ := h3 e.1
          refine ⟨⟨c + 1, p, n, by omega, g2, g3, ?_, ?_, ?_, fun l hl => ?_, fun k hk => ?_, fun k hk => ?_⟩, fun e => absurd e (by show ¬ 1 = 5; omega)⟩
          all_goals (dsimp only; rw [g4, nI_clamp (by omega)])
          · rw [upd_s, nI_1]
          · rw [upd_n _ _ (by omega), upd_n _ _ (by omega)]; exact g5
          · rw [upd_n _ _ (by omega), upd_n _ _ (by omega)]; exact g6
          · rw [upd_n _ _ (by omega)]
            by_cases z : l = c
            · rw [z, upd_s]; exact ⟨a, ha, rfl⟩
            · rw [upd_n _ _ (by omega)]; exact g7 l (by omega)
          · rw [upd_n _ _ (by omega), upd_n _ _ (by omega)]; exact g8 k hk
          · rw [upd_n _ _ (by omega), upd_n _ _ (by omega)]; exact g9 k hk
        · cases h
      · split at h
        · split at h
          · rename_i e
            cases h
            obtain ⟨a, ha, rfl⟩ := h2 e.1
            exact ⟨hG, fun _ => ⟨a, rfl, e.2, ha⟩⟩
          · cases h
        · split at h
          · rename_i w5
            split at h
            · rename_i e
              cases h
              obtain ⟨a, ha, rfl⟩ := h2 e.1
              obtain ⟨j, rfl, hj, hj2⟩ := hQ w5
              rw [g5, nI_ltI (by omega) (by omega)] at hj
              have e2 := e.2.1
              rw [g6, nI_ltI (by omega) (by omega)] at e2
              refine ⟨⟨c, p, n, g1, g2, g3, ?_, ?_, ?_, fun l hl => ?_, fun k hk => ?_, fun k hk => ?_⟩, fun e => absurd e (by show ¬ 1 = 5; omega)⟩
              all_goals (dsimp only; rw [nI_clamp (by omega)])
              · rw [upd_n _ _ (by omega)]; exact g4
              · rw [upd_n _ _ (by omega)]; exact g5
              · rw [upd_n _ _ (by omega)]; exact g6
              · rw [upd_n _ _ (by omega)]; exact g7 l hl
              · rw [upd_n _ _ (by omega)]; exact g8 k hk
              · by_cases z : k = a
                · rw [z, upd_s]; exact Or.inr ⟨j, hj, rfl⟩
                · rw [upd_n _ _ (by omega)]; exact g9 k hk
            · cases h
          · split at h
            · cases h; exact ⟨hG, fun e => absurd e (by show ¬ 0 = 5; omega)⟩
            · cases h
theorem prs_GD {t : Nat → Nat} {L : Nat} (ht : ∀ j, j < L → t j < 256) : ∀ f p w q d d', p ≤ L → GD d → GQ w q d → prs t L f p w q d = .inr d' → GD d' := by
  intro f
  induction f with
  | zero => intro p w q d d' _ _ _ h; cases h
  | succ f ih =>
    intro p w q d d' hp hG hQ h
    rw [prs_1] at h
    by_cases hk : tkK t L p = 0
    · rw [if_pos hk] at h
      split at h
      · cases h; exact hG
      · cases h
    · rw [if_neg hk] at h
      cases e : stp w q d (tkK t L p) (tkV t L p 0) with
      | none => rw [e] at h; cases h
      | some x =>
        rw [e] at h
        dsimp only at h
        obtain ⟨a1, a2⟩ := GD_stp hG hQ (fun e2 => by
          obtain ⟨j, j1, j2, _⟩ := tkV_num t L p 0 ht hp e2
          exact ⟨j, j1, j2⟩) (fun e3 => (tkV_row t L p 0 e3).2) e
        have hP := tkP_ge t hp
        refine ih (tkP t L p) x.1 x.2.1 _ d' hP.2 ?_ ?_ h
        · split
          · exact GD_2 a1 _
          · exact a1
        · split
          · intro e5
            obtain ⟨j, j1, j2, j3⟩ := a2 e5
            exact ⟨j, j1, by rw [upd_n _ _ (by omega)]; exact j2, j3⟩
          · exact a2
theorem K_house {M : AM} {post : PO} (hI : Inv M) (k : ∀ w M1, Ans S_X5_house [VR 39] (VI w) M1 → post (some (VI w)) M1) : S_X4_house [VR 0] M post := by
  have hI0 := hI
  obtain ⟨n, c, p, r, h, lk, L, t, u, hV⟩ := hI
  obtain ⟨hX, hM, hH, hu, hCH, hTX, hTT, hi1, hi2, htr⟩ := id hV
  have htb : ∀ j, j < L → t j < 256 := fun j hj => (hTX.2.2 j hj).2
  refine ⟨L, t, rfl, hTX, fun s hs _ M1 hf => k _ _ fun P hP => ⟨L, t, rfl, TT_of hTT (hf.1 25 (by omega) (by omega)) (hf.2.2 30 (by omega)), fun s' hs' M2 hf2 => ?_, fun d hd => ?_⟩, fun d hd M1 hf hD h17 _ => k _ _ fun P hP => ⟨L, t, rfl, TT_of hTT (hf.1 25 (by omega) (by omega)) (hf.2.2 30 (by omega)), fun s' hs' => ?_, fun d' hd' M2 hf2 a1 a2 a3 a4 a5 a6 a7 => ?_⟩⟩
  · rw [hs] at hs'
    cases hs'
    refine hP _ (Inv_cg (Inv_cg hI0 (fun i hi => hf.1 i ?_ ?_) hf.2.1 (fun a ha => hf.2.2 a ?_)) (fun i hi => hf2.1 i ?_) hf2.2.1 (fun a ha => hf2.2.2 a ?_))
    · intro z; rcases (by omega : i = 1 ∨ i = 2 ∨ i = 3 ∨ i = 4) with rfl | rfl | rfl | rfl <;> cases hi
    · intro z; rcases (by omega : i = 12 ∨ i = 13 ∨ i = 14 ∨ i = 15 ∨ i = 16 ∨ i = 17) with rfl | rfl | rfl | rfl | rfl | rfl <;> cases hi
    · intro z; rcases (by omega : a = 8 ∨ a = 9 ∨ a = 10) with rfl | rfl | rfl <;> cases ha
    · intro z; rcases (by omega : i = 26 ∨ i = 27 ∨ i = 28 ∨ i = 29) with rfl | rfl | rfl | rfl <;> cases hi
    · intro z; subst z; cases ha
  · rw [hs] at hd; cases hd
  · rw [hd] at hs'; cases hs'
  · rw [hd] at hd'
    cases hd'
    refine hP _ ?_
    obtain ⟨c2, p2, n2, g1, g2, g3, g4, g5, g6, g7, g8, g9⟩ := prs_GD htb 301 0 0 0 d0 d (by omega) GD_0 (fun e => absurd e (by omega)) hd
    obtain ⟨c3, p3, n3, b1, b2, b3, b4, b5, b6, m12, m13, m16, hl, hk, hz⟩ := hD
    have ec : c3 = c2 := nq (by omega) (by omega) b4 g4
    have ep : p3 = p2 := nq (by omega) (by omega) b5 g5
    have en : n3 = n2 := nq (by omega) (by omega) b6 g6
    subst ec ep en
    have lc : ∀ l, l < c3 → d (4 + l) = nI (d (4 + l)).toNatClampNeg ∧ (d (4 + l)).toNatClampNeg < 512 := fun l hl2 => by
      obtain ⟨v, v1, v2⟩ := g7 l hl2
      rw [v2, nI_clamp (by omega)]; exact ⟨rfl, v1⟩
    have rc : ∀ j, j < n3 → d (10 + j) = nI (d (10 + j)).toNatClampNeg ∧ (d (10 + j)).toNatClampNeg < 512 := fun j hj2 => by
      obtain ⟨v, v1, v2⟩ := g8 j hj2
      rw [v2, nI_clamp (by omega)]; exact ⟨rfl, v1⟩
    have I1 : ∀ i, ¬ (1 ≤ i ∧ i ≤ 4) → ¬ (12 ≤ i ∧ i ≤ 17) → M1.1 i = M.1 i := hf.1
    have A1 : ∀ a, ¬ (8 ≤ a ∧ a ≤ 10) → M1.2.2 a = M.2.2 a := hf.2.2
    have I2 := hf2.1
    have A2 := hf2.2.2
    have x0 : M2.1 0 = nI 0 := I2 0 (by omega)
    refine ⟨n3, c3, p3, fun j => (d (10 + j)).toNatClampNeg, fun j => d (18 + j), fun l => (d (4 + l)).toNatClampNeg, 0, t, 0, ⟨?_, g3, ?_, g1, ?_, g2, fun j hj => ?_, fun j hj => ?_, fun l hl2 => ?_⟩, ⟨a2.trans g6, g3, (a1 0 (by omega)).trans g4, g1, (a1 1 (by omega)).trans g5, g2, fun j hj => ⟨(a4 j (by omega)).1.trans (rc j hj).1, (rc j hj).2⟩, fun j hj => (a4 j (by omega)).2, fun l hl2 => ⟨(a1 (4 + l) (by omega)).trans (lc l hl2).1, (lc l hl2).2⟩⟩, fun j hj => ?_, ⟨?_, a3, by omega⟩, trivial, ⟨x0, by omega, fun j hj => absurd hj (by omega)⟩, ⟨a7, by omega, fun j hj => absurd hj (by omega)⟩, Or.inl ⟨?_, a5⟩, Or.inl ⟨?_, a6⟩, ?_⟩
    · rw [I2 9 (by omega)]; exact m16
    · rw [I2 5 (by omega)]; exact m12
    · rw [I2 6 (by omega)]; exact m13
    · rw [A2 2 (by omega) (by omega) (by omega) (by omega)]
      have e : cpy (M1.2.2 2) (M1.2.2 9) 8 j = M1.2.2 9 j := cpy_lt (by omega)
      refine ⟨?_, (rc j hj).2⟩
      show cpy (M1.2.2 2) (M1.2.2 9) 8 j = _
      rw [e, (hk j hj).1]; exact (rc j hj).1
    · rw [A2 3 (by omega) (by omega) (by omega) (by omega)]
      have e : cpy (M1.2.2 3) (M1.2.2 10) 8 j = M1.2.2 10 j := cpy_lt (by omega)
      show cpy (M1.2.2 3) (M1.2.2 10) 8 j = _
      rw [e, (hk j hj).2]
    · rw [A2 1 (by omega) (by omega) (by omega) (by omega)]
      have e : cpy (M1.2.2 1) (M1.2.2 8) 6 l = M1.2.2 8 l := cpy_lt (by omega)
      refine ⟨?_, (lc l hl2).2⟩
      show cpy (M1.2.2 1) (M1.2.2 8) 6 l = _
      rw [e, hl l hl2]; exact (lc l hl2).1
    · rcases g9 j (by omega) with z | ⟨a, z1, z2⟩
      · exact Or.inl (by dsimp only; rw [z]; decide)
      · exact Or.inr ⟨a, z1, z2⟩
    · rw [I2 10 (by omega)]; exact h17
    · rw [I2 21 (by omega)]; rfl
    · rw [I2 24 (by omega)]; rfl
    · rw [hf2.2.1]
      show M1.2.1 0 = M1.2.1 1
      rw [hf.2.1]; exact htr
