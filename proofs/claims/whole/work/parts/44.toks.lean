/-! A token, as the class and as the model see it; a text's reading, wherever it stands. -/
theorem prs_1 (t : Nat → Nat) (L f p w : Nat) (q : Int32) (d : Nat → Int32) : prs t L (f + 1) p w q d = (if tkK t L p = 0 then (if w = 0 then .inr d else .inl (tkS t L p)) else match stp w q d (tkK t L p) (tkV t L p 0) with
  | none => .inl (tkS t L p)
  | some x => prs t L f (tkP t L p) x.1 x.2.1 (if tkK t L p = 1 then upd x.2.2 2 (x.2.2 2 + 1) else x.2.2)) := rfl
theorem prs_st {t : Nat → Nat} {L : Nat} : ∀ f p w q d, p ≤ L → L < f + p → prs t L f p w q d = prs t L (f + 1) p w q d := by
  intro f
  induction f with
  | zero => intro p w q d h1 h2; omega
  | succ f ih =>
    intro p w q d h1 h2
    rw [prs_1 t L f, prs_1 t L (f + 1)]
    by_cases hk : tkK t L p = 0
    · rw [if_pos hk, if_pos hk]
    · rw [if_neg hk, if_neg hk]
      cases e : stp w q d (tkK t L p) (tkV t L p 0) with
      | none => rfl
      | some x =>
        have h4 : tkK t L p ≠ 4 := fun z => by rw [z, stp_4] at e; cases e
        have h5 := tkP_gt t h1 hk h4
        have h6 := tkP_ge t h1
        exact ih _ _ _ _ (by omega) (by omega)
theorem prs_k {t : Nat → Nat} {L p w : Nat} {q : Int32} {d : Nat → Int32} (hp : p ≤ L) (f : Nat) (hf : L < f + p) : ∀ k, prs t L (f + k) p w q d = prs t L f p w q d := by
  intro k
  induction k with
  | zero => rfl
  | succ k ih => rw [← Nat.add_assoc, ← prs_st (f + k) p w q d hp (by omega)]; exact ih
/-- a text read from p on -/
def PR (t : Nat → Nat) (L p w : Nat) (q : Int32) (d : Nat → Int32) : Nat ⊕ (Nat → Int32) := prs t L (301 - p) p w q d
theorem PR_0 {t : Nat → Nat} {L p w : Nat} {q : Int32} {d : Nat → Int32} (hp : p ≤ L) (hL : L ≤ 300) (hk : tkK t L p = 0) : PR t L p w q d = if w = 0 then .inr d else .inl (tkS t L p) := by
  unfold PR
  rw [show 301 - p = (300 - p) + 1 by omega, prs_1, if_pos hk]
theorem PR_n {t : Nat → Nat} {L p w : Nat} {q : Int32} {d : Nat → Int32} (hp : p ≤ L) (hL : L ≤ 300) (hw : w ≠ 0 ∨ tkK t L p ≠ 0) (e : stp w q d (tkK t L p) (tkV t L p 0) = none) : PR t L p w q d = .inl (tkS t L p) := by
  unfold PR
  rw [show 301 - p = (300 - p) + 1 by omega, prs_1]
  by_cases hk : tkK t L p = 0
  · rw [if_pos hk, if_neg (hw.elim id fun z => absurd hk z)]
  · rw [if_neg hk, e]
theorem PR_s {t : Nat → Nat} {L p w : Nat} {q : Int32} {d : Nat → Int32} (hp : p ≤ L) (hL : L ≤ 300) (hk : tkK t L p ≠ 0) {x : Nat × (Int32 × (Nat → Int32))} (e : stp w q d (tkK t L p) (tkV t L p 0) = some x) : PR t L p w q d = PR t L (tkP t L p) x.1 x.2.1 (if tkK t L p = 1 then upd x.2.2 2 (x.2.2 2 + 1) else x.2.2) ∧ p < tkP t L p ∧ tkP t L p ≤ L := by
  have h4 : tkK t L p ≠ 4 := fun z => by rw [z, stp_4] at e; cases e
  have h5 := tkP_gt t hp hk h4
  have h6 := tkP_ge t hp
  refine ⟨?_, h5, h6.2⟩
  unfold PR
  rw [show 301 - p = (300 - p) + 1 by omega, prs_1, if_neg hk, e]
  dsimp only
  rw [show 300 - p = (301 - tkP t L p) + (tkP t L p - p - 1) by omega]
  exact prs_k h6.2 _ (by omega) _
/-- the token from p on, of both sides -/
theorem tkc (t : Nat → Nat) (L p : Nat) :
    (L ≤ tkS t L p ∧ tkK t L p = 0 ∧ srA t L (tkS t L p) = 0) ∨
    (tkS t L p < L ∧ tkK t L p = 1 ∧ srA t L (tkS t L p) = 3 ∧ tkP t L p = tkE t L p) ∨
    (tkS t L p < L ∧ isD (t (tkS t L p)) = true ∧ srA t L (tkS t L p) = 2 ∧ tkE t L p = tkP t L p ∧ tkP t L p = sk isD t (L - tkS t L p) (tkS t L p) ∧ tkK t L p = nmK t (tkS t L p) (tkP t L p) ∧ tkV t L p 0 = nmV t (tkS t L p) (tkP t L p) 0) ∨
    (tkS t L p < L ∧ isW (t (tkS t L p)) = true ∧ srA t L (tkS t L p) = 1 ∧ tkE t L p = tkP t L p ∧ tkP t L p = sk isW t (L - tkS t L p) (tkS t L p) ∧ tkK t L p = wdK t (tkS t L p) (tkP t L p) ∧ tkV t L p 0 = wdV t (tkS t L p) (tkP t L p) 0) ∨
    (tkS t L p < L ∧ tkK t L p = 4 ∧ srA t L (tkS t L p) = 4) := by
  unfold tkK tkP tkE tkV srA so
  dsimp only
  generalize tkS t L p = s
  by_cases h1 : L ≤ s
  · exact Or.inl ⟨h1, by rw [if_pos h1], by rw [if_neg (by omega)]⟩
  · refine Or.inr ?_
    have h1' : s < L := by omega
    simp only [if_neg h1, if_pos h1']
    by_cases h2 : t s = 59
    · have w1 : ¬ isW (t s) = true := by rw [h2]; decide
      have w2 : ¬ isD (t s) = true := by rw [h2]; decide
      simp only [if_pos h2, if_neg w1, if_neg w2]
      exact Or.inl ⟨h1', by trivial, by trivial, by trivial⟩
    · refine Or.inr ?_
      simp only [if_neg h2]
      by_cases h3 : isD (t s) = true
      · have w1 := noWD h3
        simp only [if_pos h3, if_neg w1]
        exact Or.inl ⟨h1', h3, by trivial, by trivial, by trivial, by trivial, by trivial⟩
      · refine Or.inr ?_
        simp only [if_neg h3]
        by_cases h4 : isW (t s) = true
        · simp only [if_pos h4]
          exact Or.inl ⟨h1', h4, by trivial, by trivial, by trivial, by trivial, by trivial⟩
        · simp only [if_neg h4]
          exact Or.inr ⟨h1', by trivial, by trivial⟩
theorem nmV_at {t : Nat → Nat} {s e : Nat} (h : nmK t s e = 2) (hd : isD (t s) = true) (hd1 : e - s = 2 → isD (t (s + 1)) = true) : (e = s + 1 ∧ nmV t s e 0 = nI (t s - 48)) ∨ (e - s = 1 ∧ nmV t s e 0 = nI (t s - 48)) ∨ ∃ m, 10 ≤ m ∧ m < 100 ∧ nmV t s e 0 = nI m := by
  unfold nmK at h
  unfold nmV
  by_cases h1 : e - s = 1
  · exact Or.inr (Or.inl ⟨h1, by rw [if_pos h1]⟩)
  · rw [if_neg h1] at h
    by_cases h2 : e - s = 2 ∧ t s ≠ 48
    · refine Or.inr (Or.inr ⟨10 * (t s - 48) + (t (s + 1) - 48), ?_, ?_, by rw [if_neg h1, if_pos h2]⟩)
      · have := h2.2
        simp [isD] at hd
        omega
      · have h3 := hd1 h2.1
        simp [isD] at hd h3
        omega
    · rw [if_neg h2] at h; cases h
/-- a number that is small -/
theorem tk_num {t : Nat → Nat} {L p m : Nat} (hm : m ≤ 8) (ht : ∀ j, j < L → t j < 256) : (tkK t L p = 2 ∧ tkV t L p 0 < nI m) ↔ ∃ j, srA t L (tkS t L p) = 2 ∧ tkE t L p = tkS t L p + 1 ∧ t (tkS t L p) = 48 + j ∧ nI j < nI m := by
  rcases tkc t L p with ⟨h1, h2, h3⟩ | ⟨h1, h2, h3, h4⟩ | ⟨h1, h2, h3, h4, h5, h6, h7⟩ | ⟨h1, h2, h3, h4, h5, h6, h7⟩ | ⟨h1, h2, h3⟩
  · rw [h2, h3]; exact ⟨fun z => absurd z.1 (by decide), fun ⟨_, z, _⟩ => absurd z (by decide)⟩
  · rw [h2, h3]; exact ⟨fun z => absurd z.1 (by decide), fun ⟨_, z, _⟩ => absurd z (by decide)⟩
  · rw [h6, h7, h4]
    generalize hs : tkS t L p = s at *
    have hge := sk_gt (P := isD) h1 h2
    rw [← h5] at hge
    have hlt := sk_ge isD t (L - s) s
    rw [← h5] at hlt
    have hb := ht s h1
    constructor
    · rintro ⟨z1, z2⟩
      have hd1 : tkP t L p - s = 2 → isD (t (s + 1)) = true := by
        intro e
        cases hb2 : isD (t (s + 1)) with
        | true => rfl
        | false =>
          rw [h5, sk_s h1 h2, sk_e (fun _ => hb2)] at e
          omega
      rcases nmV_at z1 h2 hd1 with ⟨g1, g2⟩ | ⟨g1, g2⟩ | ⟨k, g1, g2, g3⟩
      · rw [g2] at z2
        refine ⟨t s - 48, h3, g1, ?_, z2⟩
        simp [isD] at h2; omega
      · rw [g2] at z2
        refine ⟨t s - 48, h3, by omega, ?_, z2⟩
        simp [isD] at h2; omega
      · rw [g3, nI_ltI (by omega) (by omega)] at z2
        omega
    · rintro ⟨j, z1, z2, z3, z4⟩
      have e1 : tkP t L p - s = 1 := by omega
      unfold nmK nmV
      rw [if_pos e1, if_pos e1, z3, Nat.add_sub_cancel_left]
      exact ⟨rfl, z4⟩
  · rw [h3]
    exact ⟨fun z => absurd (h6 ▸ z.1) (wdK_ne _ _ _).2.2, fun ⟨_, z, _⟩ => absurd z (by decide)⟩
  · rw [h2, h3]; exact ⟨fun z => absurd z.1 (by decide), fun ⟨_, z, _⟩ => absurd z (by decide)⟩
theorem tk_numV {t : Nat → Nat} {L p j : Nat} (h1 : srA t L (tkS t L p) = 2) (h2 : tkE t L p = tkS t L p + 1) (h3 : t (tkS t L p) = 48 + j) : tkK t L p = 2 ∧ tkV t L p 0 = nI j ∧ tkP t L p = tkE t L p := by
  rcases tkc t L p with ⟨-, -, g⟩ | ⟨-, -, g, -⟩ | ⟨-, -, -, g4, -, g6, g7⟩ | ⟨-, -, g, -⟩ | ⟨-, -, g⟩
  · rw [g] at h1; cases h1
  · rw [g] at h1; cases h1
  · have e1 : tkP t L p - tkS t L p = 1 := by omega
    rw [g6, g7, g4]
    unfold nmK nmV
    rw [if_pos e1, if_pos e1, h3, Nat.add_sub_cancel_left]
    exact ⟨rfl, rfl, rfl⟩
  · rw [g] at h1; cases h1
  · rw [g] at h1; cases h1
/-- a row -/
theorem wdK_3 {t : Nat → Nat} {s e : Nat} : wdK t s e = 3 ↔ RQ t s e := by
  unfold wdK
  have n0 : ∀ i, i < 4 → WQ t s e i → e - s < 9 := by
    intro i hi h
    have h1 := h.1
    have : lenS.getD i 0 < 9 := (by decide : ∀ i, i < 4 → lenS.getD i 0 < 9) i hi
    omega
  by_cases w0 : WQ t s e 0
  · rw [if_pos w0]; exact ⟨fun z => absurd z (by decide), fun z => absurd z.1 (by have := n0 0 (by omega) w0; omega)⟩
  rw [if_neg w0]
  by_cases w1 : WQ t s e 1
  · rw [if_pos w1]; exact ⟨fun z => absurd z (by decide), fun z => absurd z.1 (by have := n0 1 (by omega) w1; omega)⟩
  rw [if_neg w1]
  by_cases w2 : WQ t s e 2
  · rw [if_pos w2]; exact ⟨fun z => absurd z (by decide), fun z => absurd z.1 (by have := n0 2 (by omega) w2; omega)⟩
  rw [if_neg w2]
  by_cases w3 : WQ t s e 3
  · rw [if_pos w3]; exact ⟨fun z => absurd z (by decide), fun z => absurd z.1 (by have := n0 3 (by omega) w3; omega)⟩
  rw [if_neg w3]
  by_cases w4 : RQ t s e
  · rw [if_pos w4]; exact ⟨fun _ => w4, fun _ => rfl⟩
  · rw [if_neg w4]; exact ⟨fun z => absurd z (by decide), fun z => absurd z w4⟩
theorem tk_row {t : Nat → Nat} {L p : Nat} : (srA t L (tkS t L p) = 1 ∧ RQ t (tkS t L p) (tkE t L p)) ↔ tkK t L p = 3 := by
  rcases tkc t L p with ⟨h1, h2, h3⟩ | ⟨h1, h2, h3, h4⟩ | ⟨h1, h2, h3, h4, h5, h6, h7⟩ | ⟨h1, h2, h3, h4, h5, h6, h7⟩ | ⟨h1, h2, h3⟩
  · rw [h2, h3]; exact ⟨fun z => absurd z.1 (by decide), fun z => absurd z (by decide)⟩
  · rw [h2, h3]; exact ⟨fun z => absurd z.1 (by decide), fun z => absurd z (by decide)⟩
  · rw [h3, h6]; exact ⟨fun z => absurd z.1 (by decide), fun z => absurd z (nmK_ne _ _ _).2.2⟩
  · rw [h3, h6, h4, wdK_3]; exact ⟨fun z => z.2, fun z => ⟨rfl, z⟩⟩
  · rw [h2, h3]; exact ⟨fun z => absurd z.1 (by decide), fun z => absurd z (by decide)⟩
theorem tk_rowV {t : Nat → Nat} {L p : Nat} (h : tkK t L p = 3) : tkV t L p 0 = nI (mk (fun n => t (tkS t L p + n) == 120) 9) ∧ tkP t L p = tkE t L p := by
  rcases tkc t L p with ⟨h1, h2, h3⟩ | ⟨h1, h2, h3, h4⟩ | ⟨h1, h2, h3, h4, h5, h6, h7⟩ | ⟨h1, h2, h3, h4, h5, h6, h7⟩ | ⟨h1, h2, h3⟩
  · rw [h] at h2; cases h2
  · rw [h] at h2; cases h2
  · rw [h] at h6; exact absurd h6.symm (nmK_ne _ _ _).2.2
  · rw [h] at h6
    have h8 := wdK_3.mp h6.symm
    refine ⟨?_, h4.symm⟩
    rw [h7]
    generalize tkS t L p = s at *
    generalize tkP t L p = e at *
    have n0 : ∀ i, i < 4 → ¬ WQ t s e i := by
      intro i hi g
      have h1 := g.1
      have : lenS.getD i 0 < 9 := (by decide : ∀ i, i < 4 → lenS.getD i 0 < 9) i hi
      have := h8.1
      omega
    unfold wdV
    rw [if_neg (n0 0 (by omega)), if_neg (n0 1 (by omega)), if_neg (n0 2 (by omega)), if_neg (n0 3 (by omega)), if_pos h8]
  · rw [h] at h2; cases h2
/-- the words -/
theorem cd_k {t : Nat → Nat} {s : Nat} (k : Nat) (hk : k < 7) (h : ∀ j, j < k → 97 ≤ t (s + j) ∧ t (s + j) ≤ 122) :
    (cdN t s k = 7038329 ↔ k = 3 ∧ t s = 107 ∧ t (s + 1) = 101 ∧ t (s + 2) = 121) ∧
    (cdN t s k = 1819239275 ↔ k = 4 ∧ t s = 108 ∧ t (s + 1) = 111 ∧ t (s + 2) = 99 ∧ t (s + 3) = 107) ∧
    (cdN t s k = 123581014175598 ↔ k = 6 ∧ t s = 112 ∧ t (s + 1) = 101 ∧ t (s + 2) = 114 ∧ t (s + 3) = 115 ∧ t (s + 4) = 111 ∧ t (s + 5) = 110) ∧
    (cdN t s k = 448545973363 ↔ k = 5 ∧ t s = 104 ∧ t (s + 1) = 111 ∧ t (s + 2) = 108 ∧ t (s + 3) = 100 ∧ t (s + 4) = 115) := by
  have g0 : 0 < k → 97 ≤ t s ∧ t s ≤ 122 := fun z => h 0 z
  have g1 : 1 < k → _ := fun z => h 1 z
  have g2 : 2 < k → _ := fun z => h 2 z
  have g3 : 3 < k → _ := fun z => h 3 z
  have g4 : 4 < k → _ := fun z => h 4 z
  have g5 : 5 < k → _ := fun z => h 5 z
  clear h
  generalize h0 : t s = a0 at *
  generalize h1 : t (s + 1) = a1 at *
  generalize h2 : t (s + 2) = a2 at *
  generalize h3 : t (s + 3) = a3 at *
  generalize h4 : t (s + 4) = a4 at *
  generalize h5 : t (s + 5) = a5 at *
  rcases (by omega : k = 0 ∨ k = 1 ∨ k = 2 ∨ k = 3 ∨ k = 4 ∨ k = 5 ∨ k = 6) with rfl | rfl | rfl | rfl | rfl | rfl | rfl
  all_goals
    simp only [cdN, Nat.add_zero, h0, h1, h2, h3, h4, h5]
    try have b0 := g0 (by decide)
    try have b1 := g1 (by decide)
    try have b2 := g2 (by decide)
    try have b3 := g3 (by decide)
    try have b4 := g4 (by decide)
    try have b5 := g5 (by decide)
    clear g0 g1 g2 g3 g4 g5
    refine ⟨?_, ?_, ?_, ?_⟩ <;> constructor <;> intro hz <;> first | omega | (have e0 : a0 = 107 := (by omega); have e1 : a1 = 101 := (by omega); have e2 : a2 = 121 := (by omega); exact ⟨trivial, e0, e1, e2⟩) | (have e0 : a0 = 108 := (by omega); have e1 : a1 = 111 := (by omega); have e2 : a2 = 99 := (by omega); have e3 : a3 = 107 := (by omega); exact ⟨trivial, e0, e1, e2, e3⟩) | (have e0 : a0 = 112 := (by omega); have e1 : a1 = 101 := (by omega); have e2 : a2 = 114 := (by omega); have e3 : a3 = 115 := (by omega); have e4 : a4 = 111 := (by omega); have e5 : a5 = 110 := (by omega); exact ⟨trivial, e0, e1, e2, e3, e4, e5⟩) | (have e0 : a0 = 104 := (by omega); have e1 : a1 = 111 := (by omega); have e2 : a2 = 108 := (by omega); have e3 : a3 = 100 := (by omega); have e4 : a4 = 115 := (by omega); exact ⟨trivial, e0, e1, e2, e3, e4⟩)
theorem wq_iff {t : Nat → Nat} {s e : Nat} (ht : ∀ j, j < e - s → t (s + j) < 256) :
    (WQ t s e 0 ↔ e - s = 3 ∧ t s = 107 ∧ t (s + 1) = 101 ∧ t (s + 2) = 121) ∧
    (WQ t s e 1 ↔ e - s = 4 ∧ t s = 108 ∧ t (s + 1) = 111 ∧ t (s + 2) = 99 ∧ t (s + 3) = 107) ∧
    (WQ t s e 2 ↔ e - s = 6 ∧ t s = 112 ∧ t (s + 1) = 101 ∧ t (s + 2) = 114 ∧ t (s + 3) = 115 ∧ t (s + 4) = 111 ∧ t (s + 5) = 110) ∧
    (WQ t s e 3 ↔ e - s = 5 ∧ t s = 104 ∧ t (s + 1) = 111 ∧ t (s + 2) = 108 ∧ t (s + 3) = 100 ∧ t (s + 4) = 115) := by
  have ob : ∀ j, j < e - s → ∀ c, c < 256 → nI (t (s + j)) = nI c → t (s + j) = c := fun j hj c hc e1 => nI_inj (by have := ht j hj; omega) (by omega) e1
  refine ⟨⟨fun ⟨h1, h2⟩ => ?_, fun ⟨h1, h2, h3, h4⟩ => ⟨h1, ?_⟩⟩, ⟨fun ⟨h1, h2⟩ => ?_, fun ⟨h1, h2, h3, h4, h5⟩ => ⟨h1, ?_⟩⟩, ⟨fun ⟨h1, h2⟩ => ?_, fun ⟨h1, h2, h3, h4, h5, h6, h7⟩ => ⟨h1, ?_⟩⟩, ⟨fun ⟨h1, h2⟩ => ?_, fun ⟨h1, h2, h3, h4, h5, h6⟩ => ⟨h1, ?_⟩⟩⟩
  · have h1 : e - s = 3 := h1
    exact ⟨h1, ob 0 (by omega) 107 (by omega) (h2 0 (by decide)), ob 1 (by omega) 101 (by omega) (h2 1 (by decide)), ob 2 (by omega) 121 (by omega) (h2 2 (by decide))⟩
  · intro q hq
    have hq : q < 3 := hq
    rcases (by omega : q = 0 ∨ q = 1 ∨ q = 2) with rfl | rfl | rfl
    · rw [Nat.add_zero, h2]; rfl
    · rw [h3]; rfl
    · rw [h4]; rfl
  · have h1 : e - s = 4 := h1
    exact ⟨h1, ob 0 (by omega) 108 (by omega) (h2 0 (by decide)), ob 1 (by omega) 111 (by omega) (h2 1 (by decide)), ob 2 (by omega) 99 (by omega) (h2 2 (by decide)), ob 3 (by omega) 107 (by omega) (h2 3 (by decide))⟩
  · intro q hq
    have hq : q < 4 := hq
    rcases (by omega : q = 0 ∨ q = 1 ∨ q = 2 ∨ q = 3) with rfl | rfl | rfl | rfl
    · rw [Nat.add_zero, h2]; rfl
    · rw [h3]; rfl
    · rw [h4]; rfl
    · rw [h5]; rfl
  · have h1 : e - s = 6 := h1
    exact ⟨h1, ob 0 (by omega) 112 (by omega) (h2 0 (by decide)), ob 1 (by omega) 101 (by omega) (h2 1 (by decide)), ob 2 (by omega) 114 (by omega) (h2 2 (by decide)), ob 3 (by omega) 115 (by omega) (h2 3 (by decide)), ob 4 (by omega) 111 (by omega) (h2 4 (by decide)), ob 5 (by omega) 110 (by omega) (h2 5 (by decide))⟩
  · intro q hq
    have hq : q < 6 := hq
    rcases (by omega : q = 0 ∨ q = 1 ∨ q = 2 ∨ q = 3 ∨ q = 4 ∨ q = 5) with rfl | rfl | rfl | rfl | rfl | rfl
    · rw [Nat.add_zero, h2]; rfl
    · rw [h3]; rfl
    · rw [h4]; rfl
    · rw [h5]; rfl
    · rw [h6]; rfl
    · rw [h7]; rfl
  · have h1 : e - s = 5 := h1
    exact ⟨h1, ob 0 (by omega) 104 (by omega) (h2 0 (by decide)), ob 1 (by omega) 111 (by omega) (h2 1 (by decide)), ob 2 (by omega) 108 (by omega) (h2 2 (by decide)), ob 3 (by omega) 100 (by omega) (h2 3 (by decide)), ob 4 (by omega) 115 (by omega) (h2 4 (by decide))⟩
  · intro q hq
    have hq : q < 5 := hq
    rcases (by omega : q = 0 ∨ q = 1 ∨ q = 2 ∨ q = 3 ∨ q = 4) with rfl | rfl | rfl | rfl | rfl
    · rw [Nat.add_zero, h2]; rfl
    · rw [h3]; rfl
    · rw [h4]; rfl
    · rw [h5]; rfl
    · rw [h6]; rfl
theorem sk_all {P : Nat → Bool} {t : Nat → Nat} : ∀ n i j, i ≤ j → j < sk P t n i → P (t j) = true := by
  intro n
  induction n with
  | zero => intro i j h1 h2; rw [sk] at h2; omega
  | succ n ih =>
    intro i j h1 h2
    rw [sk] at h2
    split at h2
    · rename_i g
      rcases Nat.eq_or_lt_of_le h1 with e | e
      · rw [← e]; exact g
      · exact ih (i + 1) j e h2
    · omega
/-- the word at hand begins an item: of both sides -/
theorem vb_K {t : Nat → Nat} {L p : Nat} (ht : ∀ j, j < L → t j < 256) :
    (vbV t L (tkS t L p) (tkE t L p) = 0 ∧ tkK t L p = 5 ∧ tkP t L p = tkE t L p) ∨ (vbV t L (tkS t L p) (tkE t L p) = 1 ∧ tkK t L p = 6 ∧ tkP t L p = tkE t L p) ∨ (vbV t L (tkS t L p) (tkE t L p) = 2 ∧ tkK t L p = 7 ∧ tkP t L p = tkE t L p) ∨ (vbV t L (tkS t L p) (tkE t L p) = 3 ∧ tkK t L p = 8 ∧ tkP t L p = tkE t L p) ∨ (vbV t L (tkS t L p) (tkE t L p) = -9 ∧ tkK t L p ≠ 5 ∧ tkK t L p ≠ 6 ∧ tkK t L p ≠ 7 ∧ tkK t L p ≠ 8) := by
  unfold vbV
  rcases tkc t L p with ⟨h1, h2, h3⟩ | ⟨h1, h2, h3, h4⟩ | ⟨h1, h2, h3, h4, h5, h6, h7⟩ | ⟨h1, h2, h3, h4, h5, h6, h7⟩ | ⟨h1, h2, h3⟩
  · rw [h2, h3, if_neg (fun z => absurd z.1 (by decide))]
    exact Or.inr (Or.inr (Or.inr (Or.inr ⟨rfl, by decide, by decide, by decide, by decide⟩)))
  · rw [h2, h3, if_neg (fun z => absurd z.1 (by decide))]
    exact Or.inr (Or.inr (Or.inr (Or.inr ⟨rfl, by decide, by decide, by decide, by decide⟩)))
  · rw [h6, h3, if_neg (fun z => absurd z.1 (by decide))]
    refine Or.inr (Or.inr (Or.inr (Or.inr ⟨rfl, ?_⟩)))
    unfold nmK
    split
    · exact ⟨by decide, by decide, by decide, by decide⟩
    · split <;> exact ⟨by decide, by decide, by decide, by decide⟩
  · rw [h6, h3, h4]
    have hge := sk_ge isW t (L - tkS t L p) (tkS t L p)
    have hall := sk_all (P := isW) (t := t) (L - tkS t L p) (tkS t L p)
    rw [← h5] at hge hall
    generalize tkS t L p = s at *
    generalize tkP t L p = e at *
    have hW : ∀ j, j < e - s → 97 ≤ t (s + j) ∧ t (s + j) ≤ 122 := fun j hj => by
      have := hall (s + j) (by omega) (by omega)
      unfold isW at this
      simpa using this
    obtain ⟨q0, q1, q2, q3⟩ := wq_iff (t := t) (s := s) (e := e) fun j hj => ht _ (by omega)
    unfold wdK
    by_cases h7 : e - s < 7
    · obtain ⟨c0, c1, c2, c3⟩ := cd_k (e - s) h7 hW
      rw [← q0] at c0
      rw [← q1] at c1
      rw [← q2] at c2
      rw [← q3] at c3
      rw [if_pos ⟨rfl, h7⟩]
      unfold cdV
      by_cases w0 : WQ t s e 0
      · rw [if_pos (c0.mpr w0), if_pos w0]; exact Or.inl ⟨rfl, rfl, rfl⟩
      rw [if_neg (fun z => w0 (c0.mp z)), if_neg w0]
      by_cases w1 : WQ t s e 1
      · rw [if_pos (c1.mpr w1), if_pos w1]; exact Or.inr (Or.inl ⟨rfl, rfl, rfl⟩)
      rw [if_neg (fun z => w1 (c1.mp z)), if_neg w1]
      by_cases w2 : WQ t s e 2
      · rw [if_pos (c2.mpr w2), if_pos w2]; exact Or.inr (Or.inr (Or.inl ⟨rfl, rfl, rfl⟩))
      rw [if_neg (fun z => w2 (c2.mp z)), if_neg w2]
      by_cases w3 : WQ t s e 3
      · rw [if_pos (c3.mpr w3), if_pos w3]; exact Or.inr (Or.inr (Or.inr (Or.inl ⟨rfl, rfl, rfl⟩)))
      rw [if_neg (fun z => w3 (c3.mp z)), if_neg w3]
      refine Or.inr (Or.inr (Or.inr (Or.inr ⟨rfl, ?_⟩)))
      split <;> exact ⟨by decide, by decide, by decide, by decide⟩
    · rw [if_neg (fun z => h7 z.2)]
      rw [if_neg (fun z => h7 (by have := q0.mp z; omega)), if_neg (fun z => h7 (by have := q1.mp z; omega)), if_neg (fun z => h7 (by have := q2.mp z; omega)), if_neg (fun z => h7 (by have := q3.mp z; omega))]
      refine Or.inr (Or.inr (Or.inr (Or.inr ⟨rfl, ?_⟩)))
      split <;> exact ⟨by decide, by decide, by decide, by decide⟩
  · rw [h2, h3, if_neg (fun z => absurd z.1 (by decide))]
    exact Or.inr (Or.inr (Or.inr (Or.inr ⟨rfl, by decide, by decide, by decide, by decide⟩)))
theorem tk_stop {t : Nat → Nat} {L p : Nat} : (tkK t L p = 1 ↔ srA t L (tkS t L p) = 3) ∧ (tkK t L p = 0 ↔ srA t L (tkS t L p) = 0) ∧ (tkK t L p = 1 → tkP t L p = tkE t L p) := by
  rcases tkc t L p with ⟨h1, h2, h3⟩ | ⟨h1, h2, h3, h4⟩ | ⟨h1, h2, h3, h4, h5, h6, h7⟩ | ⟨h1, h2, h3, h4, h5, h6, h7⟩ | ⟨h1, h2, h3⟩
  · rw [h2, h3]; exact ⟨⟨fun z => absurd z (by decide), fun z => absurd z (by decide)⟩, ⟨fun _ => rfl, fun _ => rfl⟩, fun z => absurd z (by decide)⟩
  · rw [h2, h3]; exact ⟨⟨fun _ => rfl, fun _ => rfl⟩, ⟨fun z => absurd z (by decide), fun z => absurd z (by decide)⟩, fun _ => h4⟩
  · have := nmK_ne t (tkS t L p) (tkP t L p)
    rw [h6, h3]; exact ⟨⟨fun z => absurd z this.2.1, fun z => absurd z (by decide)⟩, ⟨fun z => absurd z this.1, fun z => absurd z (by decide)⟩, fun z => absurd z this.2.1⟩
  · have := wdK_ne t (tkS t L p) (tkP t L p)
    rw [h6, h3]; exact ⟨⟨fun z => absurd z this.2.1, fun z => absurd z (by decide)⟩, ⟨fun z => absurd z this.1, fun z => absurd z (by decide)⟩, fun z => absurd z this.2.1⟩
  · rw [h2, h3]; exact ⟨⟨fun z => absurd z (by decide), fun z => absurd z (by decide)⟩, ⟨fun z => absurd z (by decide), fun z => absurd z (by decide)⟩, fun z => absurd z (by decide)⟩
