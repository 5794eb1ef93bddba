/-! The class and the model hold the same. -/
/-- one change that may be undone: of the state n r h it makes n' r' h' again -/
def CE (a4 a5 a6 a7 x y z : Int32) (p n : Nat) (r : Nat → Nat) (h : Nat → Int32) (n' : Nat) (r' : Nat → Nat) (h' : Nat → Int32) (k : Nat) : Prop :=
  k < 8 ∧ n' ≤ 8 ∧ (∀ j, j < n' → r' j < 512) ∧ HH h' n' p ∧ a4 = nI n' ∧ a5 = nI k ∧ y = nI k ∧
  ((x = 0 ∧ n = n' + 1 ∧ k = n' ∧ ∀ j, j < n' → r' j = r j ∧ h' j = h j) ∨
   (x = 1 ∧ n = n' ∧ k < n ∧ (∀ j, j < n → r' j = r j) ∧ (∀ j, j < n → j ≠ k → h' j = h j) ∧ z = h' k ∧ a6 = nI (r' k) ∧ a7 = h' k) ∨
   (x = 2 ∧ n = n' ∧ k < n ∧ (∀ j, j < n → h' j = h j) ∧ (∀ j, j < n → j ≠ k → r' j = r j) ∧ ∃ t, t ≤ 8 ∧ z = nI t ∧ r k = r' k ^^^ 2 ^ t ∧ a6 = nI (r' k) ∧ a7 = h' k))
/-- the changes, the latest first -/
def CH (f4 f5 f6 f7 s : Nat → Int32) (p : Nat) : Nat → Nat → (Nat → Nat) → (Nat → Int32) → Prop
  | 0, _, _, _ => True
  | u + 1, n, r, h => ∃ n' r' h' k, CE (f4 u) (f5 u) (f6 u) (f7 u) (s (18 + 3 * u)) (s (18 + 3 * u + 1)) (s (18 + 3 * u + 2)) p n r h n' r' h' k ∧ CH f4 f5 f6 f7 s p u n' r' h'
theorem CH_s (f4 f5 f6 f7 s : Nat → Int32) (p u n : Nat) (r : Nat → Nat) (h : Nat → Int32) : CH f4 f5 f6 f7 s p (u + 1) n r h = ∃ n' r' h' k, CE (f4 u) (f5 u) (f6 u) (f7 u) (s (18 + 3 * u)) (s (18 + 3 * u + 1)) (s (18 + 3 * u + 2)) p n r h n' r' h' k ∧ CH f4 f5 f6 f7 s p u n' r' h' := rfl
theorem CH_cg {f4 f5 f6 f7 s f4' f5' f6' f7' s' : Nat → Int32} {p : Nat} : ∀ u n r h, (∀ j, j < u → f4' j = f4 j ∧ f5' j = f5 j ∧ f6' j = f6 j ∧ f7' j = f7 j) → (∀ j, 18 ≤ j → j < 18 + 3 * u → s' j = s j) → CH f4 f5 f6 f7 s p u n r h → CH f4' f5' f6' f7' s' p u n r h := by
  intro u
  induction u with
  | zero => intro n r h _ _ _; exact trivial
  | succ u ih =>
    intro n r h h1 h2 h3
    rw [CH_s] at h3 ⊢
    obtain ⟨n', r', h', k, he, hc⟩ := h3
    obtain ⟨e4, e5, e6, e7⟩ := h1 u (by omega)
    refine ⟨n', r', h', k, ?_, ih n' r' h' (fun j hj => h1 j (by omega)) (fun j hj hj2 => h2 j hj (by omega)) hc⟩
    rw [e4, e5, e6, e7, h2 (18 + 3 * u) (by omega) (by omega), h2 (18 + 3 * u + 1) (by omega) (by omega), h2 (18 + 3 * u + 2) (by omega) (by omega)]
    exact he
theorem CH_sh {f4 f5 f6 f7 s f4' f5' f6' f7' s' : Nat → Int32} {p : Nat} : ∀ u n r h, (∀ j, j < u → f4' j = f4 (j + 1) ∧ f5' j = f5 (j + 1) ∧ f6' j = f6 (j + 1) ∧ f7' j = f7 (j + 1)) → (∀ j, 18 ≤ j → j < 18 + 3 * u → s' j = s (j + 3)) → CH f4 f5 f6 f7 s p (u + 1) n r h → CH f4' f5' f6' f7' s' p u n r h := by
  intro u
  induction u with
  | zero => intro n r h _ _ _; exact trivial
  | succ u ih =>
    intro n r h h1 h2 h3
    rw [CH_s] at h3
    rw [CH_s]
    obtain ⟨n', r', h', k, he, hc⟩ := h3
    obtain ⟨e4, e5, e6, e7⟩ := h1 u (by omega)
    refine ⟨n', r', h', k, ?_, ih n' r' h' (fun j hj => h1 j (by omega)) (fun j hj hj2 => h2 j hj (by omega)) hc⟩
    rw [e4, e5, e6, e7, h2 (18 + 3 * u) (by omega) (by omega), h2 (18 + 3 * u + 1) (by omega) (by omega), h2 (18 + 3 * u + 2) (by omega) (by omega)]
    rw [show 18 + 3 * u + 3 = 18 + 3 * (u + 1) by omega, show 18 + 3 * u + 1 + 3 = 18 + 3 * (u + 1) + 1 by omega, show 18 + 3 * u + 2 + 3 = 18 + 3 * (u + 1) + 2 by omega]
    exact he
/-- one change more -/
def ru (u : Nat) : Nat := if u < 10 then u else 9
def rq (f : Nat → Int32) (u : Nat) (x : Int32) : Nat → Int32 := if u < 10 then upd f u x else upd (shf f 9) 9 x
theorem ru_le (u : Nat) : ru u + 1 ≤ 10 := by unfold ru; split <;> omega
theorem rq_top (f : Nat → Int32) (u : Nat) (x : Int32) : rq f u x (ru u) = x := by
  unfold rq ru
  split
  · rw [upd_s]
  · rw [upd_s]
theorem CH_push {f4 f5 f6 f7 s s2 : Nat → Int32} {p u n : Nat} {r : Nat → Nat} {h : Nat → Int32} (hu : u ≤ 10) (hc : CH f4 f5 f6 f7 s p u n r h) (hs : ∀ j, 18 ≤ j → s2 j = s j) (a b e d x y z : Int32) : CH (rq f4 u a) (rq f5 u b) (rq f6 u e) (rq f7 u d) (ac3 s2 u x y z) p (ru u) n r h := by
  unfold rq ru ac3
  by_cases h1 : u < 10
  · rw [if_pos h1, if_pos h1, if_pos h1, if_pos h1, if_pos h1, if_neg (by omega)]
    refine CH_cg u n r h (fun j hj => ⟨upd_n _ _ (by omega), upd_n _ _ (by omega), upd_n _ _ (by omega), upd_n _ _ (by omega)⟩) (fun j hj hj2 => ?_) hc
    unfold ps3
    rw [upd_n _ _ (by omega), upd_n _ _ (by omega), upd_n _ _ (by omega), upd_n _ _ (by omega)]
    exact hs j hj
  · have e10 : u = 10 := by omega
    subst e10
    rw [if_neg h1, if_neg h1, if_neg h1, if_neg h1, if_neg h1, if_pos rfl]
    refine CH_sh 9 n r h (fun j hj => ?_) (fun j hj hj2 => ?_) hc
    · rw [upd_n _ _ (by omega), upd_n _ _ (by omega), upd_n _ _ (by omega), upd_n _ _ (by omega)]
      unfold shf
      rw [if_pos hj, if_pos hj, if_pos hj, if_pos hj]
      exact ⟨rfl, rfl, rfl, rfl⟩
    · unfold ps3
      rw [upd_n _ _ (by omega), upd_n _ _ (by omega), upd_n _ _ (by omega), upd_n _ _ (by omega), upd_n _ _ (by omega)]
      unfold sh3
      rw [if_pos (by omega)]
      exact hs _ (by omega)
theorem ac3_at (s2 : Nat → Int32) {u : Nat} (hu : u ≤ 10) (x y z : Int32) : ac3 s2 u x y z (18 + 3 * ru u) = x ∧ ac3 s2 u x y z (18 + 3 * ru u + 1) = y ∧ ac3 s2 u x y z (18 + 3 * ru u + 2) = z ∧ ac3 s2 u x y z 17 = nI (ru u + 1) ∧ ∀ j, j < 17 → ac3 s2 u x y z j = s2 j := by
  unfold ac3 ru
  by_cases h1 : u < 10
  · rw [if_pos h1, if_neg (by omega)]
    unfold ps3
    refine ⟨?_, ?_, ?_, ?_, fun j hj => ?_⟩
    · rw [upd_n _ _ (by omega), upd_n _ _ (by omega), upd_n _ _ (by omega), upd_s]
    · rw [upd_n _ _ (by omega), upd_n _ _ (by omega), upd_s]
    · rw [upd_n _ _ (by omega), upd_s]
    · rw [upd_s]
    · rw [upd_n _ _ (by omega), upd_n _ _ (by omega), upd_n _ _ (by omega), upd_n _ _ (by omega)]
  · have e10 : u = 10 := by omega
    subst e10
    rw [if_neg h1, if_pos rfl]
    unfold ps3
    refine ⟨?_, ?_, ?_, ?_, fun j hj => ?_⟩
    · rw [upd_n _ _ (by omega), upd_n _ _ (by omega), upd_n _ _ (by omega), upd_s]
    · rw [upd_n _ _ (by omega), upd_n _ _ (by omega), upd_s]
    · rw [upd_n _ _ (by omega), upd_s]
    · rw [upd_s]
    · rw [upd_n _ _ (by omega), upd_n _ _ (by omega), upd_n _ _ (by omega), upd_n _ _ (by omega), upd_n _ _ (by omega)]
      unfold sh3
      rw [if_neg (by omega)]
theorem rem_eq (M : AM) {u : Nat} (hu : u ≤ 10) (k : Nat) : rem M u k = sI 10 (nI (ru u + 1)) (o4 4 (rq (M.2.2 4) u (M.1 9)) (rq (M.2.2 5) u (nI k)) (rq (M.2.2 6) u (M.2.2 2 k)) (rq (M.2.2 7) u (M.2.2 3 k)) M) := by
  unfold rem rq ru
  by_cases h1 : u < 10
  · rw [if_pos h1, if_pos h1, if_pos h1, if_pos h1, if_pos h1, if_pos h1]; rfl
  · rw [if_neg h1, if_neg h1, if_neg h1, if_neg h1, if_neg h1, if_neg h1]
    unfold psh o4
    dsimp only [rdI1, rdI2, rdA1, rdA21, rdA22, rdL1, rdL22, rdL21, upN_at, Nat.reduceAdd, Nat.reduceSub]
    simp only [sA_sA, sA_cm, sI_sA, sI_sI, sI_cm, sL_sA, sL_sI, sL_sL, sL_cm, Nat.reduceLT]
/-- a ring of the class and one of the model -/
def RW (sz kn : Int32) (f2 f3 f4 f5 f6 f7 s : Nat → Int32) (p n u : Nat) (r : Nat → Nat) (h : Nat → Int32) : Prop :=
  sz = nI n ∧ n ≤ 8 ∧ kn = nI u ∧ u ≤ 10 ∧ s 0 = nI n ∧ s 17 = nI u ∧ (∀ k, k < n → f2 k = nI (r k) ∧ s (1 + k) = nI (r k) ∧ r k < 512) ∧ (∀ k, k < n → f3 k = h k ∧ s (9 + k) = h k) ∧ HH h n p ∧ CH f4 f5 f6 f7 s p u n r h
theorem RW_cg {sz kn : Int32} {f2 f3 f4 f5 f6 f7 s f2' f3' f4' f5' f6' f7' s' : Nat → Int32} {p n u : Nat} {r : Nat → Nat} {h : Nat → Int32} (hW : RW sz kn f2 f3 f4 f5 f6 f7 s p n u r h) (h8 : ∀ j, j < 8 → f2' j = f2 j ∧ f3' j = f3 j) (h10 : ∀ j, j < 10 → f4' j = f4 j ∧ f5' j = f5 j ∧ f6' j = f6 j ∧ f7' j = f7 j) (h48 : ∀ j, j < 48 → s' j = s j) : RW sz kn f2' f3' f4' f5' f6' f7' s' p n u r h := by
  obtain ⟨w1, w2, w3, w4, w5, w6, w7, w8, w9, w10⟩ := hW
  refine ⟨w1, w2, w3, w4, by rw [h48 0 (by omega)]; exact w5, by rw [h48 17 (by omega)]; exact w6, fun k hk => ?_, fun k hk => ?_, w9, CH_cg u n r h (fun j hj => h10 j (by omega)) (fun j _ hj => h48 j (by omega)) w10⟩
  · rw [(h8 k (by omega)).1, h48 (1 + k) (by omega)]; exact w7 k hk
  · rw [(h8 k (by omega)).2, h48 (9 + k) (by omega)]; exact w8 k hk
/-- an image -/
def IM (kp sz kn kf : Int32) (f2 f3 f4 f5 f6 f7 s : Nat → Int32) (p : Nat) : Prop := (kp = 0 ∧ kf = 0) ∨ (kp = 1 ∧ kf = 1 ∧ ∃ n u r h, RW sz kn f2 f3 f4 f5 f6 f7 s p n u r h)
/-- class and model hold the same: n keys of rows r, who has them h; c locks of rows lk; p people; a text of L bytes t; u changes; images; the trace -/
def IV (M : AM) (n c p : Nat) (r : Nat → Nat) (h : Nat → Int32) (lk : Nat → Nat) (L : Nat) (t : Nat → Nat) (u : Nat) : Prop :=
  XW M n c p r h lk ∧ MW M n c p r h lk ∧ HH h n p ∧ (M.1 10 = nI u ∧ M.2.2 33 17 = nI u ∧ u ≤ 10) ∧ CH (M.2.2 4) (M.2.2 5) (M.2.2 6) (M.2.2 7) (M.2.2 33) p u n r h ∧ TX M L t ∧ TT M L t ∧
  IM (M.1 21) (M.1 19) (M.1 20) (M.2.2 35 0) (M.2.2 15) (M.2.2 16) (M.2.2 17) (M.2.2 18) (M.2.2 19) (M.2.2 20) (M.2.2 34) p ∧
  IM (M.1 24) (M.1 22) (M.1 23) (M.2.2 35 1) (M.2.2 21) (M.2.2 22) (M.2.2 23) (M.2.2 24) (M.2.2 25) (M.2.2 26) (fun j => M.2.2 34 (48 + j)) p ∧
  M.2.1 0 = M.2.1 1
def Inv (M : AM) : Prop := ∃ n c p r h lk L t u, IV M n c p r h lk L t u
/-- what it looks at -/
def ofI (i : Nat) : Bool := Nat.beq i 0 || (Nat.ble 5 i && Nat.ble i 11) || (Nat.ble 18 i && Nat.ble i 25)
def ofA (a : Nat) : Bool := Nat.ble a 7 || (Nat.ble 15 a && Nat.ble a 26) || Nat.beq a 30 || Nat.beq a 31 || (Nat.ble 33 a && Nat.ble a 35)
theorem IV_cg {M M' : AM} {n c p : Nat} {r : Nat → Nat} {h : Nat → Int32} {lk : Nat → Nat} {L : Nat} {t : Nat → Nat} {u : Nat} (hV : IV M n c p r h lk L t u) (hi : ∀ i, ofI i = true → M'.1 i = M.1 i) (hl : M'.2.1 = M.2.1) (ha : ∀ a, ofA a = true → M'.2.2 a = M.2.2 a) : IV M' n c p r h lk L t u := by
  unfold IV XW MW TX TT at hV ⊢
  rw [hi 0 rfl, hi 5 rfl, hi 6 rfl, hi 9 rfl, hi 10 rfl, hi 19 rfl, hi 20 rfl, hi 21 rfl, hi 22 rfl, hi 23 rfl, hi 24 rfl, hi 25 rfl, hl, ha 0 rfl, ha 1 rfl, ha 2 rfl, ha 3 rfl, ha 4 rfl, ha 5 rfl, ha 6 rfl, ha 7 rfl, ha 15 rfl, ha 16 rfl, ha 17 rfl, ha 18 rfl, ha 19 rfl, ha 20 rfl, ha 21 rfl, ha 22 rfl, ha 23 rfl, ha 24 rfl, ha 25 rfl, ha 26 rfl, ha 30 rfl, ha 31 rfl, ha 33 rfl, ha 34 rfl, ha 35 rfl]
  exact hV
theorem Inv_cg {M M' : AM} (hV : Inv M) (hi : ∀ i, ofI i = true → M'.1 i = M.1 i) (hl : M'.2.1 = M.2.1) (ha : ∀ a, ofA a = true → M'.2.2 a = M.2.2 a) : Inv M' := by
  obtain ⟨n, c, p, r, h, lk, L, t, u, hV⟩ := hV
  exact ⟨n, c, p, r, h, lk, L, t, u, IV_cg hV hi hl ha⟩
theorem Inv_A {M : AM} (hV : Inv M) {a : Nat} (ha : ofA a = false) (f : Nat → Int32) : Inv (sA a f M) := Inv_cg hV (fun _ _ => rfl) rfl (fun b hb => by
  rw [rdA22, upN_n _ _ (fun e => by rw [e, ha] at hb; cases hb)])
/-- the model's call answers v, and the same is held behind it -/
def Ans (S : SP) (as : List AV) (v : AV) (M1 : AM) : Prop := ∀ post2 : PO, (∀ M2, Inv M2 → post2 (some v) M2) → S as M1 post2
