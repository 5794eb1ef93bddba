/-! Texts typed, keys cut, given, lost, forged, undone; images: class and model go on alike. -/
theorem bp_b (x : Int32) : x.toInt8.toInt32 &&& 255 = x &&& 255 := by
  apply Int32.toBitVec_inj.mp
  rw [Int32.toBitVec_and, Int32.toBitVec_and, Int8.toBitVec_toInt32, Int32.toBitVec_toInt8]
  apply BitVec.eq_of_getLsbD_eq
  intro i hi
  rw [BitVec.getLsbD_and, BitVec.getLsbD_and]
  have hm : ∀ i < 32, 8 ≤ i → (255 : Int32).toBitVec.getLsbD i = false := by decide
  rcases Nat.lt_or_ge i 8 with z | z
  · rw [BitVec.getLsbD_signExtend, BitVec.getLsbD_signExtend, if_pos z, if_pos hi]
    simp only [z, hi, decide_true, Bool.true_and]
  · rw [hm i hi z]; simp
theorem by_1 (w : Int64) : w.toInt32 &&& 255 = nI (w.toBitVec.toNat % 256) := by
  apply Int32.toBitVec_inj.mp
  rw [Int32.toBitVec_and, nI_bv]
  show w.toBitVec.signExtend 32 &&& _ = _
  apply BitVec.eq_of_getLsbD_eq
  intro i hi
  have hm : ∀ i < 32, (255 : Int32).toBitVec.getLsbD i = decide (i < 8) := by decide
  rw [BitVec.getLsbD_and, BitVec.getLsbD_signExtend, BitVec.getLsbD_ofNat, show 256 = 2 ^ 8 from rfl, Nat.testBit_mod_two_pow, BitVec.testBit_toNat, hm i hi, if_pos (show i < 64 by omega)]
  simp [hi, Bool.and_comm]
theorem by_2 (w : Int64) : (w &&& 255).toInt32 = nI (w.toBitVec.toNat % 256) := by
  apply Int32.toBitVec_inj.mp
  rw [nI_bv]
  show (w.toBitVec &&& (255 : Int64).toBitVec).signExtend 32 = _
  apply BitVec.eq_of_getLsbD_eq
  intro i hi
  have hm : ∀ i < 64, (255 : Int64).toBitVec.getLsbD i = decide (i < 8) := by decide
  rw [BitVec.getLsbD_signExtend, if_pos (show i < 64 by omega), BitVec.getLsbD_and, BitVec.getLsbD_ofNat, show 256 = 2 ^ 8 from rfl, Nat.testBit_mod_two_pow, BitVec.testBit_toNat, hm i (by omega)]
  simp [hi, Bool.and_comm]
/-- a byte typed -/
def byt (v : Int64) (k : Int32) : Nat := (v >>> ((8 * k).toInt64 &&& 63)).toBitVec.toNat % 256
theorem byt_X (v : Int64) (k : Int32) : vp_nar .byte (tyf v k) &&& 255 = nI (byt v k) := by
  unfold tyf byt
  rw [pk_vb, bp_b, by_1]
theorem byt_M (v : Int64) (k : Int32) : tyg v k = nI (byt v k) := by_2 _
theorem tyM_at {v : Int64} {n L : Nat} {F : Nat → Int32} : ∀ i j, (j < L → tyM v n L F i j = F j) ∧ (L ≤ j → j < L + i → tyM v n L F i j = vp_nar .byte (tyf v (nI (n - 1 - (j - L))))) := by
  intro i
  induction i with
  | zero => intro j; exact ⟨fun _ => rfl, fun h1 h2 => absurd h2 (by omega)⟩
  | succ i ih =>
    intro j
    rw [tyM]
    refine ⟨fun h1 => ?_, fun h1 h2 => ?_⟩
    · rw [upd_n _ _ (by omega)]; exact (ih j).1 h1
    · by_cases e : j = L + i
      · subst e; rw [upd_s, Nat.add_sub_cancel_left]
      · rw [upd_n _ _ e]; exact (ih j).2 h1 (by omega)
theorem tyN_at {v : Int64} {n L : Nat} {F : Nat → Int32} : ∀ i j, (j < L → tyN v n L F i j = F j) ∧ (L ≤ j → j < L + i → tyN v n L F i j = tyg v (nI (n - 1 - (j - L)))) := by
  intro i
  induction i with
  | zero => intro j; exact ⟨fun _ => rfl, fun h1 h2 => absurd h2 (by omega)⟩
  | succ i ih =>
    intro j
    rw [tyN]
    refine ⟨fun h1 => ?_, fun h1 h2 => ?_⟩
    · rw [upd_n _ _ (by omega)]; exact (ih j).1 h1
    · by_cases e : j = L + i
      · subst e; rw [upd_s, Nat.add_sub_cancel_left]
      · rw [upd_n _ _ e]; exact (ih j).2 h1 (by omega)
theorem i18 {x : Int32} : (x < 1 ∨ 8 < x) ↔ ¬ (1 ≤ x ∧ x ≤ 8) := by
  rw [Int32.lt_iff_toInt_lt, Int32.lt_iff_toInt_lt, Int32.le_iff_toInt_le, Int32.le_iff_toInt_le]
  omega
theorem n18 {x : Int32} {n : Nat} (e : x = nI n) (h1 : 1 ≤ n) (h8 : n ≤ 8) : 1 ≤ x ∧ x ≤ 8 := by
  rw [e, show (1 : Int32) = nI 1 from rfl, show (8 : Int32) = nI 8 from rfl, nI_leI (by omega) (by omega), nI_leI (by omega) (by omega)]
  exact ⟨h1, h8⟩
theorem K_type {v : Int64} {x : Int32} {M : AM} {post : PO} (hI : Inv M) (k : ∀ w M1, Ans S_X5_type [VR 39, VL v, VI x] (VI w) M1 → post (some (VI w)) M1) : S_X4_type [VR 0, VL v, VI x] M post := by
  have hI0 := hI
  obtain ⟨n, c, p, r, h, lk, L, t, u, hX, hM, hH, hu, hCH, hTX, hTT, hi1, hi2, htr⟩ := hI
  have hL := hTX.2.1
  refine ⟨v, x, L, rfl, hTX.1, hL, fun g => k _ _ fun P hP => ⟨v, x, L, rfl, hTT.1, hL, fun _ => hP _ hI0, fun m e1 e2 e3 e4 => ?_, fun m e1 e2 e3 e4 => ?_⟩, fun m e1 e2 e3 e4 => k _ _ fun P hP => ⟨v, x, L, rfl, hTT.1, hL, fun g => ?_, fun m' b1 b2 b3 b4 => hP _ hI0, fun m' b1 b2 b3 b4 => ?_⟩, fun m e1 e2 e3 e4 => k _ _ fun P hP => ⟨v, x, L, rfl, hTT.1, hL, fun g => ?_, fun m' b1 b2 b3 b4 => ?_, fun m' b1 b2 b3 b4 => ?_⟩⟩
  · exact absurd (n18 e1 e2 e3) (i18.mp g)
  · exact absurd (n18 e1 e2 e3) (i18.mp g)
  · exact absurd (n18 e1 e2 e3) g
  · rw [nq (by omega) (by omega) b1 e1] at b4; omega
  · exact absurd (n18 e1 e2 e3) g
  · rw [nq (by omega) (by omega) b1 e1] at b4; omega
  · rw [nq (by omega) (by omega) b1 e1]
    refine hP _ ⟨n, c, p, r, h, lk, L + m, fun j => if j < L then t j else byt v (nI (m - 1 - (j - L))), u, XW_of hX rfl rfl rfl rfl rfl rfl, MW_of hM rfl rfl, hH, hu, hCH, ⟨rfl, e4, fun j hj => ?_⟩, ⟨rfl, e4, fun j hj => ?_⟩, hi1, hi2, htr⟩
    · show tyM v m L (M.2.2 0) m j &&& 255 = nI (if j < L then t j else byt v (nI (m - 1 - (j - L)))) ∧ (if j < L then t j else byt v (nI (m - 1 - (j - L)))) < 256
      by_cases g : j < L
      · rw [if_pos g, (tyM_at m j).1 g]; exact hTX.2.2 j g
      · rw [if_neg g, (tyM_at m j).2 (by omega) hj]
        exact ⟨byt_X v _, Nat.mod_lt _ (by omega)⟩
    · show tyN v m L (M.2.2 30) m j = nI (if j < L then t j else byt v (nI (m - 1 - (j - L)))) ∧ (if j < L then t j else byt v (nI (m - 1 - (j - L)))) < 256
      by_cases g : j < L
      · rw [if_pos g, (tyN_at m j).1 g]; exact hTT.2.2 j g
      · rw [if_neg g, (tyN_at m j).2 (by omega) hj]
        exact ⟨byt_M v _, Nat.mod_lt _ (by omega)⟩
theorem K_clear {M : AM} {post : PO} (hI : Inv M) (k : ∀ w M1, Ans S_X5_clear [VR 39] (VI w) M1 → post (some (VI w)) M1) : S_X4_clear [VR 0] M post := by
  obtain ⟨n, c, p, r, h, lk, L, t, u, hX, hM, hH, hu, hCH, hTX, hTT, hi1, hi2, htr⟩ := hI
  refine ⟨rfl, k _ _ fun P hP => ⟨rfl, ?_⟩⟩
  have e : (sI 0 0 M).1 25 = M.1 0 := by
    show M.1 25 = M.1 0
    rw [hTX.1, hTT.1]
  rw [e]
  exact hP _ ⟨n, c, p, r, h, lk, 0, t, u, XW_of hX rfl rfl rfl rfl rfl rfl, MW_of hM rfl rfl, hH, hu, hCH, ⟨rfl, by omega, fun j hj => absurd hj (by omega)⟩, ⟨rfl, by omega, fun j hj => absurd hj (by omega)⟩, hi1, hi2, htr⟩
/-- the ring at hand, of both sides -/
theorem IV_RW {M : AM} {n c p : Nat} {r : Nat → Nat} {h : Nat → Int32} {lk : Nat → Nat} {L : Nat} {t : Nat → Nat} {u : Nat} (hV : IV M n c p r h lk L t u) : RW (M.1 9) (M.1 10) (M.2.2 2) (M.2.2 3) (M.2.2 4) (M.2.2 5) (M.2.2 6) (M.2.2 7) (M.2.2 33) p n u r h := by
  obtain ⟨hX, hM, hH, hu, hCH, -⟩ := hV
  refine ⟨hX.1, hX.2.1, hu.1, hu.2.2, hM.1, hu.2.1, fun j hj => ?_, fun j hj => ?_, hH, hCH⟩
  · exact ⟨(hX.2.2.2.2.2.2.1 j hj).1, (hM.2.2.2.2.2.2.1 j hj).1, (hX.2.2.2.2.2.2.1 j hj).2⟩
  · exact ⟨hX.2.2.2.2.2.2.2.1 j hj, hM.2.2.2.2.2.2.2.1 j hj⟩
/-- another ring in its place -/
theorem IV_ring {M M2 : AM} {n c p : Nat} {r : Nat → Nat} {h : Nat → Int32} {lk : Nat → Nat} {L : Nat} {t : Nat → Nat} {u n2 u2 : Nat} {r2 : Nat → Nat} {h2 : Nat → Int32} (hV : IV M n c p r h lk L t u) (hW : RW (M2.1 9) (M2.1 10) (M2.2.2 2) (M2.2.2 3) (M2.2.2 4) (M2.2.2 5) (M2.2.2 6) (M2.2.2 7) (M2.2.2 33) p n2 u2 r2 h2)
    (hi : ∀ i, ofI i = true → i ≠ 9 → i ≠ 10 → M2.1 i = M.1 i) (hl : M2.2.1 = M.2.1) (ha : ∀ a, ofA a = true → ¬ (2 ≤ a ∧ a ≤ 7) → a ≠ 33 → M2.2.2 a = M.2.2 a) : IV M2 n2 c p r2 h2 lk L t u2 := by
  obtain ⟨hX, hM, hH, hu, hCH, hTX, hTT, hi1, hi2, htr⟩ := hV
  obtain ⟨w1, w2, w3, w4, w5, w6, w7, w8, w9, w10⟩ := hW
  have I : ∀ i, ofI i = true → (Nat.beq i 9 || Nat.beq i 10) = false → M2.1 i = M.1 i := fun i h1 h2 => hi i h1 (fun e => by rw [e] at h2; cases h2) (fun e => by rw [e] at h2; cases h2)
  have A1 := ha 1 rfl (by omega) (by omega)
  have A31 := ha 31 rfl (by omega) (by omega)
  refine ⟨⟨w1, w2, by rw [I 5 rfl rfl]; exact hX.2.2.1, hX.2.2.2.1, by rw [I 6 rfl rfl]; exact hX.2.2.2.2.1, hX.2.2.2.2.2.1, fun j hj => ⟨(w7 j hj).1, (w7 j hj).2.2⟩, fun j hj => (w8 j hj).1, by rw [A1]; exact hX.2.2.2.2.2.2.2.2⟩,
    ⟨w5, w2, by rw [A31]; exact hM.2.2.1, hM.2.2.2.1, by rw [A31]; exact hM.2.2.2.2.1, hM.2.2.2.2.2.1, fun j hj => ⟨(w7 j hj).2.1, (w7 j hj).2.2⟩, fun j hj => (w8 j hj).2, by rw [A31]; exact hM.2.2.2.2.2.2.2.2⟩, w9, ⟨w3, w6, w4⟩, w10, ?_, ?_, ?_, ?_, by rw [hl]; exact htr⟩
  · unfold TX at hTX ⊢
    rw [I 0 rfl rfl, ha 0 rfl (by omega) (by omega)]; exact hTX
  · unfold TT at hTT ⊢
    rw [I 25 rfl rfl, ha 30 rfl (by omega) (by omega)]; exact hTT
  · rw [I 21 rfl rfl, I 19 rfl rfl, I 20 rfl rfl, ha 35 rfl (by omega) (by omega), ha 15 rfl (by omega) (by omega), ha 16 rfl (by omega) (by omega), ha 17 rfl (by omega) (by omega), ha 18 rfl (by omega) (by omega), ha 19 rfl (by omega) (by omega), ha 20 rfl (by omega) (by omega), ha 34 rfl (by omega) (by omega)]; exact hi1
  · rw [I 24 rfl rfl, I 22 rfl rfl, I 23 rfl rfl, ha 35 rfl (by omega) (by omega), ha 21 rfl (by omega) (by omega), ha 22 rfl (by omega) (by omega), ha 23 rfl (by omega) (by omega), ha 24 rfl (by omega) (by omega), ha 25 rfl (by omega) (by omega), ha 26 rfl (by omega) (by omega), ha 34 rfl (by omega) (by omega)]; exact hi2
/-- a ring with one change more -/
theorem RW_push {sz kn : Int32} {f2 f3 f4 f5 f6 f7 s : Nat → Int32} {p n u : Nat} {r : Nat → Nat} {h : Nat → Int32} (hW : RW sz kn f2 f3 f4 f5 f6 f7 s p n u r h) {sz2 x z : Int32} {g2 g3 s2 : Nat → Int32} {n2 k : Nat} {r2 : Nat → Nat} {h2 : Nat → Int32} (e1 : sz2 = nI n2) (e2 : n2 ≤ 8) (e3 : s2 0 = nI n2) (e4 : ∀ j, j < n2 → g2 j = nI (r2 j) ∧ s2 (1 + j) = nI (r2 j) ∧ r2 j < 512) (e5 : ∀ j, j < n2 → g3 j = h2 j ∧ s2 (9 + j) = h2 j) (e6 : HH h2 n2 p) (e7 : ∀ j, 18 ≤ j → s2 j = s j)
    (e8 : CE (nI n) (nI k) (f2 k) (f3 k) x (nI k) z p n2 r2 h2 n r h k) : RW sz2 (nI (ru u + 1)) g2 g3 (rq f4 u sz) (rq f5 u (nI k)) (rq f6 u (f2 k)) (rq f7 u (f3 k)) (ac3 s2 u x (nI k) z) p n2 (ru u + 1) r2 h2 := by
  obtain ⟨w1, w2, w3, w4, w5, w6, w7, w8, w9, w10⟩ := hW
  obtain ⟨a1, a2, a3, a4, a5⟩ := ac3_at s2 w4 x (nI k) z
  refine ⟨e1, e2, rfl, ru_le u, by rw [a5 0 (by omega)]; exact e3, a4, fun j hj => ?_, fun j hj => ?_, e6, ?_⟩
  · rw [a5 (1 + j) (by omega)]; exact e4 j hj
  · by_cases q : 9 + j < 17
    · rw [a5 (9 + j) q]; exact e5 j hj
    · omega
  · rw [CH_s]
    refine ⟨n, r, h, k, ?_, CH_push w4 w10 e7 sz (nI k) (f2 k) (f3 k) x (nI k) z⟩
    rw [a1, a2, a3, rq_top, rq_top, rq_top, rq_top, w1]
    exact e8
