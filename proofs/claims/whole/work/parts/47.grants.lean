/-! The model's wishes. -/
/-- keys that the group u holds make w -/
def mkU (r : Nat → Nat) (h : Nat → Int32) (n p u w : Nat) : Prop := rs (fsp r (hd h u p n) n) w 9 = 0
/-- the group u opens, with the row more for pp -/
def opU (r : Nat → Nat) (h : Nat → Int32) (n p pp v row u : Nat) : Prop := mkU r h n p u v ∨ (u.testBit pp = true ∧ mkU r h n p u (v ^^^ row))
/-- asked of the groups below i -/
def gnU (r : Nat → Nat) (h : Nat → Int32) (n p g pp v row i : Nat) : Prop := ∀ u, u < i → (u = g → opU r h n p pp v row u) ∧ (u ≠ g → g &&& u = g ∨ ¬ opU r h n p pp v row u)
/-- a row that grants, as the class asks -/
def GR (r : Nat → Nat) (h : Nat → Int32) (n p g pp v row : Nat) : Prop := (∀ q, q < p → g.testBit q = true → ¬ rs (eb r h n p q) v 9 = 0) ∧ Grt r h n p g pp v row
theorem mkU_mono {r : Nat → Nat} {h : Nat → Int32} {n p u u' w : Nat} (hr : ∀ j, j < n → r j < 512) (hu : ∀ j, u.testBit j = true → u'.testBit j = true) (h1 : mkU r h n p u w) : mkU r h n p u' w := by
  unfold mkU at h1 ⊢
  rw [span n hr] at h1 ⊢
  exact cov_mono (hd_mono hu) h1
theorem two_lt {g p q : Nat} (hg : g < 2 ^ p) (hb : g.testBit q = true) : q < p := by
  rcases Nat.lt_or_ge q p with e | e
  · exact e
  · rw [Nat.testBit_lt_two_pow (Nat.lt_of_lt_of_le hg (Nat.pow_le_pow_right (by omega) e))] at hb; cases hb
theorem gn_GR {r : Nat → Nat} {h : Nat → Int32} {n p g pp v row : Nat} (hr : ∀ j, j < n → r j < 512) (hg : g < 2 ^ p) (hpp : g.testBit pp = true) : gnU r h n p g pp v row (2 ^ p) ↔ GR r h n p g pp v row := by
  have hE : ∀ q, q < p → (2 ^ p - 1) ^^^ 2 ^ q < 2 ^ p := fun q hq => Nat.xor_lt_two_pow (by have := Nat.one_le_two_pow (n := p); omega) (n2p hq)
  have hEb : ∀ q, q < p → ∀ j, ((2 ^ p - 1) ^^^ 2 ^ q).testBit j = (decide (j < p) && !decide (q = j)) := by
    intro q hq j
    rw [x_bit, Nat.testBit_two_pow_sub_one]
    by_cases e : q = j
    · subst e; simp [hq]
    · simp [e]
  have hx : ∀ q, mkU r h n p ((2 ^ p - 1) ^^^ 2 ^ q) (v ^^^ row) ↔ rs (eb r h n p q) row 9 = rs (eb r h n p q) v 9 := by
    intro q
    unfold eb mkU
    rw [rs_eq, Nat.xor_comm v row]
  have hv : ∀ q, mkU r h n p ((2 ^ p - 1) ^^^ 2 ^ q) v ↔ rs (eb r h n p q) v 9 = 0 := fun q => Iff.rfl
  have no : gnU r h n p g pp v row (2 ^ p) → ∀ q, q < p → g.testBit q = true → ¬ opU r h n p pp v row ((2 ^ p - 1) ^^^ 2 ^ q) := by
    intro H q hq hb
    have hq0 : ((2 ^ p - 1) ^^^ 2 ^ q).testBit q = false := by rw [hEb q hq]; simp
    have hne : (2 ^ p - 1) ^^^ 2 ^ q ≠ g := fun e => by rw [e, hb] at hq0; cases hq0
    rcases (H _ (hE q hq)).2 hne with e | e
    · have := sb_iff.mp e q hb
      rw [hq0] at this; cases this
    · exact e
  constructor
  · intro H
    have H1 := no H
    refine ⟨fun q hq hb e => H1 q hq hb (Or.inl ((hv q).mpr e)), ?_, ?_⟩
    · rintro ⟨q, hq, hb, hne, e⟩
      refine H1 q hq hb (Or.inr ⟨?_, (hx q).mpr e⟩)
      rw [hEb q hq]
      simp [hne, two_lt hg hpp]
    · rcases (H g hg).1 rfl with e | ⟨_, e⟩
      · exact Or.inl e
      · refine Or.inr ?_
        rw [rs_eq, Nat.xor_comm]; exact e
  · rintro ⟨H1, H2, H3⟩ u hu
    have key : ¬ (g &&& u = g) → ¬ opU r h n p pp v row u := by
      intro hns ho
      have hex : ∃ q, g.testBit q = true ∧ u.testBit q = false := by
        apply Classical.byContradiction
        intro hno
        refine hns (sb_iff.mpr fun j hj => ?_)
        cases hj2 : u.testBit j with
        | true => rfl
        | false => exact absurd ⟨j, hj, hj2⟩ hno
      obtain ⟨q, hq1, hq2⟩ := hex
      have hqp := two_lt hg hq1
      have hsub : ∀ j, u.testBit j = true → ((2 ^ p - 1) ^^^ 2 ^ q).testBit j = true := by
        intro j hj
        have hjp := two_lt hu hj
        have hne : q ≠ j := fun e => by rw [← e, hq2] at hj; cases hj
        rw [hEb q hqp]; simp [hjp, hne]
      rcases ho with e | ⟨e1, e2⟩
      · exact H1 q hqp hq1 ((hv q).mp (mkU_mono hr hsub e))
      · have hne : q ≠ pp := fun e => by rw [← e, hq2] at e1; cases e1
        exact H2 ⟨q, hqp, hq1, hne, (hx q).mp (mkU_mono hr hsub e2)⟩
    refine ⟨fun e => ?_, fun _ => ?_⟩
    · subst e
      rcases H3 with e | e
      · exact Or.inl e
      · refine Or.inr ⟨hpp, ?_⟩
        rw [rs_eq, Nat.xor_comm] at e; exact e
    · by_cases e : g &&& u = g
      · exact Or.inl e
      · exact Or.inr (key e)
/-- what the groups below i make -/
def gmB (b : Nat → Int32) (r : Nat → Nat) (h : Nat → Int32) (n p i : Nat) : Prop := ∀ u, u < i → ∀ w, w < 512 → (mkU r h n p u w → b (512 * u + w) = 1) ∧ (¬ mkU r h n p u w → b (512 * u + w) = 0)
def S_X5_grants : SP := fun as M post => ∃ pp g v row n c p r h lk, as = [VR 39, VI (nI pp), VI (nI g), VI (nI v), VI (nI row)] ∧ pp < p ∧ g < 2 ^ p ∧ v < 512 ∧ row < 512 ∧ MW M n c p r h lk ∧ gmB (M.2.2 37) r h n p (2 ^ p) ∧ pz (gnU r h n p g pp v row (2 ^ p)) post M
theorem fl_RX5_32 : Cond.fieldLink RX5 32 (TX5 13).1 (TX5 13).2.1 (TX5 13).2.2.1 ∈ tb := tb_of 646 (by decide +kernel) (by decide +kernel)
theorem dX5_grants_0 : decode cX5_grants 0 = .ok (.iconst 1, 1) := by decide +kernel
theorem dX5_grants_1 : decode cX5_grants 1 = .ok (.istore 5, 2) := by decide +kernel
theorem dX5_grants_3 : decode cX5_grants 3 = .ok (.iconst 0, 1) := by decide +kernel
theorem dX5_grants_4 : decode cX5_grants 4 = .ok (.istore 6, 2) := by decide +kernel
theorem dX5_grants_6 : decode cX5_grants 6 = .ok (.aload_n 0, 1) := by decide +kernel
theorem dX5_grants_7 : decode cX5_grants 7 = .ok (.iload 6, 2) := by decide +kernel
theorem dX5_grants_9 : decode cX5_grants 9 = .ok (.invokevirtual 134, 3) := by decide +kernel
theorem dX5_grants_12 : decode cX5_grants 12 = .ok (.ifCond .eq 98, 3) := by decide +kernel
theorem dX5_grants_15 : decode cX5_grants 15 = .ok (.iload 5, 2) := by decide +kernel
theorem dX5_grants_17 : decode cX5_grants 17 = .ok (.ifCond .eq 93, 3) := by decide +kernel
theorem dX5_grants_20 : decode cX5_grants 20 = .ok (.aload_n 0, 1) := by decide +kernel
theorem dX5_grants_21 : decode cX5_grants 21 = .ok (.getfield 32, 3) := by decide +kernel
theorem dX5_grants_24 : decode cX5_grants 24 = .ok (.sipush 512, 3) := by decide +kernel
theorem dX5_grants_27 : decode cX5_grants 27 = .ok (.iload 6, 2) := by decide +kernel
theorem dX5_grants_29 : decode cX5_grants 29 = .ok (.imul, 1) := by decide +kernel
theorem dX5_grants_30 : decode cX5_grants 30 = .ok (.iload_n 3, 1) := by decide +kernel
theorem dX5_grants_31 : decode cX5_grants 31 = .ok (.iadd, 1) := by decide +kernel
theorem dX5_grants_32 : decode cX5_grants 32 = .ok (.baload, 1) := by decide +kernel
theorem dX5_grants_33 : decode cX5_grants 33 = .ok (.ifCond .ne 32, 3) := by decide +kernel
theorem dX5_grants_36 : decode cX5_grants 36 = .ok (.iload 6, 2) := by decide +kernel
theorem dX5_grants_38 : decode cX5_grants 38 = .ok (.iload_n 1, 1) := by decide +kernel
theorem dX5_grants_39 : decode cX5_grants 39 = .ok (.ishr, 1) := by decide +kernel
theorem dX5_grants_40 : decode cX5_grants 40 = .ok (.iconst 1, 1) := by decide +kernel
theorem dX5_grants_41 : decode cX5_grants 41 = .ok (.iand, 1) := by decide +kernel
theorem dX5_grants_42 : decode cX5_grants 42 = .ok (.iconst 1, 1) := by decide +kernel
theorem dX5_grants_43 : decode cX5_grants 43 = .ok (.if_icmp .ne 26, 3) := by decide +kernel
theorem dX5_grants_46 : decode cX5_grants 46 = .ok (.aload_n 0, 1) := by decide +kernel
theorem dX5_grants_47 : decode cX5_grants 47 = .ok (.getfield 32, 3) := by decide +kernel
theorem dX5_grants_50 : decode cX5_grants 50 = .ok (.sipush 512, 3) := by decide +kernel
theorem dX5_grants_53 : decode cX5_grants 53 = .ok (.iload 6, 2) := by decide +kernel
theorem dX5_grants_55 : decode cX5_grants 55 = .ok (.imul, 1) := by decide +kernel
theorem dX5_grants_56 : decode cX5_grants 56 = .ok (.iload_n 3, 1) := by decide +kernel
theorem dX5_grants_57 : decode cX5_grants 57 = .ok (.iload 4, 2) := by decide +kernel
theorem dX5_grants_59 : decode cX5_grants 59 = .ok (.ixor, 1) := by decide +kernel
theorem dX5_grants_60 : decode cX5_grants 60 = .ok (.iadd, 1) := by decide +kernel
theorem dX5_grants_61 : decode cX5_grants 61 = .ok (.baload, 1) := by decide +kernel
theorem dX5_grants_62 : decode cX5_grants 62 = .ok (.ifCond .eq 7, 3) := by decide +kernel
theorem dX5_grants_65 : decode cX5_grants 65 = .ok (.iconst 1, 1) := by decide +kernel
theorem dX5_grants_66 : decode cX5_grants 66 = .ok (.goto 4, 3) := by decide +kernel
theorem dX5_grants_69 : decode cX5_grants 69 = .ok (.iconst 0, 1) := by decide +kernel
theorem dX5_grants_70 : decode cX5_grants 70 = .ok (.istore 7, 2) := by decide +kernel
theorem dX5_grants_72 : decode cX5_grants 72 = .ok (.iload 6, 2) := by decide +kernel
theorem dX5_grants_74 : decode cX5_grants 74 = .ok (.iload_n 2, 1) := by decide +kernel
theorem dX5_grants_75 : decode cX5_grants 75 = .ok (.if_icmp .ne 8, 3) := by decide +kernel
theorem dX5_grants_78 : decode cX5_grants 78 = .ok (.iload 7, 2) := by decide +kernel
theorem dX5_grants_80 : decode cX5_grants 80 = .ok (.goto 22, 3) := by decide +kernel
theorem dX5_grants_83 : decode cX5_grants 83 = .ok (.iload_n 2, 1) := by decide +kernel
theorem dX5_grants_84 : decode cX5_grants 84 = .ok (.iload 6, 2) := by decide +kernel
theorem dX5_grants_86 : decode cX5_grants 86 = .ok (.iconst (-1), 1) := by decide +kernel
theorem dX5_grants_87 : decode cX5_grants 87 = .ok (.ixor, 1) := by decide +kernel
theorem dX5_grants_88 : decode cX5_grants 88 = .ok (.iand, 1) := by decide +kernel
theorem dX5_grants_89 : decode cX5_grants 89 = .ok (.ifCond .eq 8, 3) := by decide +kernel
theorem dX5_grants_92 : decode cX5_grants 92 = .ok (.iload 7, 2) := by decide +kernel
theorem dX5_grants_94 : decode cX5_grants 94 = .ok (.ifCond .ne 7, 3) := by decide +kernel
theorem dX5_grants_97 : decode cX5_grants 97 = .ok (.iconst 1, 1) := by decide +kernel
theorem dX5_grants_98 : decode cX5_grants 98 = .ok (.goto 4, 3) := by decide +kernel
theorem dX5_grants_101 : decode cX5_grants 101 = .ok (.iconst 0, 1) := by decide +kernel
theorem dX5_grants_102 : decode cX5_grants 102 = .ok (.istore 5, 2) := by decide +kernel
theorem dX5_grants_104 : decode cX5_grants 104 = .ok (.iinc 6 1, 3) := by decide +kernel
theorem dX5_grants_107 : decode cX5_grants 107 = .ok (.goto (-101), 3) := by decide +kernel
theorem dX5_grants_110 : decode cX5_grants 110 = .ok (.iload 5, 2) := by decide +kernel
theorem dX5_grants_112 : decode cX5_grants 112 = .ok (.ireturn, 1) := by decide +kernel
def T_X5_grants (post : PO) : List (Nat × OP) := [(0, o_const 1 1), (1, o_istore 5 3), (3, o_const 0 4), (4, o_istore 6 6), (6, o_aload 0 7), (7, o_iload 6 9), (9, o_callV 5 S_X5_isGroup 1 12), (12, o_if (fun x => x = 0) 110 15), (15, o_iload 5 17), (17, o_if (fun x => x = 0) 110 20), (20, o_aload 0 21), (21, o_getf 5 13 24), (24, o_const 512 27), (27, o_iload 6 29), (29, o_bin (fun x y => x * y) 30), (30, o_iload 3 31), (31, o_bin (fun x y => x + y) 32), (32, o_ald 2 33), (33, o_if (fun x => x = 0) 36 65), (36, o_iload 6 38), (38, o_iload 1 39), (39, o_bin (fun x y => x >>> (y &&& 31)) 40), (40, o_const 1 41), (41, o_bin (fun x y => x &&& y) 42), (42, o_const 1 43), (43, o_icmp (fun x y => x = y) 46 69), (46, o_aload 0 47), (47, o_getf 5 13 50), (50, o_const 512 53), (53, o_iload 6 55), (55, o_bin (fun x y => x * y) 56), (56, o_iload 3 57), (57, o_iload 4 59), (59, o_bin (fun x y => x ^^^ y) 60), (60, o_bin (fun x y => x + y) 61), (61, o_ald 2 62), (62, o_if (fun x => x = 0) 69 65), (65, o_const 1 66), (66, o_goto 70), (69, o_const 0 70), (70, o_istore 7 72), (72, o_iload 6 74), (74, o_iload 2 75), (75, o_icmp (fun x y => x = y) 78 83), (78, o_iload 7 80), (80, o_goto 102), (83, o_iload 2 84), (84, o_iload 6 86), (86, o_const (-1) 87), (87, o_bin (fun x y => x ^^^ y) 88), (88, o_bin (fun x y => x &&& y) 89), (89, o_if (fun x => x = 0) 97 92), (92, o_iload 7 94), (94, o_if (fun x => x = 0) 97 101), (97, o_const 1 98), (98, o_goto 102), (101, o_const 0 102), (102, o_istore 5 104), (104, o_iinc 6 1 107), (107, o_goto 6), (110, o_iload 5 112), (112, o_zret post)]
theorem k_X5_grants_0 (post : PO) : lk (T_X5_grants post) 0 = o_const 1 1 := rfl
theorem k_X5_grants_1 (post : PO) : lk (T_X5_grants post) 1 = o_istore 5 3 := rfl
theorem k_X5_grants_3 (post : PO) : lk (T_X5_grants post) 3 = o_const 0 4 := rfl
theorem k_X5_grants_4 (post : PO) : lk (T_X5_grants post) 4 = o_istore 6 6 := rfl
theorem k_X5_grants_6 (post : PO) : lk (T_X5_grants post) 6 = o_aload 0 7 := rfl
theorem k_X5_grants_7 (post : PO) : lk (T_X5_grants post) 7 = o_iload 6 9 := rfl
theorem k_X5_grants_9 (post : PO) : lk (T_X5_grants post) 9 = o_callV 5 S_X5_isGroup 1 12 := rfl
theorem k_X5_grants_12 (post : PO) : lk (T_X5_grants post) 12 = o_if (fun x => x = 0) 110 15 := rfl
theorem k_X5_grants_15 (post : PO) : lk (T_X5_grants post) 15 = o_iload 5 17 := rfl
theorem k_X5_grants_17 (post : PO) : lk (T_X5_grants post) 17 = o_if (fun x => x = 0) 110 20 := rfl
theorem k_X5_grants_20 (post : PO) : lk (T_X5_grants post) 20 = o_aload 0 21 := rfl
theorem k_X5_grants_21 (post : PO) : lk (T_X5_grants post) 21 = o_getf 5 13 24 := rfl
theorem k_X5_grants_24 (post : PO) : lk (T_X5_grants post) 24 = o_const 512 27 := rfl
theorem k_X5_grants_27 (post : PO) : lk (T_X5_grants post) 27 = o_iload 6 29 := rfl
theorem k_X5_grants_29 (post : PO) : lk (T_X5_grants post) 29 = o_bin (fun x y => x * y) 30 := rfl
theorem k_X5_grants_30 (post : PO) : lk (T_X5_grants post) 30 = o_iload 3 31 := rfl
theorem k_X5_grants_31 (post : PO) : lk (T_X5_grants post) 31 = o_bin (fun x y => x + y) 32 := rfl
theorem k_X5_grants_32 (post : PO) : lk (T_X5_grants post) 32 = o_ald 2 33 := rfl
theorem k_X5_grants_33 (post : PO) : lk (T_X5_grants post) 33 = o_if (fun x => x = 0) 36 65 := rfl
theorem k_X5_grants_36 (post : PO) : lk (T_X5_grants post) 36 = o_iload 6 38 := rfl
theorem k_X5_grants_38 (post : PO) : lk (T_X5_grants post) 38 = o_iload 1 39 := rfl
theorem k_X5_grants_39 (post : PO) : lk (T_X5_grants post) 39 = o_bin (fun x y => x >>> (y &&& 31)) 40 := rfl
theorem k_X5_grants_40 (post : PO) : lk (T_X5_grants post) 40 = o_const 1 41 := rfl
theorem k_X5_grants_41 (post : PO) : lk (T_X5_grants post) 41 = o_bin (fun x y => x &&& y) 42 := rfl
theorem k_X5_grants_42 (post : PO) : lk (T_X5_grants post) 42 = o_const 1 43 := rfl
theorem k_X5_grants_43 (post : PO) : lk (T_X5_grants post) 43 = o_icmp (fun x y => x = y) 46 69 := rfl
theorem k_X5_grants_46 (post : PO) : lk (T_X5_grants post) 46 = o_aload 0 47 := rfl
theorem k_X5_grants_47 (post : PO) : lk (T_X5_grants post) 47 = o_getf 5 13 50 := rfl
theorem k_X5_grants_50 (post : PO) : lk (T_X5_grants post) 50 = o_const 512 53 := rfl
theorem k_X5_grants_53 (post : PO) : lk (T_X5_grants post) 53 = o_iload 6 55 := rfl
theorem k_X5_grants_55 (post : PO) : lk (T_X5_grants post) 55 = o_bin (fun x y => x * y) 56 := rfl
theorem k_X5_grants_56 (post : PO) : lk (T_X5_grants post) 56 = o_iload 3 57 := rfl
theorem k_X5_grants_57 (post : PO) : lk (T_X5_grants post) 57 = o_iload 4 59 := rfl
theorem k_X5_grants_59 (post : PO) : lk (T_X5_grants post) 59 = o_bin (fun x y => x ^^^ y) 60 := rfl
theorem k_X5_grants_60 (post : PO) : lk (T_X5_grants post) 60 = o_bin (fun x y => x + y) 61 := rfl
theorem k_X5_grants_61 (post : PO) : lk (T_X5_grants post) 61 = o_ald 2 62 := rfl
theorem k_X5_grants_62 (post : PO) : lk (T_X5_grants post) 62 = o_if (fun x => x = 0) 69 65 := rfl
theorem k_X5_grants_65 (post : PO) : lk (T_X5_grants post) 65 = o_const 1 66 := rfl
theorem k_X5_grants_66 (post : PO) : lk (T_X5_grants post) 66 = o_goto 70 := rfl
theorem k_X5_grants_69 (post : PO) : lk (T_X5_grants post) 69 = o_const 0 70 := rfl
theorem k_X5_grants_70 (post : PO) : lk (T_X5_grants post) 70 = o_istore 7 72 := rfl
theorem k_X5_grants_72 (post : PO) : lk (T_X5_grants post) 72 = o_iload 6 74 := rfl
theorem k_X5_grants_74 (post : PO) : lk (T_X5_grants post) 74 = o_iload 2 75 := rfl
theorem k_X5_grants_75 (post : PO) : lk (T_X5_grants post) 75 = o_icmp (fun x y => x = y) 78 83 := rfl
theorem k_X5_grants_78 (post : PO) : lk (T_X5_grants post) 78 = o_iload 7 80 := rfl
theorem k_X5_grants_80 (post : PO) : lk (T_X5_grants post) 80 = o_goto 102 := rfl
theorem k_X5_grants_83 (post : PO) : lk (T_X5_grants post) 83 = o_iload 2 84 := rfl
theorem k_X5_grants_84 (post : PO) : lk (T_X5_grants post) 84 = o_iload 6 86 := rfl
theorem k_X5_grants_86 (post : PO) : lk (T_X5_grants post) 86 = o_const (-1) 87 := rfl
theorem k_X5_grants_87 (post : PO) : lk (T_X5_grants post) 87 = o_bin (fun x y => x ^^^ y) 88 := rfl
theorem k_X5_grants_88 (post : PO) : lk (T_X5_grants post) 88 = o_bin (fun x y => x &&& y) 89 := rfl
theorem k_X5_grants_89 (post : PO) : lk (T_X5_grants post) 89 = o_if (fun x => x = 0) 97 92 := rfl
theorem k_X5_grants_92 (post : PO) : lk (T_X5_grants post) 92 = o_iload 7 94 := rfl
theorem k_X5_grants_94 (post : PO) : lk (T_X5_grants post) 94 = o_if (fun x => x = 0) 97 101 := rfl
theorem k_X5_grants_97 (post : PO) : lk (T_X5_grants post) 97 = o_const 1 98 := rfl
theorem k_X5_grants_98 (post : PO) : lk (T_X5_grants post) 98 = o_goto 102 := rfl
theorem k_X5_grants_101 (post : PO) : lk (T_X5_grants post) 101 = o_const 0 102 := rfl
theorem k_X5_grants_102 (post : PO) : lk (T_X5_grants post) 102 = o_istore 5 104 := rfl
theorem k_X5_grants_104 (post : PO) : lk (T_X5_grants post) 104 = o_iinc 6 1 107 := rfl
theorem k_X5_grants_107 (post : PO) : lk (T_X5_grants post) 107 = o_goto 6 := rfl
theorem k_X5_grants_110 (post : PO) : lk (T_X5_grants post) 110 = o_iload 5 112 := rfl
theorem k_X5_grants_112 (post : PO) : lk (T_X5_grants post) 112 = o_zret post := rfl
set_option maxRecDepth 100000 in
theorem t_X5_grants {p : Program} {l : Launch} {e : Env} {s : State} {m : MethodId} {args : Array Value} {below : List Frame} {meth : Method} {c : Code} {D : va_G} {dA : Nat → ClassId} {ad : Nat → Nat} (post : PO) (C : CX p s m args meth c cX5_grants 8 yX5_grants.cls D dA ad (AA ad s.heap.size)) (hr : meth.sig.returnType = (some .boolean)) : SndL (WW p l e ({ frames := 2, cells := 0, slots := 0, locals := 43 } : Room) s m args below meth c 0 0 (MQ below (CQ D dA ad post (AA ad s.heap.size)) args s 0 0 (AA ad s.heap.size)) 8 D dA ad (AA ad s.heap.size)) (T_X5_grants post) := by
  refine snd_c (s_iconst C dX5_grants_0 rfl) ?_
  refine snd_c (s_istore C (by decide) dX5_grants_1) ?_
  refine snd_c (s_iconst C dX5_grants_3 rfl) ?_
  refine snd_c (s_istore C (by decide) dX5_grants_4) ?_
  refine snd_c (s_aload_n C rfl dX5_grants_6) ?_
  refine snd_c (s_iload C dX5_grants_7) ?_
  refine snd_c (s_callV C (ci := 5) c_X5_isGroup rfl cw_RX5_134 ⟨rfl, rfl⟩ ⟨by decide +kernel, by decide +kernel, by decide +kernel⟩ ⟨by decide, by decide⟩ ⟨Nat.zero_le _, Nat.zero_le _⟩ dX5_grants_9) ?_
  refine snd_c (s_if_eq C dX5_grants_12 (by decide)) ?_
  refine snd_c (s_iload C dX5_grants_15) ?_
  refine snd_c (s_if_eq C dX5_grants_17 (by decide)) ?_
  refine snd_c (s_aload_n C rfl dX5_grants_20) ?_
  refine snd_c (s_getf C (ci := 5) (j := 13) (T := TX5) rfl inX5 (by decide) fl_RX5_32 dX5_grants_21) ?_
  refine snd_c (s_sipush C dX5_grants_24 rfl) ?_
  refine snd_c (s_iload C dX5_grants_27) ?_
  refine snd_c (s_imul C dX5_grants_29) ?_
  refine snd_c (s_iload_n C rfl dX5_grants_30) ?_
  refine snd_c (s_iadd C dX5_grants_31) ?_
  refine snd_c (s_bald2 C dX5_grants_32) ?_
  refine snd_c (s_if_ne C dX5_grants_33 (by decide)) ?_
  refine snd_c (s_iload C dX5_grants_36) ?_
  refine snd_c (s_iload_n C rfl dX5_grants_38) ?_
  refine snd_c (s_ishr C dX5_grants_39) ?_
  refine snd_c (s_iconst C dX5_grants_40 rfl) ?_
  refine snd_c (s_iand C dX5_grants_41) ?_
  refine snd_c (s_iconst C dX5_grants_42 rfl) ?_
  refine snd_c (s_icmp_ne C dX5_grants_43 (by decide)) ?_
  refine snd_c (s_aload_n C rfl dX5_grants_46) ?_
  refine snd_c (s_getf C (ci := 5) (j := 13) (T := TX5) rfl inX5 (by decide) fl_RX5_32 dX5_grants_47) ?_
  refine snd_c (s_sipush C dX5_grants_50 rfl) ?_
  refine snd_c (s_iload C dX5_grants_53) ?_
  refine snd_c (s_imul C dX5_grants_55) ?_
  refine snd_c (s_iload_n C rfl dX5_grants_56) ?_
  refine snd_c (s_iload C dX5_grants_57) ?_
  refine snd_c (s_ixor C dX5_grants_59) ?_
  refine snd_c (s_iadd C dX5_grants_60) ?_
  refine snd_c (s_bald2 C dX5_grants_61) ?_
  refine snd_c (s_if_eq C dX5_grants_62 (by decide)) ?_
  refine snd_c (s_iconst C dX5_grants_65 rfl) ?_
  refine snd_c (s_goto C dX5_grants_66 (by decide)) ?_
  refine snd_c (s_iconst C dX5_grants_69 rfl) ?_
  refine snd_c (s_istore C (by decide) dX5_grants_70) ?_
  refine snd_c (s_iload C dX5_grants_72) ?_
  refine snd_c (s_iload_n C rfl dX5_grants_74) ?_
  refine snd_c (s_icmp_ne C dX5_grants_75 (by decide)) ?_
  refine snd_c (s_iload C dX5_grants_78) ?_
  refine snd_c (s_goto C dX5_grants_80 (by decide)) ?_
  refine snd_c (s_iload_n C rfl dX5_grants_83) ?_
  refine snd_c (s_iload C dX5_grants_84) ?_
  refine snd_c (s_iconst C dX5_grants_86 rfl) ?_
  refine snd_c (s_ixor C dX5_grants_87) ?_
  refine snd_c (s_iand C dX5_grants_88) ?_
  refine snd_c (s_if_eq C dX5_grants_89 (by decide)) ?_
  refine snd_c (s_iload C dX5_grants_92) ?_
  refine snd_c (s_if_ne C dX5_grants_94 (by decide)) ?_
  refine snd_c (s_iconst C dX5_grants_97 rfl) ?_
  refine snd_c (s_goto C dX5_grants_98 (by decide)) ?_
  refine snd_c (s_iconst C dX5_grants_101 rfl) ?_
  refine snd_c (s_istore C (by decide) dX5_grants_102) ?_
  refine snd_c (s_iinc C (by decide) rfl dX5_grants_104) ?_
  refine snd_c (s_goto C dX5_grants_107 (by decide)) ?_
  refine snd_c (s_iload C dX5_grants_110) ?_
  refine snd_c (s_zret C hr ⟨rfl, rfl⟩ dX5_grants_112) ?_
  exact trivial
set_option maxRecDepth 100000 in
theorem v_X5_grants : ∀ as M post, S_X5_grants as M post → wsum as ≤ 8 ∧ RUN (T_X5_grants post) 0 (entL 8 as) [] M := by
  rintro as M post ⟨pp, g, v, row, n, c, p, r, h0, lk, rfl, hpp, hg, hv, hrow, hX, hb, h1, h2⟩
  have hX0 := hX
  obtain ⟨hn, hn8, hc, hc6, hp, hp4, hr, hhk, hl⟩ := hX
  have hp1 := Nat.one_le_two_pow (n := p)
  have hp16 : 2 ^ p ≤ 16 := by have := ev_lt hp4; omega
  refine ⟨by show 5 ≤ 8; omega, run_of [6, 70] (fun μ pc lv st M' => M' = M ∧ ∃ u, u ≤ 2 ^ p ∧ ((pc = 6 ∧ st = [] ∧ ∃ ok, ((ok = 1 ∧ gnU r h0 n p g pp v row u) ∨ (ok = 0 ∧ ¬ gnU r h0 n p g pp v row (2 ^ p))) ∧ 2 * (100 - u) + 1 = μ ∧ lv = [some (VR 39), some (VI (nI pp)), some (VI (nI g)), some (VI (nI v)), some (VI (nI row)), some (VI ok), some (VI (nI u)), none]) ∨ (pc = 70 ∧ u < 2 ^ p ∧ gnU r h0 n p g pp v row u ∧ ∃ o, st = [VI o] ∧ ((o = 1 ∧ opU r h0 n p pp v row u) ∨ (o = 0 ∧ ¬ opU r h0 n p pp v row u)) ∧ 2 * (100 - u) = μ ∧ lv = [some (VR 39), some (VI (nI pp)), some (VI (nI g)), some (VI (nI v)), some (VI (nI row)), some (VI 1), some (VI (nI u)), none]))) 80 300 ?_ ?_⟩
  · rintro μ pc lv st M' ⟨rfl, u, hu, ⟨rfl, rfl, ok, hok, rfl, rfl⟩ | ⟨rfl, hu2, hgn, o, rfl, ho, rfl, rfl⟩⟩
    · dsimp only [k_X5_grants_0, k_X5_grants_1, k_X5_grants_3, k_X5_grants_4, k_X5_grants_6, k_X5_grants_7, k_X5_grants_9, k_X5_grants_12, k_X5_grants_15, k_X5_grants_17, k_X5_grants_20, k_X5_grants_21, k_X5_grants_24, k_X5_grants_27, k_X5_grants_29, k_X5_grants_30, k_X5_grants_31, k_X5_grants_32, k_X5_grants_33, k_X5_grants_36, k_X5_grants_38, k_X5_grants_39, k_X5_grants_40, k_X5_grants_41, k_X5_grants_42, k_X5_grants_43, k_X5_grants_46, k_X5_grants_47, k_X5_grants_50, k_X5_grants_53, k_X5_grants_55, k_X5_grants_56, k_X5_grants_57, k_X5_grants_59, k_X5_grants_60, k_X5_grants_61, k_X5_grants_62, k_X5_grants_65, k_X5_grants_66, k_X5_grants_69, k_X5_grants_70, k_X5_grants_72, k_X5_grants_74, k_X5_grants_75, k_X5_grants_78, k_X5_grants_80, k_X5_grants_83, k_X5_grants_84, k_X5_grants_86, k_X5_grants_87, k_X5_grants_88, k_X5_grants_89, k_X5_grants_92, k_X5_grants_94, k_X5_grants_97, k_X5_grants_98, k_X5_grants_101, k_X5_grants_102, k_X5_grants_104, k_X5_grants_107, k_X5_grants_110, k_X5_grants_112, wp1, wp_s, cutIn, kont, Nat.reduceSub, Nat.reduceAdd, nth, o_const, o_lconst, o_ref, o_iload, o_lload, o_aload, o_istore, o_lstore, o_astore, o_iinc, o_bin, o_div, o_un, o_lbin, o_lsh, o_lcmp, o_i2l, o_l2i, o_if, o_icmp, o_goto, o_dup, o_dup2, o_pop, fav, o_getf, o_putI, o_putZ, o_putL, o_ald, o_ast, o_alen, popn, rst, o_callV, o_callT, o_callS, swx, o_sw, o_ret, o_iret, o_zret, o_cret, o_lret, o_aret, lg, lput, lput2, ls1, isL, entL, wsum, rdI1, rdI2, rdA1, rdA21, rdA22, rdL1, rdL22, rdL21, upN_at, rep, sh_0, F_0_0, F_0_1, F_0_2, F_0_3, F_0_4, F_0_5, F_0_6, F_0_7, F_0_8, sh_1, F_1_0, F_1_1, F_1_2, F_1_3, F_1_4, F_1_5, sh_3, F_3_0, F_3_1, F_3_2, F_3_3, F_3_4, F_3_5, sh_5, F_5_0, F_5_1, F_5_2, F_5_3, F_5_4, F_5_5, F_5_6, F_5_7, F_5_8, sh_12, F_12_0, F_12_1, F_12_2, F_12_3, F_12_4, F_12_5, sh_14, F_14_0, F_14_1, F_14_2, F_14_3, F_14_4, F_14_5, F_14_6, F_14_7, F_14_8, sh_21, F_21_0, F_21_1, F_21_2, F_21_3, F_21_4, F_21_5, F_21_6, F_21_7, F_21_8, sh_28, F_28_0, F_28_1, F_28_2, F_28_3, F_28_4, F_28_5, F_28_6, F_28_7, F_28_8, sh_35, F_35_0, sh_39, F_39_0, F_39_1, F_39_2, F_39_3, F_39_4, F_39_5, F_39_6, F_39_7, F_39_8, F_39_9, F_39_10, F_39_11, F_39_12, F_39_13, A_2, A_4, A_6, A_7, A_8, A_9, A_10, A_11, A_13, A_15, A_16, A_17, A_18, A_19, A_20, A_22, A_23, A_24, A_25, A_26, A_27, A_29, A_30, A_31, A_32, A_33, A_34, A_36, A_37, A_38, A_40, A_41, A_42, A_43, A_44, A_45, A_46, A_47]
      refine ⟨nI u, n, c, p, r, h0, lk, rfl, hX0, fun w1 => ?_, fun w1 => ?_⟩
      · have hu2 : u < 2 ^ p := by
          have := w1.2
          rwa [nI_ltI (by omega) (by omega)] at this
        rcases hok with ⟨rfl, hgn⟩ | ⟨rfl, hno⟩
        · dsimp only [k_X5_grants_0, k_X5_grants_1, k_X5_grants_3, k_X5_grants_4, k_X5_grants_6, k_X5_grants_7, k_X5_grants_9, k_X5_grants_12, k_X5_grants_15, k_X5_grants_17, k_X5_grants_20, k_X5_grants_21, k_X5_grants_24, k_X5_grants_27, k_X5_grants_29, k_X5_grants_30, k_X5_grants_31, k_X5_grants_32, k_X5_grants_33, k_X5_grants_36, k_X5_grants_38, k_X5_grants_39, k_X5_grants_40, k_X5_grants_41, k_X5_grants_42, k_X5_grants_43, k_X5_grants_46, k_X5_grants_47, k_X5_grants_50, k_X5_grants_53, k_X5_grants_55, k_X5_grants_56, k_X5_grants_57, k_X5_grants_59, k_X5_grants_60, k_X5_grants_61, k_X5_grants_62, k_X5_grants_65, k_X5_grants_66, k_X5_grants_69, k_X5_grants_70, k_X5_grants_72, k_X5_grants_74, k_X5_grants_75, k_X5_grants_78, k_X5_grants_80, k_X5_grants_83, k_X5_grants_84, k_X5_grants_86, k_X5_grants_87, k_X5_grants_88, k_X5_grants_89, k_X5_grants_92, k_X5_grants_94, k_X5_grants_97, k_X5_grants_98, k_X5_grants_101, k_X5_grants_102, k_X5_grants_104, k_X5_grants_107, k_X5_grants_110, k_X5_grants_112, wp1, wp_s, cutIn, kont, Nat.reduceSub, Nat.reduceAdd, nth, o_const, o_lconst, o_ref, o_iload, o_lload, o_aload, o_istore, o_lstore, o_astore, o_iinc, o_bin, o_div, o_un, o_lbin, o_lsh, o_lcmp, o_i2l, o_l2i, o_if, o_icmp, o_goto, o_dup, o_dup2, o_pop, fav, o_getf, o_putI, o_putZ, o_putL, o_ald, o_ast, o_alen, popn, rst, o_callV, o_callT, o_callS, swx, o_sw, o_ret, o_iret, o_zret, o_cret, o_lret, o_aret, lg, lput, lput2, ls1, isL, entL, wsum, rdI1, rdI2, rdA1, rdA21, rdA22, rdL1, rdL22, rdL21, upN_at, rep, sh_0, F_0_0, F_0_1, F_0_2, F_0_3, F_0_4, F_0_5, F_0_6, F_0_7, F_0_8, sh_1, F_1_0, F_1_1, F_1_2, F_1_3, F_1_4, F_1_5, sh_3, F_3_0, F_3_1, F_3_2, F_3_3, F_3_4, F_3_5, sh_5, F_5_0, F_5_1, F_5_2, F_5_3, F_5_4, F_5_5, F_5_6, F_5_7, F_5_8, sh_12, F_12_0, F_12_1, F_12_2, F_12_3, F_12_4, F_12_5, sh_14, F_14_0, F_14_1, F_14_2, F_14_3, F_14_4, F_14_5, F_14_6, F_14_7, F_14_8, sh_21, F_21_0, F_21_1, F_21_2, F_21_3, F_21_4, F_21_5, F_21_6, F_21_7, F_21_8, sh_28, F_28_0, F_28_1, F_28_2, F_28_3, F_28_4, F_28_5, F_28_6, F_28_7, F_28_8, sh_35, F_35_0, sh_39, F_39_0, F_39_1, F_39_2, F_39_3, F_39_4, F_39_5, F_39_6, F_39_7, F_39_8, F_39_9, F_39_10, F_39_11, F_39_12, F_39_13, A_2, A_4, A_6, A_7, A_8, A_9, A_10, A_11, A_13, A_15, A_16, A_17, A_18, A_19, A_20, A_22, A_23, A_24, A_25, A_26, A_27, A_29, A_30, A_31, A_32, A_33, A_34, A_36, A_37, A_38, A_40, A_41, A_42, A_43, A_44, A_45, A_46, A_47]
          simp (config := { decide := true }) only [true_implies, false_implies, and_true, true_and, not_true_eq_false, not_false_eq_true, forall_const]
          obtain ⟨b1, b2⟩ := hb u hu2 v hv
          refine ⟨512 * u + v, by omega, by rw [show (512 : Int32) = nI 512 from rfl, pk_mul, nI_add], ?_⟩
          rw [bit_1 (by omega) (by omega)]
          refine ⟨fun w2 => ⟨fun w3 => ?_, fun w3 => ?_⟩, fun w2 => ?_⟩
          · have hxl : v ^^^ row < 512 := Nat.xor_lt_two_pow (n := 9) hv hrow
            obtain ⟨b3, b4⟩ := hb u hu2 (v ^^^ row) hxl
            have nv : ¬ mkU r h0 n p u v := fun e => by rw [b1 e] at w2; exact absurd w2 (by decide)
            refine ⟨512 * u + (v ^^^ row), by omega, by rw [show (512 : Int32) = nI 512 from rfl, pk_mul, nI_xor, nI_add], fun w4 => ?_, fun w4 => ?_⟩
            · refine cut _ _ ⟨rfl, u, hu, Or.inr ⟨rfl, hu2, hgn, 0, rfl, Or.inr ⟨rfl, ?_⟩, rfl, rfl⟩⟩ (by omega) ⟨rfl, rfl, rfl, rfl, rfl, rfl, rfl, trivial⟩
              rintro (e | ⟨_, e⟩)
              · exact nv e
              · rw [b3 e] at w4; exact absurd w4 (by decide)
            · refine cut _ _ ⟨rfl, u, hu, Or.inr ⟨rfl, hu2, hgn, 1, rfl, Or.inl ⟨rfl, Or.inr ⟨w3, ?_⟩⟩, rfl, rfl⟩⟩ (by omega) ⟨rfl, rfl, rfl, rfl, rfl, rfl, rfl, trivial⟩
              apply Classical.byContradiction
              intro e
              exact w4 (b4 e)
          · refine cut _ _ ⟨rfl, u, hu, Or.inr ⟨rfl, hu2, hgn, 0, rfl, Or.inr ⟨rfl, ?_⟩, rfl, rfl⟩⟩ (by omega) ⟨rfl, rfl, rfl, rfl, rfl, rfl, rfl, trivial⟩
            rintro (e | ⟨e, _⟩)
            · rw [b1 e] at w2; exact absurd w2 (by decide)
            · exact w3 e
          · refine cut _ _ ⟨rfl, u, hu, Or.inr ⟨rfl, hu2, hgn, 1, rfl, Or.inl ⟨rfl, Or.inl ?_⟩, rfl, rfl⟩⟩ (by omega) ⟨rfl, rfl, rfl, rfl, rfl, rfl, rfl, trivial⟩
            apply Classical.byContradiction
            intro e
            exact w2 (b2 e)
        · dsimp only [k_X5_grants_0, k_X5_grants_1, k_X5_grants_3, k_X5_grants_4, k_X5_grants_6, k_X5_grants_7, k_X5_grants_9, k_X5_grants_12, k_X5_grants_15, k_X5_grants_17, k_X5_grants_20, k_X5_grants_21, k_X5_grants_24, k_X5_grants_27, k_X5_grants_29, k_X5_grants_30, k_X5_grants_31, k_X5_grants_32, k_X5_grants_33, k_X5_grants_36, k_X5_grants_38, k_X5_grants_39, k_X5_grants_40, k_X5_grants_41, k_X5_grants_42, k_X5_grants_43, k_X5_grants_46, k_X5_grants_47, k_X5_grants_50, k_X5_grants_53, k_X5_grants_55, k_X5_grants_56, k_X5_grants_57, k_X5_grants_59, k_X5_grants_60, k_X5_grants_61, k_X5_grants_62, k_X5_grants_65, k_X5_grants_66, k_X5_grants_69, k_X5_grants_70, k_X5_grants_72, k_X5_grants_74, k_X5_grants_75, k_X5_grants_78, k_X5_grants_80, k_X5_grants_83, k_X5_grants_84, k_X5_grants_86, k_X5_grants_87, k_X5_grants_88, k_X5_grants_89, k_X5_grants_92, k_X5_grants_94, k_X5_grants_97, k_X5_grants_98, k_X5_grants_101, k_X5_grants_102, k_X5_grants_104, k_X5_grants_107, k_X5_grants_110, k_X5_grants_112, wp1, wp_s, cutIn, kont, Nat.reduceSub, Nat.reduceAdd, nth, o_const, o_lconst, o_ref, o_iload, o_lload, o_aload, o_istore, o_lstore, o_astore, o_iinc, o_bin, o_div, o_un, o_lbin, o_lsh, o_lcmp, o_i2l, o_l2i, o_if, o_icmp, o_goto, o_dup, o_dup2, o_pop, fav, o_getf, o_putI, o_putZ, o_putL, o_ald, o_ast, o_alen, popn, rst, o_callV, o_callT, o_callS, swx, o_sw, o_ret, o_iret, o_zret, o_cret, o_lret, o_aret, lg, lput, lput2, ls1, isL, entL, wsum, rdI1, rdI2, rdA1, rdA21, rdA22, rdL1, rdL22, rdL21, upN_at, rep, sh_0, F_0_0, F_0_1, F_0_2, F_0_3, F_0_4, F_0_5, F_0_6, F_0_7, F_0_8, sh_1, F_1_0, F_1_1, F_1_2, F_1_3, F_1_4, F_1_5, sh_3, F_3_0, F_3_1, F_3_2, F_3_3, F_3_4, F_3_5, sh_5, F_5_0, F_5_1, F_5_2, F_5_3, F_5_4, F_5_5, F_5_6, F_5_7, F_5_8, sh_12, F_12_0, F_12_1, F_12_2, F_12_3, F_12_4, F_12_5, sh_14, F_14_0, F_14_1, F_14_2, F_14_3, F_14_4, F_14_5, F_14_6, F_14_7, F_14_8, sh_21, F_21_0, F_21_1, F_21_2, F_21_3, F_21_4, F_21_5, F_21_6, F_21_7, F_21_8, sh_28, F_28_0, F_28_1, F_28_2, F_28_3, F_28_4, F_28_5, F_28_6, F_28_7, F_28_8, sh_35, F_35_0, sh_39, F_39_0, F_39_1, F_39_2, F_39_3, F_39_4, F_39_5, F_39_6, F_39_7, F_39_8, F_39_9, F_39_10, F_39_11, F_39_12, F_39_13, A_2, A_4, A_6, A_7, A_8, A_9, A_10, A_11, A_13, A_15, A_16, A_17, A_18, A_19, A_20, A_22, A_23, A_24, A_25, A_26, A_27, A_29, A_30, A_31, A_32, A_33, A_34, A_36, A_37, A_38, A_40, A_41, A_42, A_43, A_44, A_45, A_46, A_47]
          simp (config := { decide := true }) only [true_implies, false_implies, and_true, true_and, not_true_eq_false, not_false_eq_true, forall_const]
          exact h2 hno
      · have e : u = 2 ^ p := by
          rcases Nat.lt_or_ge u (2 ^ p) with g1 | g1
          · exact absurd ⟨nI_pos' (by omega), (nI_ltI (by omega) (by omega)).mpr g1⟩ w1
          · omega
        dsimp only [k_X5_grants_0, k_X5_grants_1, k_X5_grants_3, k_X5_grants_4, k_X5_grants_6, k_X5_grants_7, k_X5_grants_9, k_X5_grants_12, k_X5_grants_15, k_X5_grants_17, k_X5_grants_20, k_X5_grants_21, k_X5_grants_24, k_X5_grants_27, k_X5_grants_29, k_X5_grants_30, k_X5_grants_31, k_X5_grants_32, k_X5_grants_33, k_X5_grants_36, k_X5_grants_38, k_X5_grants_39, k_X5_grants_40, k_X5_grants_41, k_X5_grants_42, k_X5_grants_43, k_X5_grants_46, k_X5_grants_47, k_X5_grants_50, k_X5_grants_53, k_X5_grants_55, k_X5_grants_56, k_X5_grants_57, k_X5_grants_59, k_X5_grants_60, k_X5_grants_61, k_X5_grants_62, k_X5_grants_65, k_X5_grants_66, k_X5_grants_69, k_X5_grants_70, k_X5_grants_72, k_X5_grants_74, k_X5_grants_75, k_X5_grants_78, k_X5_grants_80, k_X5_grants_83, k_X5_grants_84, k_X5_grants_86, k_X5_grants_87, k_X5_grants_88, k_X5_grants_89, k_X5_grants_92, k_X5_grants_94, k_X5_grants_97, k_X5_grants_98, k_X5_grants_101, k_X5_grants_102, k_X5_grants_104, k_X5_grants_107, k_X5_grants_110, k_X5_grants_112, wp1, wp_s, cutIn, kont, Nat.reduceSub, Nat.reduceAdd, nth, o_const, o_lconst, o_ref, o_iload, o_lload, o_aload, o_istore, o_lstore, o_astore, o_iinc, o_bin, o_div, o_un, o_lbin, o_lsh, o_lcmp, o_i2l, o_l2i, o_if, o_icmp, o_goto, o_dup, o_dup2, o_pop, fav, o_getf, o_putI, o_putZ, o_putL, o_ald, o_ast, o_alen, popn, rst, o_callV, o_callT, o_callS, swx, o_sw, o_ret, o_iret, o_zret, o_cret, o_lret, o_aret, lg, lput, lput2, ls1, isL, entL, wsum, rdI1, rdI2, rdA1, rdA21, rdA22, rdL1, rdL22, rdL21, upN_at, rep, sh_0, F_0_0, F_0_1, F_0_2, F_0_3, F_0_4, F_0_5, F_0_6, F_0_7, F_0_8, sh_1, F_1_0, F_1_1, F_1_2, F_1_3, F_1_4, F_1_5, sh_3, F_3_0, F_3_1, F_3_2, F_3_3, F_3_4, F_3_5, sh_5, F_5_0, F_5_1, F_5_2, F_5_3, F_5_4, F_5_5, F_5_6, F_5_7, F_5_8, sh_12, F_12_0, F_12_1, F_12_2, F_12_3, F_12_4, F_12_5, sh_14, F_14_0, F_14_1, F_14_2, F_14_3, F_14_4, F_14_5, F_14_6, F_14_7, F_14_8, sh_21, F_21_0, F_21_1, F_21_2, F_21_3, F_21_4, F_21_5, F_21_6, F_21_7, F_21_8, sh_28, F_28_0, F_28_1, F_28_2, F_28_3, F_28_4, F_28_5, F_28_6, F_28_7, F_28_8, sh_35, F_35_0, sh_39, F_39_0, F_39_1, F_39_2, F_39_3, F_39_4, F_39_5, F_39_6, F_39_7, F_39_8, F_39_9, F_39_10, F_39_11, F_39_12, F_39_13, A_2, A_4, A_6, A_7, A_8, A_9, A_10, A_11, A_13, A_15, A_16, A_17, A_18, A_19, A_20, A_22, A_23, A_24, A_25, A_26, A_27, A_29, A_30, A_31, A_32, A_33, A_34, A_36, A_37, A_38, A_40, A_41, A_42, A_43, A_44, A_45, A_46, A_47]
        simp (config := { decide := true }) only [true_implies, false_implies, and_true, true_and, not_true_eq_false, not_false_eq_true, forall_const]
        rcases hok with ⟨rfl, hgn⟩ | ⟨rfl, hno⟩
        · exact ⟨Or.inr rfl, h1 (by rw [← e]; exact hgn)⟩
        · exact ⟨Or.inl rfl, h2 hno⟩
    · have nx : ((u = g → opU r h0 n p pp v row u) ∧ (u ≠ g → g &&& u = g ∨ ¬ opU r h0 n p pp v row u)) → gnU r h0 n p g pp v row (u + 1) := by
        intro e w hw
        rcases Nat.lt_or_ge w u with g1 | g1
        · exact hgn w g1
        · rw [show w = u by omega]; exact e
      dsimp only [k_X5_grants_0, k_X5_grants_1, k_X5_grants_3, k_X5_grants_4, k_X5_grants_6, k_X5_grants_7, k_X5_grants_9, k_X5_grants_12, k_X5_grants_15, k_X5_grants_17, k_X5_grants_20, k_X5_grants_21, k_X5_grants_24, k_X5_grants_27, k_X5_grants_29, k_X5_grants_30, k_X5_grants_31, k_X5_grants_32, k_X5_grants_33, k_X5_grants_36, k_X5_grants_38, k_X5_grants_39, k_X5_grants_40, k_X5_grants_41, k_X5_grants_42, k_X5_grants_43, k_X5_grants_46, k_X5_grants_47, k_X5_grants_50, k_X5_grants_53, k_X5_grants_55, k_X5_grants_56, k_X5_grants_57, k_X5_grants_59, k_X5_grants_60, k_X5_grants_61, k_X5_grants_62, k_X5_grants_65, k_X5_grants_66, k_X5_grants_69, k_X5_grants_70, k_X5_grants_72, k_X5_grants_74, k_X5_grants_75, k_X5_grants_78, k_X5_grants_80, k_X5_grants_83, k_X5_grants_84, k_X5_grants_86, k_X5_grants_87, k_X5_grants_88, k_X5_grants_89, k_X5_grants_92, k_X5_grants_94, k_X5_grants_97, k_X5_grants_98, k_X5_grants_101, k_X5_grants_102, k_X5_grants_104, k_X5_grants_107, k_X5_grants_110, k_X5_grants_112, wp1, wp_s, cutIn, kont, Nat.reduceSub, Nat.reduceAdd, nth, o_const, o_lconst, o_ref, o_iload, o_lload, o_aload, o_istore, o_lstore, o_astore, o_iinc, o_bin, o_div, o_un, o_lbin, o_lsh, o_lcmp, o_i2l, o_l2i, o_if, o_icmp, o_goto, o_dup, o_dup2, o_pop, fav, o_getf, o_putI, o_putZ, o_putL, o_ald, o_ast, o_alen, popn, rst, o_callV, o_callT, o_callS, swx, o_sw, o_ret, o_iret, o_zret, o_cret, o_lret, o_aret, lg, lput, lput2, ls1, isL, entL, wsum, rdI1, rdI2, rdA1, rdA21, rdA22, rdL1, rdL22, rdL21, upN_at, rep, sh_0, F_0_0, F_0_1, F_0_2, F_0_3, F_0_4, F_0_5, F_0_6, F_0_7, F_0_8, sh_1, F_1_0, F_1_1, F_1_2, F_1_3, F_1_4, F_1_5, sh_3, F_3_0, F_3_1, F_3_2, F_3_3, F_3_4, F_3_5, sh_5, F_5_0, F_5_1, F_5_2, F_5_3, F_5_4, F_5_5, F_5_6, F_5_7, F_5_8, sh_12, F_12_0, F_12_1, F_12_2, F_12_3, F_12_4, F_12_5, sh_14, F_14_0, F_14_1, F_14_2, F_14_3, F_14_4, F_14_5, F_14_6, F_14_7, F_14_8, sh_21, F_21_0, F_21_1, F_21_2, F_21_3, F_21_4, F_21_5, F_21_6, F_21_7, F_21_8, sh_28, F_28_0, F_28_1, F_28_2, F_28_3, F_28_4, F_28_5, F_28_6, F_28_7, F_28_8, sh_35, F_35_0, sh_39, F_39_0, F_39_1, F_39_2, F_39_3, F_39_4, F_39_5, F_39_6, F_39_7, F_39_8, F_39_9, F_39_10, F_39_11, F_39_12, F_39_13, A_2, A_4, A_6, A_7, A_8, A_9, A_10, A_11, A_13, A_15, A_16, A_17, A_18, A_19, A_20, A_22, A_23, A_24, A_25, A_26, A_27, A_29, A_30, A_31, A_32, A_33, A_34, A_36, A_37, A_38, A_40, A_41, A_42, A_43, A_44, A_45, A_46, A_47]
      rw [nI_eq (by omega) (by omega), In_iff, In_nI (by omega) (by omega)]
      refine ⟨fun w1 => ?_, fun w1 => ⟨fun w2 => ?_, fun w2 => ⟨fun w3 => ?_, fun w3 => ?_⟩⟩⟩
      · rcases ho with ⟨rfl, ho⟩ | ⟨rfl, ho⟩
        · exact cut _ _ ⟨rfl, u + 1, by omega, Or.inl ⟨rfl, rfl, 1, Or.inl ⟨rfl, nx ⟨fun _ => ho, fun e => absurd w1 e⟩⟩, rfl, rfl⟩⟩ (by omega) ⟨rfl, rfl, rfl, rfl, rfl, rfl, by first | rfl | exact vi_eq (nI_1 _), trivial⟩
        · exact cut _ _ ⟨rfl, u + 1, by omega, Or.inl ⟨rfl, rfl, 0, Or.inr ⟨rfl, fun e => ho ((e u hu2).1 w1)⟩, rfl, rfl⟩⟩ (by omega) ⟨rfl, rfl, rfl, rfl, rfl, rfl, by first | rfl | exact vi_eq (nI_1 _), trivial⟩
      · exact cut _ _ ⟨rfl, u + 1, by omega, Or.inl ⟨rfl, rfl, 1, Or.inl ⟨rfl, nx ⟨fun e => absurd e w1, fun _ => Or.inl w2⟩⟩, rfl, rfl⟩⟩ (by omega) ⟨rfl, rfl, rfl, rfl, rfl, rfl, by first | rfl | exact vi_eq (nI_1 _), trivial⟩
      · rcases ho with ⟨rfl, ho⟩ | ⟨rfl, ho⟩
        · exact absurd w3 (by decide)
        · exact cut _ _ ⟨rfl, u + 1, by omega, Or.inl ⟨rfl, rfl, 1, Or.inl ⟨rfl, nx ⟨fun e => absurd e w1, fun _ => Or.inr ho⟩⟩, rfl, rfl⟩⟩ (by omega) ⟨rfl, rfl, rfl, rfl, rfl, rfl, by first | rfl | exact vi_eq (nI_1 _), trivial⟩
      · rcases ho with ⟨rfl, ho⟩ | ⟨rfl, ho⟩
        · exact cut _ _ ⟨rfl, u + 1, by omega, Or.inl ⟨rfl, rfl, 0, Or.inr ⟨rfl, fun e => ((e u hu2).2 w1).elim w2 (fun z => z ho)⟩, rfl, rfl⟩⟩ (by omega) ⟨rfl, rfl, rfl, rfl, rfl, rfl, by first | rfl | exact vi_eq (nI_1 _), trivial⟩
        · exact absurd rfl w3
  · dsimp only [k_X5_grants_0, k_X5_grants_1, k_X5_grants_3, k_X5_grants_4, k_X5_grants_6, k_X5_grants_7, k_X5_grants_9, k_X5_grants_12, k_X5_grants_15, k_X5_grants_17, k_X5_grants_20, k_X5_grants_21, k_X5_grants_24, k_X5_grants_27, k_X5_grants_29, k_X5_grants_30, k_X5_grants_31, k_X5_grants_32, k_X5_grants_33, k_X5_grants_36, k_X5_grants_38, k_X5_grants_39, k_X5_grants_40, k_X5_grants_41, k_X5_grants_42, k_X5_grants_43, k_X5_grants_46, k_X5_grants_47, k_X5_grants_50, k_X5_grants_53, k_X5_grants_55, k_X5_grants_56, k_X5_grants_57, k_X5_grants_59, k_X5_grants_60, k_X5_grants_61, k_X5_grants_62, k_X5_grants_65, k_X5_grants_66, k_X5_grants_69, k_X5_grants_70, k_X5_grants_72, k_X5_grants_74, k_X5_grants_75, k_X5_grants_78, k_X5_grants_80, k_X5_grants_83, k_X5_grants_84, k_X5_grants_86, k_X5_grants_87, k_X5_grants_88, k_X5_grants_89, k_X5_grants_92, k_X5_grants_94, k_X5_grants_97, k_X5_grants_98, k_X5_grants_101, k_X5_grants_102, k_X5_grants_104, k_X5_grants_107, k_X5_grants_110, k_X5_grants_112, wp1, wp_s, cutIn, kont, Nat.reduceSub, Nat.reduceAdd, nth, o_const, o_lconst, o_ref, o_iload, o_lload, o_aload, o_istore, o_lstore, o_astore, o_iinc, o_bin, o_div, o_un, o_lbin, o_lsh, o_lcmp, o_i2l, o_l2i, o_if, o_icmp, o_goto, o_dup, o_dup2, o_pop, fav, o_getf, o_putI, o_putZ, o_putL, o_ald, o_ast, o_alen, popn, rst, o_callV, o_callT, o_callS, swx, o_sw, o_ret, o_iret, o_zret, o_cret, o_lret, o_aret, lg, lput, lput2, ls1, isL, entL, wsum, rdI1, rdI2, rdA1, rdA21, rdA22, rdL1, rdL22, rdL21, upN_at, rep, sh_0, F_0_0, F_0_1, F_0_2, F_0_3, F_0_4, F_0_5, F_0_6, F_0_7, F_0_8, sh_1, F_1_0, F_1_1, F_1_2, F_1_3, F_1_4, F_1_5, sh_3, F_3_0, F_3_1, F_3_2, F_3_3, F_3_4, F_3_5, sh_5, F_5_0, F_5_1, F_5_2, F_5_3, F_5_4, F_5_5, F_5_6, F_5_7, F_5_8, sh_12, F_12_0, F_12_1, F_12_2, F_12_3, F_12_4, F_12_5, sh_14, F_14_0, F_14_1, F_14_2, F_14_3, F_14_4, F_14_5, F_14_6, F_14_7, F_14_8, sh_21, F_21_0, F_21_1, F_21_2, F_21_3, F_21_4, F_21_5, F_21_6, F_21_7, F_21_8, sh_28, F_28_0, F_28_1, F_28_2, F_28_3, F_28_4, F_28_5, F_28_6, F_28_7, F_28_8, sh_35, F_35_0, sh_39, F_39_0, F_39_1, F_39_2, F_39_3, F_39_4, F_39_5, F_39_6, F_39_7, F_39_8, F_39_9, F_39_10, F_39_11, F_39_12, F_39_13, A_2, A_4, A_6, A_7, A_8, A_9, A_10, A_11, A_13, A_15, A_16, A_17, A_18, A_19, A_20, A_22, A_23, A_24, A_25, A_26, A_27, A_29, A_30, A_31, A_32, A_33, A_34, A_36, A_37, A_38, A_40, A_41, A_42, A_43, A_44, A_45, A_46, A_47]
    exact cut _ _ ⟨rfl, 0, by omega, Or.inl ⟨rfl, rfl, 1, Or.inl ⟨rfl, fun u hu => absurd hu (by omega)⟩, rfl, rfl⟩⟩ (by omega) ⟨rfl, rfl, rfl, rfl, rfl, rfl, rfl, trivial⟩
theorem c_X5_grants : Ctr yX5_grants cX5_grants 8 (some .boolean) ({ frames := 2, cells := 0, slots := 0, locals := 43 } : Room) S_X5_grants := ctr_of (T := T_X5_grants) (by decide +kernel) (fun post C hr => t_X5_grants post C hr) v_X5_grants
