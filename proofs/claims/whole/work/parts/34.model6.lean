/-! The model: the fewest keys for a row, odds. -/
theorem ct_up {P : Nat → Bool} {a : Nat} (h : ∀ j, a ≤ j → P j = false) : ∀ d, ct P (a + d) = ct P a := by
  intro d
  induction d with
  | zero => rfl
  | succ d ih => rw [← Nat.add_assoc, ct, h (a + d) (by omega), ih]; rfl
theorem mnf_up {P : Nat → Bool} {w : Nat → Nat} {a : Nat} (h : ∀ j, a ≤ j → P j = false) : ∀ d, mnf P w (a + d) = mnf P w a := by
  intro d
  induction d with
  | zero => rfl
  | succ d ih => rw [← Nat.add_assoc, mnf_s0 (fun e => by rw [h (a + d) (by omega)] at e; cases e), ih]
theorem up_x {x : Int32} {n m : Nat} (hn : n < 2 ^ 31) (hm : m = n + 1) (hm2 : m < 2 ^ 31) : (0 ≤ x ∧ x ≤ nI n) ↔ (0 ≤ x ∧ x < nI m) := by
  subst hm
  constructor
  · rintro ⟨h1, h2⟩
    obtain ⟨k, hk, rfl⟩ := nI_of (x := x) (Int32.not_lt.mpr h1)
    rw [nI_leI (by omega) (by omega)] at h2
    exact ⟨h1, (nI_ltI (by omega) (by omega)).mpr (by omega)⟩
  · rintro ⟨h1, h2⟩
    obtain ⟨k, hk, rfl⟩ := nI_of (x := x) (Int32.not_lt.mpr h1)
    rw [nI_ltI (by omega) (by omega)] at h2
    exact ⟨h1, (nI_leI (by omega) (by omega)).mpr (by omega)⟩
def S_X5_fewest : SP := fun as M post => ∃ x y z n c p r h lk, as = [VR 39, VI x, VI y, VI z] ∧ MW M n c p r h lk ∧ (¬ ((0 ≤ x ∧ x < 512) ∧ (0 ≤ y ∧ y < 9) ∧ (z = 0 ∨ z = 1)) → post (some (VI (-1))) M) ∧ (∀ lim, (0 ≤ x ∧ x < 512) → y = nI lim → lim < 9 → (z = 0 ∨ z = 1) → post (some (VI (ans0 (mnf (fwP (us h n) n lim (fun k => nI (r k)) x) (fun T => cn T 9) (us h n + 1)) (fun T => cn T 9) z))) M)
def S_X5_odds : SP := fun as M post => ∃ x y z n c p r h lk, as = [VR 39, VI x, VI y, VI z] ∧ MW M n c p r h lk ∧ (¬ ((0 ≤ x ∧ x ≤ 8) ∧ (0 ≤ y ∧ y < 512) ∧ (z = 0 ∨ z = 1)) → post (some (VI (-1))) M) ∧
  (∀ k row, x = nI k → k ≤ 8 → y = nI row → row < 512 → ∀ S G, S = ct (oS (us h n) k) (us h n + 1) → G = ct (oG r n (us h n) k row) (us h n + 1) → (G = 0 → (z = 0 ∨ z = 1) → post (some (VI z)) M) ∧ (G ≠ 0 → z = 0 → post (some (VI (nI (G / Nat.gcd G S)))) M) ∧ (G ≠ 0 → z = 1 → post (some (VI (nI (S / Nat.gcd G S)))) M))
theorem dX5_fewest_0 : decode cX5_fewest 0 = .ok (.iload_n 1, 1) := by decide +kernel
theorem dX5_fewest_1 : decode cX5_fewest 1 = .ok (.iconst 0, 1) := by decide +kernel
theorem dX5_fewest_2 : decode cX5_fewest 2 = .ok (.sipush 511, 3) := by decide +kernel
theorem dX5_fewest_5 : decode cX5_fewest 5 = .ok (.invokestatic 35, 3) := by decide +kernel
theorem dX5_fewest_8 : decode cX5_fewest 8 = .ok (.ifCond .eq 22, 3) := by decide +kernel
theorem dX5_fewest_11 : decode cX5_fewest 11 = .ok (.iload_n 2, 1) := by decide +kernel
theorem dX5_fewest_12 : decode cX5_fewest 12 = .ok (.iconst 0, 1) := by decide +kernel
theorem dX5_fewest_13 : decode cX5_fewest 13 = .ok (.bipush 8, 2) := by decide +kernel
theorem dX5_fewest_15 : decode cX5_fewest 15 = .ok (.invokestatic 35, 3) := by decide +kernel
theorem dX5_fewest_18 : decode cX5_fewest 18 = .ok (.ifCond .eq 12, 3) := by decide +kernel
theorem dX5_fewest_21 : decode cX5_fewest 21 = .ok (.iload_n 3, 1) := by decide +kernel
theorem dX5_fewest_22 : decode cX5_fewest 22 = .ok (.iconst 0, 1) := by decide +kernel
theorem dX5_fewest_23 : decode cX5_fewest 23 = .ok (.iconst 1, 1) := by decide +kernel
theorem dX5_fewest_24 : decode cX5_fewest 24 = .ok (.invokestatic 35, 3) := by decide +kernel
theorem dX5_fewest_27 : decode cX5_fewest 27 = .ok (.ifCond .ne 5, 3) := by decide +kernel
theorem dX5_fewest_30 : decode cX5_fewest 30 = .ok (.iconst (-1), 1) := by decide +kernel
theorem dX5_fewest_31 : decode cX5_fewest 31 = .ok (.ireturn, 1) := by decide +kernel
theorem dX5_fewest_32 : decode cX5_fewest 32 = .ok (.bipush (-9), 2) := by decide +kernel
theorem dX5_fewest_34 : decode cX5_fewest 34 = .ok (.istore 4, 2) := by decide +kernel
theorem dX5_fewest_36 : decode cX5_fewest 36 = .ok (.iconst 0, 1) := by decide +kernel
theorem dX5_fewest_37 : decode cX5_fewest 37 = .ok (.istore 5, 2) := by decide +kernel
theorem dX5_fewest_39 : decode cX5_fewest 39 = .ok (.iload 5, 2) := by decide +kernel
theorem dX5_fewest_41 : decode cX5_fewest 41 = .ok (.sipush 256, 3) := by decide +kernel
theorem dX5_fewest_44 : decode cX5_fewest 44 = .ok (.if_icmp .ge 78, 3) := by decide +kernel
theorem dX5_fewest_47 : decode cX5_fewest 47 = .ok (.aload_n 0, 1) := by decide +kernel
theorem dX5_fewest_48 : decode cX5_fewest 48 = .ok (.iload 5, 2) := by decide +kernel
theorem dX5_fewest_50 : decode cX5_fewest 50 = .ok (.invokevirtual 107, 3) := by decide +kernel
theorem dX5_fewest_53 : decode cX5_fewest 53 = .ok (.ifCond .eq 26, 3) := by decide +kernel
theorem dX5_fewest_56 : decode cX5_fewest 56 = .ok (.iload 5, 2) := by decide +kernel
theorem dX5_fewest_58 : decode cX5_fewest 58 = .ok (.invokestatic 131, 3) := by decide +kernel
theorem dX5_fewest_61 : decode cX5_fewest 61 = .ok (.iload_n 2, 1) := by decide +kernel
theorem dX5_fewest_62 : decode cX5_fewest 62 = .ok (.if_icmp .gt 17, 3) := by decide +kernel
theorem dX5_fewest_65 : decode cX5_fewest 65 = .ok (.aload_n 0, 1) := by decide +kernel
theorem dX5_fewest_66 : decode cX5_fewest 66 = .ok (.iload 5, 2) := by decide +kernel
theorem dX5_fewest_68 : decode cX5_fewest 68 = .ok (.invokevirtual 110, 3) := by decide +kernel
theorem dX5_fewest_71 : decode cX5_fewest 71 = .ok (.iload_n 1, 1) := by decide +kernel
theorem dX5_fewest_72 : decode cX5_fewest 72 = .ok (.if_icmp .ne 7, 3) := by decide +kernel
theorem dX5_fewest_75 : decode cX5_fewest 75 = .ok (.iconst 1, 1) := by decide +kernel
theorem dX5_fewest_76 : decode cX5_fewest 76 = .ok (.goto 4, 3) := by decide +kernel
theorem dX5_fewest_79 : decode cX5_fewest 79 = .ok (.iconst 0, 1) := by decide +kernel
theorem dX5_fewest_80 : decode cX5_fewest 80 = .ok (.istore 6, 2) := by decide +kernel
theorem dX5_fewest_82 : decode cX5_fewest 82 = .ok (.iload 6, 2) := by decide +kernel
theorem dX5_fewest_84 : decode cX5_fewest 84 = .ok (.ifCond .eq 28, 3) := by decide +kernel
theorem dX5_fewest_87 : decode cX5_fewest 87 = .ok (.iload 4, 2) := by decide +kernel
theorem dX5_fewest_89 : decode cX5_fewest 89 = .ok (.bipush (-9), 2) := by decide +kernel
theorem dX5_fewest_91 : decode cX5_fewest 91 = .ok (.if_icmp .eq 16, 3) := by decide +kernel
theorem dX5_fewest_94 : decode cX5_fewest 94 = .ok (.iload 5, 2) := by decide +kernel
theorem dX5_fewest_96 : decode cX5_fewest 96 = .ok (.invokestatic 131, 3) := by decide +kernel
theorem dX5_fewest_99 : decode cX5_fewest 99 = .ok (.iload 4, 2) := by decide +kernel
theorem dX5_fewest_101 : decode cX5_fewest 101 = .ok (.invokestatic 131, 3) := by decide +kernel
theorem dX5_fewest_104 : decode cX5_fewest 104 = .ok (.if_icmp .ge 8, 3) := by decide +kernel
theorem dX5_fewest_107 : decode cX5_fewest 107 = .ok (.iload 5, 2) := by decide +kernel
theorem dX5_fewest_109 : decode cX5_fewest 109 = .ok (.goto 5, 3) := by decide +kernel
theorem dX5_fewest_112 : decode cX5_fewest 112 = .ok (.iload 4, 2) := by decide +kernel
theorem dX5_fewest_114 : decode cX5_fewest 114 = .ok (.istore 4, 2) := by decide +kernel
theorem dX5_fewest_116 : decode cX5_fewest 116 = .ok (.iinc 5 1, 3) := by decide +kernel
theorem dX5_fewest_119 : decode cX5_fewest 119 = .ok (.goto (-80), 3) := by decide +kernel
theorem dX5_fewest_122 : decode cX5_fewest 122 = .ok (.iload 4, 2) := by decide +kernel
theorem dX5_fewest_124 : decode cX5_fewest 124 = .ok (.bipush (-9), 2) := by decide +kernel
theorem dX5_fewest_126 : decode cX5_fewest 126 = .ok (.if_icmp .eq 8, 3) := by decide +kernel
theorem dX5_fewest_129 : decode cX5_fewest 129 = .ok (.iload_n 3, 1) := by decide +kernel
theorem dX5_fewest_130 : decode cX5_fewest 130 = .ok (.iconst 1, 1) := by decide +kernel
theorem dX5_fewest_131 : decode cX5_fewest 131 = .ok (.if_icmp .ne 8, 3) := by decide +kernel
theorem dX5_fewest_134 : decode cX5_fewest 134 = .ok (.iload 4, 2) := by decide +kernel
theorem dX5_fewest_136 : decode cX5_fewest 136 = .ok (.goto 8, 3) := by decide +kernel
theorem dX5_fewest_139 : decode cX5_fewest 139 = .ok (.iload 4, 2) := by decide +kernel
theorem dX5_fewest_141 : decode cX5_fewest 141 = .ok (.invokestatic 131, 3) := by decide +kernel
theorem dX5_fewest_144 : decode cX5_fewest 144 = .ok (.ireturn, 1) := by decide +kernel
def T_X5_fewest (post : PO) : List (Nat × OP) := [(0, o_iload 1 1), (1, o_const 0 2), (2, o_const 511 5), (5, o_callS S_X5_in 3 8), (8, o_if (fun x => x = 0) 30 11), (11, o_iload 2 12), (12, o_const 0 13), (13, o_const 8 15), (15, o_callS S_X5_in 3 18), (18, o_if (fun x => x = 0) 30 21), (21, o_iload 3 22), (22, o_const 0 23), (23, o_const 1 24), (24, o_callS S_X5_in 3 27), (27, o_if (fun x => x = 0) 30 32), (30, o_const (-1) 31), (31, o_iret post), (32, o_const (-9) 34), (34, o_istore 4 36), (36, o_const 0 37), (37, o_istore 5 39), (39, o_iload 5 41), (41, o_const 256 44), (44, o_icmp (fun x y => y ≤ x) 122 47), (47, o_aload 0 48), (48, o_iload 5 50), (50, o_callV 5 S_X5_isSet 1 53), (53, o_if (fun x => x = 0) 79 56), (56, o_iload 5 58), (58, o_callS S_X5_ones 1 61), (61, o_iload 2 62), (62, o_icmp (fun x y => y < x) 79 65), (65, o_aload 0 66), (66, o_iload 5 68), (68, o_callV 5 S_X5_rowOf 1 71), (71, o_iload 1 72), (72, o_icmp (fun x y => x = y) 75 79), (75, o_const 1 76), (76, o_goto 80), (79, o_const 0 80), (80, o_istore 6 82), (82, o_iload 6 84), (84, o_if (fun x => x = 0) 112 87), (87, o_iload 4 89), (89, o_const (-9) 91), (91, o_icmp (fun x y => x = y) 107 94), (94, o_iload 5 96), (96, o_callS S_X5_ones 1 99), (99, o_iload 4 101), (101, o_callS S_X5_ones 1 104), (104, o_icmp (fun x y => y ≤ x) 112 107), (107, o_iload 5 109), (109, o_goto 114), (112, o_iload 4 114), (114, o_istore 4 116), (116, o_iinc 5 1 119), (119, o_goto 39), (122, o_iload 4 124), (124, o_const (-9) 126), (126, o_icmp (fun x y => x = y) 134 129), (129, o_iload 3 130), (130, o_const 1 131), (131, o_icmp (fun x y => x = y) 134 139), (134, o_iload 4 136), (136, o_goto 144), (139, o_iload 4 141), (141, o_callS S_X5_ones 1 144), (144, o_iret post)]
theorem k_X5_fewest_0 (post : PO) : lk (T_X5_fewest post) 0 = o_iload 1 1 := rfl
theorem k_X5_fewest_1 (post : PO) : lk (T_X5_fewest post) 1 = o_const 0 2 := rfl
theorem k_X5_fewest_2 (post : PO) : lk (T_X5_fewest post) 2 = o_const 511 5 := rfl
theorem k_X5_fewest_5 (post : PO) : lk (T_X5_fewest post) 5 = o_callS S_X5_in 3 8 := rfl
theorem k_X5_fewest_8 (post : PO) : lk (T_X5_fewest post) 8 = o_if (fun x => x = 0) 30 11 := rfl
theorem k_X5_fewest_11 (post : PO) : lk (T_X5_fewest post) 11 = o_iload 2 12 := rfl
theorem k_X5_fewest_12 (post : PO) : lk (T_X5_fewest post) 12 = o_const 0 13 := rfl
theorem k_X5_fewest_13 (post : PO) : lk (T_X5_fewest post) 13 = o_const 8 15 := rfl
theorem k_X5_fewest_15 (post : PO) : lk (T_X5_fewest post) 15 = o_callS S_X5_in 3 18 := rfl
theorem k_X5_fewest_18 (post : PO) : lk (T_X5_fewest post) 18 = o_if (fun x => x = 0) 30 21 := rfl
theorem k_X5_fewest_21 (post : PO) : lk (T_X5_fewest post) 21 = o_iload 3 22 := rfl
theorem k_X5_fewest_22 (post : PO) : lk (T_X5_fewest post) 22 = o_const 0 23 := rfl
theorem k_X5_fewest_23 (post : PO) : lk (T_X5_fewest post) 23 = o_const 1 24 := rfl
theorem k_X5_fewest_24 (post : PO) : lk (T_X5_fewest post) 24 = o_callS S_X5_in 3 27 := rfl
theorem k_X5_fewest_27 (post : PO) : lk (T_X5_fewest post) 27 = o_if (fun x => x = 0) 30 32 := rfl
theorem k_X5_fewest_30 (post : PO) : lk (T_X5_fewest post) 30 = o_const (-1) 31 := rfl
theorem k_X5_fewest_31 (post : PO) : lk (T_X5_fewest post) 31 = o_iret post := rfl
theorem k_X5_fewest_32 (post : PO) : lk (T_X5_fewest post) 32 = o_const (-9) 34 := rfl
theorem k_X5_fewest_34 (post : PO) : lk (T_X5_fewest post) 34 = o_istore 4 36 := rfl
theorem k_X5_fewest_36 (post : PO) : lk (T_X5_fewest post) 36 = o_const 0 37 := rfl
theorem k_X5_fewest_37 (post : PO) : lk (T_X5_fewest post) 37 = o_istore 5 39 := rfl
theorem k_X5_fewest_39 (post : PO) : lk (T_X5_fewest post) 39 = o_iload 5 41 := rfl
theorem k_X5_fewest_41 (post : PO) : lk (T_X5_fewest post) 41 = o_const 256 44 := rfl
theorem k_X5_fewest_44 (post : PO) : lk (T_X5_fewest post) 44 = o_icmp (fun x y => y ≤ x) 122 47 := rfl
theorem k_X5_fewest_47 (post : PO) : lk (T_X5_fewest post) 47 = o_aload 0 48 := rfl
theorem k_X5_fewest_48 (post : PO) : lk (T_X5_fewest post) 48 = o_iload 5 50 := rfl
theorem k_X5_fewest_50 (post : PO) : lk (T_X5_fewest post) 50 = o_callV 5 S_X5_isSet 1 53 := rfl
theorem k_X5_fewest_53 (post : PO) : lk (T_X5_fewest post) 53 = o_if (fun x => x = 0) 79 56 := rfl
theorem k_X5_fewest_56 (post : PO) : lk (T_X5_fewest post) 56 = o_iload 5 58 := rfl
theorem k_X5_fewest_58 (post : PO) : lk (T_X5_fewest post) 58 = o_callS S_X5_ones 1 61 := rfl
theorem k_X5_fewest_61 (post : PO) : lk (T_X5_fewest post) 61 = o_iload 2 62 := rfl
theorem k_X5_fewest_62 (post : PO) : lk (T_X5_fewest post) 62 = o_icmp (fun x y => y < x) 79 65 := rfl
theorem k_X5_fewest_65 (post : PO) : lk (T_X5_fewest post) 65 = o_aload 0 66 := rfl
theorem k_X5_fewest_66 (post : PO) : lk (T_X5_fewest post) 66 = o_iload 5 68 := rfl
theorem k_X5_fewest_68 (post : PO) : lk (T_X5_fewest post) 68 = o_callV 5 S_X5_rowOf 1 71 := rfl
theorem k_X5_fewest_71 (post : PO) : lk (T_X5_fewest post) 71 = o_iload 1 72 := rfl
theorem k_X5_fewest_72 (post : PO) : lk (T_X5_fewest post) 72 = o_icmp (fun x y => x = y) 75 79 := rfl
theorem k_X5_fewest_75 (post : PO) : lk (T_X5_fewest post) 75 = o_const 1 76 := rfl
theorem k_X5_fewest_76 (post : PO) : lk (T_X5_fewest post) 76 = o_goto 80 := rfl
theorem k_X5_fewest_79 (post : PO) : lk (T_X5_fewest post) 79 = o_const 0 80 := rfl
theorem k_X5_fewest_80 (post : PO) : lk (T_X5_fewest post) 80 = o_istore 6 82 := rfl
theorem k_X5_fewest_82 (post : PO) : lk (T_X5_fewest post) 82 = o_iload 6 84 := rfl
theorem k_X5_fewest_84 (post : PO) : lk (T_X5_fewest post) 84 = o_if (fun x => x = 0) 112 87 := rfl
theorem k_X5_fewest_87 (post : PO) : lk (T_X5_fewest post) 87 = o_iload 4 89 := rfl
theorem k_X5_fewest_89 (post : PO) : lk (T_X5_fewest post) 89 = o_const (-9) 91 := rfl
theorem k_X5_fewest_91 (post : PO) : lk (T_X5_fewest post) 91 = o_icmp (fun x y => x = y) 107 94 := rfl
theorem k_X5_fewest_94 (post : PO) : lk (T_X5_fewest post) 94 = o_iload 5 96 := rfl
theorem k_X5_fewest_96 (post : PO) : lk (T_X5_fewest post) 96 = o_callS S_X5_ones 1 99 := rfl
theorem k_X5_fewest_99 (post : PO) : lk (T_X5_fewest post) 99 = o_iload 4 101 := rfl
theorem k_X5_fewest_101 (post : PO) : lk (T_X5_fewest post) 101 = o_callS S_X5_ones 1 104 := rfl
theorem k_X5_fewest_104 (post : PO) : lk (T_X5_fewest post) 104 = o_icmp (fun x y => y ≤ x) 112 107 := rfl
theorem k_X5_fewest_107 (post : PO) : lk (T_X5_fewest post) 107 = o_iload 5 109 := rfl
theorem k_X5_fewest_109 (post : PO) : lk (T_X5_fewest post) 109 = o_goto 114 := rfl
theorem k_X5_fewest_112 (post : PO) : lk (T_X5_fewest post) 112 = o_iload 4 114 := rfl
theorem k_X5_fewest_114 (post : PO) : lk (T_X5_fewest post) 114 = o_istore 4 116 := rfl
theorem k_X5_fewest_116 (post : PO) : lk (T_X5_fewest post) 116 = o_iinc 5 1 119 := rfl
theorem k_X5_fewest_119 (post : PO) : lk (T_X5_fewest post) 119 = o_goto 39 := rfl
theorem k_X5_fewest_122 (post : PO) : lk (T_X5_fewest post) 122 = o_iload 4 124 := rfl
theorem k_X5_fewest_124 (post : PO) : lk (T_X5_fewest post) 124 = o_const (-9) 126 := rfl
theorem k_X5_fewest_126 (post : PO) : lk (T_X5_fewest post) 126 = o_icmp (fun x y => x = y) 134 129 := rfl
theorem k_X5_fewest_129 (post : PO) : lk (T_X5_fewest post) 129 = o_iload 3 130 := rfl
theorem k_X5_fewest_130 (post : PO) : lk (T_X5_fewest post) 130 = o_const 1 131 := rfl
theorem k_X5_fewest_131 (post : PO) : lk (T_X5_fewest post) 131 = o_icmp (fun x y => x = y) 134 139 := rfl
theorem k_X5_fewest_134 (post : PO) : lk (T_X5_fewest post) 134 = o_iload 4 136 := rfl
theorem k_X5_fewest_136 (post : PO) : lk (T_X5_fewest post) 136 = o_goto 144 := rfl
theorem k_X5_fewest_139 (post : PO) : lk (T_X5_fewest post) 139 = o_iload 4 141 := rfl
theorem k_X5_fewest_141 (post : PO) : lk (T_X5_fewest post) 141 = o_callS S_X5_ones 1 144 := rfl
theorem k_X5_fewest_144 (post : PO) : lk (T_X5_fewest post) 144 = o_iret post := rfl
set_option maxRecDepth 100000 in
theorem t_X5_fewest {p : Program} {l : Launch} {e : Env} {s : State} {m : MethodId} {args : Array Value} {below : List Frame} {meth : Method} {c : Code} {D : va_G} {dA : Nat → ClassId} {ad : Nat → Nat} (post : PO) (C : CX p s m args meth c cX5_fewest 7 yX5_fewest.cls D dA ad (AA ad s.heap.size)) (hr : meth.sig.returnType = (some .int)) : SndL (WW p l e ({ frames := 2, cells := 0, slots := 0, locals := 43 } : Room) s m args below meth c 0 0 (MQ below (CQ D dA ad post (AA ad s.heap.size)) args s 0 0 (AA ad s.heap.size)) 7 D dA ad (AA ad s.heap.size)) (T_X5_fewest post) := by
  refine snd_c (s_iload_n C rfl dX5_fewest_0) ?_
  refine snd_c (s_iconst C dX5_fewest_1 rfl) ?_
  refine snd_c (s_sipush C dX5_fewest_2 rfl) ?_
  refine snd_c (s_callS C c_X5_in cw_RX5_35 ⟨rfl, rfl⟩ ⟨by decide +kernel, by decide +kernel, by decide +kernel⟩ ⟨by decide, by decide⟩ ⟨Nat.zero_le _, Nat.zero_le _⟩ dX5_fewest_5) ?_
  refine snd_c (s_if_eq C dX5_fewest_8 (by decide)) ?_
  refine snd_c (s_iload_n C rfl dX5_fewest_11) ?_
  refine snd_c (s_iconst C dX5_fewest_12 rfl) ?_
  refine snd_c (s_bipush C dX5_fewest_13 rfl) ?_
  refine snd_c (s_callS C c_X5_in cw_RX5_35 ⟨rfl, rfl⟩ ⟨by decide +kernel, by decide +kernel, by decide +kernel⟩ ⟨by decide, by decide⟩ ⟨Nat.zero_le _, Nat.zero_le _⟩ dX5_fewest_15) ?_
  refine snd_c (s_if_eq C dX5_fewest_18 (by decide)) ?_
  refine snd_c (s_iload_n C rfl dX5_fewest_21) ?_
  refine snd_c (s_iconst C dX5_fewest_22 rfl) ?_
  refine snd_c (s_iconst C dX5_fewest_23 rfl) ?_
  refine snd_c (s_callS C c_X5_in cw_RX5_35 ⟨rfl, rfl⟩ ⟨by decide +kernel, by decide +kernel, by decide +kernel⟩ ⟨by decide, by decide⟩ ⟨Nat.zero_le _, Nat.zero_le _⟩ dX5_fewest_24) ?_
  refine snd_c (s_if_ne C dX5_fewest_27 (by decide)) ?_
  refine snd_c (s_iconst C dX5_fewest_30 rfl) ?_
  refine snd_c (s_iret C hr dX5_fewest_31) ?_
  refine snd_c (s_bipush C dX5_fewest_32 rfl) ?_
  refine snd_c (s_istore C (by decide) dX5_fewest_34) ?_
  refine snd_c (s_iconst C dX5_fewest_36 rfl) ?_
  refine snd_c (s_istore C (by decide) dX5_fewest_37) ?_
  refine snd_c (s_iload C dX5_fewest_39) ?_
  refine snd_c (s_sipush C dX5_fewest_41 rfl) ?_
  refine snd_c (s_icmp_ge C dX5_fewest_44 (by decide)) ?_
  refine snd_c (s_aload_n C rfl dX5_fewest_47) ?_
  refine snd_c (s_iload C dX5_fewest_48) ?_
  refine snd_c (s_callV C (ci := 5) c_X5_isSet rfl cw_RX5_107 ⟨rfl, rfl⟩ ⟨by decide +kernel, by decide +kernel, by decide +kernel⟩ ⟨by decide, by decide⟩ ⟨Nat.zero_le _, Nat.zero_le _⟩ dX5_fewest_50) ?_
  refine snd_c (s_if_eq C dX5_fewest_53 (by decide)) ?_
  refine snd_c (s_iload C dX5_fewest_56) ?_
  refine snd_c (s_callS C c_X5_ones cw_RX5_131 ⟨rfl, rfl⟩ ⟨by decide +kernel, by decide +kernel, by decide +kernel⟩ ⟨by decide, by decide⟩ ⟨Nat.zero_le _, Nat.zero_le _⟩ dX5_fewest_58) ?_
  refine snd_c (s_iload_n C rfl dX5_fewest_61) ?_
  refine snd_c (s_icmp_gt C dX5_fewest_62 (by decide)) ?_
  refine snd_c (s_aload_n C rfl dX5_fewest_65) ?_
  refine snd_c (s_iload C dX5_fewest_66) ?_
  refine snd_c (s_callV C (ci := 5) c_X5_rowOf rfl cw_RX5_110 ⟨rfl, rfl⟩ ⟨by decide +kernel, by decide +kernel, by decide +kernel⟩ ⟨by decide, by decide⟩ ⟨Nat.zero_le _, Nat.zero_le _⟩ dX5_fewest_68) ?_
  refine snd_c (s_iload_n C rfl dX5_fewest_71) ?_
  refine snd_c (s_icmp_ne C dX5_fewest_72 (by decide)) ?_
  refine snd_c (s_iconst C dX5_fewest_75 rfl) ?_
  refine snd_c (s_goto C dX5_fewest_76 (by decide)) ?_
  refine snd_c (s_iconst C dX5_fewest_79 rfl) ?_
  refine snd_c (s_istore C (by decide) dX5_fewest_80) ?_
  refine snd_c (s_iload C dX5_fewest_82) ?_
  refine snd_c (s_if_eq C dX5_fewest_84 (by decide)) ?_
  refine snd_c (s_iload C dX5_fewest_87) ?_
  refine snd_c (s_bipush C dX5_fewest_89 rfl) ?_
  refine snd_c (s_icmp_eq C dX5_fewest_91 (by decide)) ?_
  refine snd_c (s_iload C dX5_fewest_94) ?_
  refine snd_c (s_callS C c_X5_ones cw_RX5_131 ⟨rfl, rfl⟩ ⟨by decide +kernel, by decide +kernel, by decide +kernel⟩ ⟨by decide, by decide⟩ ⟨Nat.zero_le _, Nat.zero_le _⟩ dX5_fewest_96) ?_
  refine snd_c (s_iload C dX5_fewest_99) ?_
  refine snd_c (s_callS C c_X5_ones cw_RX5_131 ⟨rfl, rfl⟩ ⟨by decide +kernel, by decide +kernel, by decide +kernel⟩ ⟨by decide, by decide⟩ ⟨Nat.zero_le _, Nat.zero_le _⟩ dX5_fewest_101) ?_
  refine snd_c (s_icmp_ge C dX5_fewest_104 (by decide)) ?_
  refine snd_c (s_iload C dX5_fewest_107) ?_
  refine snd_c (s_goto C dX5_fewest_109 (by decide)) ?_
  refine snd_c (s_iload C dX5_fewest_112) ?_
  refine snd_c (s_istore C (by decide) dX5_fewest_114) ?_
  refine snd_c (s_iinc C (by decide) rfl dX5_fewest_116) ?_
  refine snd_c (s_goto C dX5_fewest_119 (by decide)) ?_
  refine snd_c (s_iload C dX5_fewest_122) ?_
  refine snd_c (s_bipush C dX5_fewest_124 rfl) ?_
  refine snd_c (s_icmp_eq C dX5_fewest_126 (by decide)) ?_
  refine snd_c (s_iload_n C rfl dX5_fewest_129) ?_
  refine snd_c (s_iconst C dX5_fewest_130 rfl) ?_
  refine snd_c (s_icmp_ne C dX5_fewest_131 (by decide)) ?_
  refine snd_c (s_iload C dX5_fewest_134) ?_
  refine snd_c (s_goto C dX5_fewest_136 (by decide)) ?_
  refine snd_c (s_iload C dX5_fewest_139) ?_
  refine snd_c (s_callS C c_X5_ones cw_RX5_131 ⟨rfl, rfl⟩ ⟨by decide +kernel, by decide +kernel, by decide +kernel⟩ ⟨by decide, by decide⟩ ⟨Nat.zero_le _, Nat.zero_le _⟩ dX5_fewest_141) ?_
  refine snd_c (s_iret C hr dX5_fewest_144) ?_
  exact trivial
theorem dX5_odds_0 : decode cX5_odds 0 = .ok (.iload_n 1, 1) := by decide +kernel
theorem dX5_odds_1 : decode cX5_odds 1 = .ok (.iconst 0, 1) := by decide +kernel
theorem dX5_odds_2 : decode cX5_odds 2 = .ok (.bipush 8, 2) := by decide +kernel
theorem dX5_odds_4 : decode cX5_odds 4 = .ok (.invokestatic 35, 3) := by decide +kernel
theorem dX5_odds_7 : decode cX5_odds 7 = .ok (.ifCond .eq 23, 3) := by decide +kernel
theorem dX5_odds_10 : decode cX5_odds 10 = .ok (.iload_n 2, 1) := by decide +kernel
theorem dX5_odds_11 : decode cX5_odds 11 = .ok (.iconst 0, 1) := by decide +kernel
theorem dX5_odds_12 : decode cX5_odds 12 = .ok (.sipush 511, 3) := by decide +kernel
theorem dX5_odds_15 : decode cX5_odds 15 = .ok (.invokestatic 35, 3) := by decide +kernel
theorem dX5_odds_18 : decode cX5_odds 18 = .ok (.ifCond .eq 12, 3) := by decide +kernel
theorem dX5_odds_21 : decode cX5_odds 21 = .ok (.iload_n 3, 1) := by decide +kernel
theorem dX5_odds_22 : decode cX5_odds 22 = .ok (.iconst 0, 1) := by decide +kernel
theorem dX5_odds_23 : decode cX5_odds 23 = .ok (.iconst 1, 1) := by decide +kernel
theorem dX5_odds_24 : decode cX5_odds 24 = .ok (.invokestatic 35, 3) := by decide +kernel
theorem dX5_odds_27 : decode cX5_odds 27 = .ok (.ifCond .ne 5, 3) := by decide +kernel
theorem dX5_odds_30 : decode cX5_odds 30 = .ok (.iconst (-1), 1) := by decide +kernel
theorem dX5_odds_31 : decode cX5_odds 31 = .ok (.ireturn, 1) := by decide +kernel
theorem dX5_odds_32 : decode cX5_odds 32 = .ok (.iconst 0, 1) := by decide +kernel
theorem dX5_odds_33 : decode cX5_odds 33 = .ok (.istore 4, 2) := by decide +kernel
theorem dX5_odds_35 : decode cX5_odds 35 = .ok (.iconst 0, 1) := by decide +kernel
theorem dX5_odds_36 : decode cX5_odds 36 = .ok (.istore 5, 2) := by decide +kernel
theorem dX5_odds_38 : decode cX5_odds 38 = .ok (.iconst 0, 1) := by decide +kernel
theorem dX5_odds_39 : decode cX5_odds 39 = .ok (.istore 6, 2) := by decide +kernel
theorem dX5_odds_41 : decode cX5_odds 41 = .ok (.iload 6, 2) := by decide +kernel
theorem dX5_odds_43 : decode cX5_odds 43 = .ok (.sipush 256, 3) := by decide +kernel
theorem dX5_odds_46 : decode cX5_odds 46 = .ok (.if_icmp .ge 74, 3) := by decide +kernel
theorem dX5_odds_49 : decode cX5_odds 49 = .ok (.aload_n 0, 1) := by decide +kernel
theorem dX5_odds_50 : decode cX5_odds 50 = .ok (.iload 6, 2) := by decide +kernel
theorem dX5_odds_52 : decode cX5_odds 52 = .ok (.invokevirtual 107, 3) := by decide +kernel
theorem dX5_odds_55 : decode cX5_odds 55 = .ok (.ifCond .eq 16, 3) := by decide +kernel
theorem dX5_odds_58 : decode cX5_odds 58 = .ok (.iload 6, 2) := by decide +kernel
theorem dX5_odds_60 : decode cX5_odds 60 = .ok (.invokestatic 131, 3) := by decide +kernel
theorem dX5_odds_63 : decode cX5_odds 63 = .ok (.iload_n 1, 1) := by decide +kernel
theorem dX5_odds_64 : decode cX5_odds 64 = .ok (.if_icmp .ne 7, 3) := by decide +kernel
theorem dX5_odds_67 : decode cX5_odds 67 = .ok (.iconst 1, 1) := by decide +kernel
theorem dX5_odds_68 : decode cX5_odds 68 = .ok (.goto 4, 3) := by decide +kernel
theorem dX5_odds_71 : decode cX5_odds 71 = .ok (.iconst 0, 1) := by decide +kernel
theorem dX5_odds_72 : decode cX5_odds 72 = .ok (.istore 7, 2) := by decide +kernel
theorem dX5_odds_74 : decode cX5_odds 74 = .ok (.iload 5, 2) := by decide +kernel
theorem dX5_odds_76 : decode cX5_odds 76 = .ok (.iload 7, 2) := by decide +kernel
theorem dX5_odds_78 : decode cX5_odds 78 = .ok (.ifCond .eq 7, 3) := by decide +kernel
theorem dX5_odds_81 : decode cX5_odds 81 = .ok (.iconst 1, 1) := by decide +kernel
theorem dX5_odds_82 : decode cX5_odds 82 = .ok (.goto 4, 3) := by decide +kernel
theorem dX5_odds_85 : decode cX5_odds 85 = .ok (.iconst 0, 1) := by decide +kernel
theorem dX5_odds_86 : decode cX5_odds 86 = .ok (.iadd, 1) := by decide +kernel
theorem dX5_odds_87 : decode cX5_odds 87 = .ok (.istore 5, 2) := by decide +kernel
theorem dX5_odds_89 : decode cX5_odds 89 = .ok (.iload 4, 2) := by decide +kernel
theorem dX5_odds_91 : decode cX5_odds 91 = .ok (.iload 7, 2) := by decide +kernel
theorem dX5_odds_93 : decode cX5_odds 93 = .ok (.ifCond .eq 17, 3) := by decide +kernel
theorem dX5_odds_96 : decode cX5_odds 96 = .ok (.aload_n 0, 1) := by decide +kernel
theorem dX5_odds_97 : decode cX5_odds 97 = .ok (.iload 6, 2) := by decide +kernel
theorem dX5_odds_99 : decode cX5_odds 99 = .ok (.invokevirtual 110, 3) := by decide +kernel
theorem dX5_odds_102 : decode cX5_odds 102 = .ok (.iload_n 2, 1) := by decide +kernel
theorem dX5_odds_103 : decode cX5_odds 103 = .ok (.if_icmp .ne 7, 3) := by decide +kernel
theorem dX5_odds_106 : decode cX5_odds 106 = .ok (.iconst 1, 1) := by decide +kernel
theorem dX5_odds_107 : decode cX5_odds 107 = .ok (.goto 4, 3) := by decide +kernel
theorem dX5_odds_110 : decode cX5_odds 110 = .ok (.iconst 0, 1) := by decide +kernel
theorem dX5_odds_111 : decode cX5_odds 111 = .ok (.iadd, 1) := by decide +kernel
theorem dX5_odds_112 : decode cX5_odds 112 = .ok (.istore 4, 2) := by decide +kernel
theorem dX5_odds_114 : decode cX5_odds 114 = .ok (.iinc 6 1, 3) := by decide +kernel
theorem dX5_odds_117 : decode cX5_odds 117 = .ok (.goto (-76), 3) := by decide +kernel
theorem dX5_odds_120 : decode cX5_odds 120 = .ok (.iload 4, 2) := by decide +kernel
theorem dX5_odds_122 : decode cX5_odds 122 = .ok (.istore 6, 2) := by decide +kernel
theorem dX5_odds_124 : decode cX5_odds 124 = .ok (.iload 5, 2) := by decide +kernel
theorem dX5_odds_126 : decode cX5_odds 126 = .ok (.istore 7, 2) := by decide +kernel
theorem dX5_odds_128 : decode cX5_odds 128 = .ok (.iload 7, 2) := by decide +kernel
theorem dX5_odds_130 : decode cX5_odds 130 = .ok (.ifCond .eq 21, 3) := by decide +kernel
theorem dX5_odds_133 : decode cX5_odds 133 = .ok (.iload 6, 2) := by decide +kernel
theorem dX5_odds_135 : decode cX5_odds 135 = .ok (.iload 7, 2) := by decide +kernel
theorem dX5_odds_137 : decode cX5_odds 137 = .ok (.irem, 1) := by decide +kernel
theorem dX5_odds_138 : decode cX5_odds 138 = .ok (.istore 8, 2) := by decide +kernel
theorem dX5_odds_140 : decode cX5_odds 140 = .ok (.iload 7, 2) := by decide +kernel
theorem dX5_odds_142 : decode cX5_odds 142 = .ok (.istore 6, 2) := by decide +kernel
theorem dX5_odds_144 : decode cX5_odds 144 = .ok (.iload 8, 2) := by decide +kernel
theorem dX5_odds_146 : decode cX5_odds 146 = .ok (.istore 7, 2) := by decide +kernel
theorem dX5_odds_148 : decode cX5_odds 148 = .ok (.goto (-20), 3) := by decide +kernel
theorem dX5_odds_151 : decode cX5_odds 151 = .ok (.iload 4, 2) := by decide +kernel
theorem dX5_odds_153 : decode cX5_odds 153 = .ok (.ifCond .ne 7, 3) := by decide +kernel
theorem dX5_odds_156 : decode cX5_odds 156 = .ok (.iload_n 3, 1) := by decide +kernel
theorem dX5_odds_157 : decode cX5_odds 157 = .ok (.goto 20, 3) := by decide +kernel
theorem dX5_odds_160 : decode cX5_odds 160 = .ok (.iload_n 3, 1) := by decide +kernel
theorem dX5_odds_161 : decode cX5_odds 161 = .ok (.ifCond .ne 11, 3) := by decide +kernel
theorem dX5_odds_164 : decode cX5_odds 164 = .ok (.iload 4, 2) := by decide +kernel
theorem dX5_odds_166 : decode cX5_odds 166 = .ok (.iload 6, 2) := by decide +kernel
theorem dX5_odds_168 : decode cX5_odds 168 = .ok (.idiv, 1) := by decide +kernel
theorem dX5_odds_169 : decode cX5_odds 169 = .ok (.goto 8, 3) := by decide +kernel
theorem dX5_odds_172 : decode cX5_odds 172 = .ok (.iload 5, 2) := by decide +kernel
theorem dX5_odds_174 : decode cX5_odds 174 = .ok (.iload 6, 2) := by decide +kernel
theorem dX5_odds_176 : decode cX5_odds 176 = .ok (.idiv, 1) := by decide +kernel
theorem dX5_odds_177 : decode cX5_odds 177 = .ok (.ireturn, 1) := by decide +kernel
def T_X5_odds (post : PO) : List (Nat × OP) := [(0, o_iload 1 1), (1, o_const 0 2), (2, o_const 8 4), (4, o_callS S_X5_in 3 7), (7, o_if (fun x => x = 0) 30 10), (10, o_iload 2 11), (11, o_const 0 12), (12, o_const 511 15), (15, o_callS S_X5_in 3 18), (18, o_if (fun x => x = 0) 30 21), (21, o_iload 3 22), (22, o_const 0 23), (23, o_const 1 24), (24, o_callS S_X5_in 3 27), (27, o_if (fun x => x = 0) 30 32), (30, o_const (-1) 31), (31, o_iret post), (32, o_const 0 33), (33, o_istore 4 35), (35, o_const 0 36), (36, o_istore 5 38), (38, o_const 0 39), (39, o_istore 6 41), (41, o_iload 6 43), (43, o_const 256 46), (46, o_icmp (fun x y => y ≤ x) 120 49), (49, o_aload 0 50), (50, o_iload 6 52), (52, o_callV 5 S_X5_isSet 1 55), (55, o_if (fun x => x = 0) 71 58), (58, o_iload 6 60), (60, o_callS S_X5_ones 1 63), (63, o_iload 1 64), (64, o_icmp (fun x y => x = y) 67 71), (67, o_const 1 68), (68, o_goto 72), (71, o_const 0 72), (72, o_istore 7 74), (74, o_iload 5 76), (76, o_iload 7 78), (78, o_if (fun x => x = 0) 85 81), (81, o_const 1 82), (82, o_goto 86), (85, o_const 0 86), (86, o_bin (fun x y => x + y) 87), (87, o_istore 5 89), (89, o_iload 4 91), (91, o_iload 7 93), (93, o_if (fun x => x = 0) 110 96), (96, o_aload 0 97), (97, o_iload 6 99), (99, o_callV 5 S_X5_rowOf 1 102), (102, o_iload 2 103), (103, o_icmp (fun x y => x = y) 106 110), (106, o_const 1 107), (107, o_goto 111), (110, o_const 0 111), (111, o_bin (fun x y => x + y) 112), (112, o_istore 4 114), (114, o_iinc 6 1 117), (117, o_goto 41), (120, o_iload 4 122), (122, o_istore 6 124), (124, o_iload 5 126), (126, o_istore 7 128), (128, o_iload 7 130), (130, o_if (fun x => x = 0) 151 133), (133, o_iload 6 135), (135, o_iload 7 137), (137, o_div (fun x y => x - x / y * y) 138), (138, o_istore 8 140), (140, o_iload 7 142), (142, o_istore 6 144), (144, o_iload 8 146), (146, o_istore 7 148), (148, o_goto 128), (151, o_iload 4 153), (153, o_if (fun x => x = 0) 156 160), (156, o_iload 3 157), (157, o_goto 177), (160, o_iload 3 161), (161, o_if (fun x => x = 0) 164 172), (164, o_iload 4 166), (166, o_iload 6 168), (168, o_div (fun x y => x / y) 169), (169, o_goto 177), (172, o_iload 5 174), (174, o_iload 6 176), (176, o_div (fun x y => x / y) 177), (177, o_iret post)]
theorem k_X5_odds_0 (post : PO) : lk (T_X5_odds post) 0 = o_iload 1 1 := rfl
theorem k_X5_odds_1 (post : PO) : lk (T_X5_odds post) 1 = o_const 0 2 := rfl
theorem k_X5_odds_2 (post : PO) : lk (T_X5_odds post) 2 = o_const 8 4 := rfl
theorem k_X5_odds_4 (post : PO) : lk (T_X5_odds post) 4 = o_callS S_X5_in 3 7 := rfl
theorem k_X5_odds_7 (post : PO) : lk (T_X5_odds post) 7 = o_if (fun x => x = 0) 30 10 := rfl
theorem k_X5_odds_10 (post : PO) : lk (T_X5_odds post) 10 = o_iload 2 11 := rfl
theorem k_X5_odds_11 (post : PO) : lk (T_X5_odds post) 11 = o_const 0 12 := rfl
theorem k_X5_odds_12 (post : PO) : lk (T_X5_odds post) 12 = o_const 511 15 := rfl
theorem k_X5_odds_15 (post : PO) : lk (T_X5_odds post) 15 = o_callS S_X5_in 3 18 := rfl
theorem k_X5_odds_18 (post : PO) : lk (T_X5_odds post) 18 = o_if (fun x => x = 0) 30 21 := rfl
theorem k_X5_odds_21 (post : PO) : lk (T_X5_odds post) 21 = o_iload 3 22 := rfl
theorem k_X5_odds_22 (post : PO) : lk (T_X5_odds post) 22 = o_const 0 23 := rfl
theorem k_X5_odds_23 (post : PO) : lk (T_X5_odds post) 23 = o_const 1 24 := rfl
theorem k_X5_odds_24 (post : PO) : lk (T_X5_odds post) 24 = o_callS S_X5_in 3 27 := rfl
theorem k_X5_odds_27 (post : PO) : lk (T_X5_odds post) 27 = o_if (fun x => x = 0) 30 32 := rfl
theorem k_X5_odds_30 (post : PO) : lk (T_X5_odds post) 30 = o_const (-1) 31 := rfl
theorem k_X5_odds_31 (post : PO) : lk (T_X5_odds post) 31 = o_iret post := rfl
theorem k_X5_odds_32 (post : PO) : lk (T_X5_odds post) 32 = o_const 0 33 := rfl
theorem k_X5_odds_33 (post : PO) : lk (T_X5_odds post) 33 = o_istore 4 35 := rfl
theorem k_X5_odds_35 (post : PO) : lk (T_X5_odds post) 35 = o_const 0 36 := rfl
theorem k_X5_odds_36 (post : PO) : lk (T_X5_odds post) 36 = o_istore 5 38 := rfl
theorem k_X5_odds_38 (post : PO) : lk (T_X5_odds post) 38 = o_const 0 39 := rfl
theorem k_X5_odds_39 (post : PO) : lk (T_X5_odds post) 39 = o_istore 6 41 := rfl
theorem k_X5_odds_41 (post : PO) : lk (T_X5_odds post) 41 = o_iload 6 43 := rfl
theorem k_X5_odds_43 (post : PO) : lk (T_X5_odds post) 43 = o_const 256 46 := rfl
theorem k_X5_odds_46 (post : PO) : lk (T_X5_odds post) 46 = o_icmp (fun x y => y ≤ x) 120 49 := rfl
theorem k_X5_odds_49 (post : PO) : lk (T_X5_odds post) 49 = o_aload 0 50 := rfl
theorem k_X5_odds_50 (post : PO) : lk (T_X5_odds post) 50 = o_iload 6 52 := rfl
theorem k_X5_odds_52 (post : PO) : lk (T_X5_odds post) 52 = o_callV 5 S_X5_isSet 1 55 := rfl
theorem k_X5_odds_55 (post : PO) : lk (T_X5_odds post) 55 = o_if (fun x => x = 0) 71 58 := rfl
theorem k_X5_odds_58 (post : PO) : lk (T_X5_odds post) 58 = o_iload 6 60 := rfl
theorem k_X5_odds_60 (post : PO) : lk (T_X5_odds post) 60 = o_callS S_X5_ones 1 63 := rfl
theorem k_X5_odds_63 (post : PO) : lk (T_X5_odds post) 63 = o_iload 1 64 := rfl
theorem k_X5_odds_64 (post : PO) : lk (T_X5_odds post) 64 = o_icmp (fun x y => x = y) 67 71 := rfl
theorem k_X5_odds_67 (post : PO) : lk (T_X5_odds post) 67 = o_const 1 68 := rfl
theorem k_X5_odds_68 (post : PO) : lk (T_X5_odds post) 68 = o_goto 72 := rfl
theorem k_X5_odds_71 (post : PO) : lk (T_X5_odds post) 71 = o_const 0 72 := rfl
theorem k_X5_odds_72 (post : PO) : lk (T_X5_odds post) 72 = o_istore 7 74 := rfl
theorem k_X5_odds_74 (post : PO) : lk (T_X5_odds post) 74 = o_iload 5 76 := rfl
theorem k_X5_odds_76 (post : PO) : lk (T_X5_odds post) 76 = o_iload 7 78 := rfl
theorem k_X5_odds_78 (post : PO) : lk (T_X5_odds post) 78 = o_if (fun x => x = 0) 85 81 := rfl
theorem k_X5_odds_81 (post : PO) : lk (T_X5_odds post) 81 = o_const 1 82 := rfl
theorem k_X5_odds_82 (post : PO) : lk (T_X5_odds post) 82 = o_goto 86 := rfl
theorem k_X5_odds_85 (post : PO) : lk (T_X5_odds post) 85 = o_const 0 86 := rfl
theorem k_X5_odds_86 (post : PO) : lk (T_X5_odds post) 86 = o_bin (fun x y => x + y) 87 := rfl
theorem k_X5_odds_87 (post : PO) : lk (T_X5_odds post) 87 = o_istore 5 89 := rfl
theorem k_X5_odds_89 (post : PO) : lk (T_X5_odds post) 89 = o_iload 4 91 := rfl
theorem k_X5_odds_91 (post : PO) : lk (T_X5_odds post) 91 = o_iload 7 93 := rfl
theorem k_X5_odds_93 (post : PO) : lk (T_X5_odds post) 93 = o_if (fun x => x = 0) 110 96 := rfl
theorem k_X5_odds_96 (post : PO) : lk (T_X5_odds post) 96 = o_aload 0 97 := rfl
theorem k_X5_odds_97 (post : PO) : lk (T_X5_odds post) 97 = o_iload 6 99 := rfl
theorem k_X5_odds_99 (post : PO) : lk (T_X5_odds post) 99 = o_callV 5 S_X5_rowOf 1 102 := rfl
theorem k_X5_odds_102 (post : PO) : lk (T_X5_odds post) 102 = o_iload 2 103 := rfl
theorem k_X5_odds_103 (post : PO) : lk (T_X5_odds post) 103 = o_icmp (fun x y => x = y) 106 110 := rfl
theorem k_X5_odds_106 (post : PO) : lk (T_X5_odds post) 106 = o_const 1 107 := rfl
theorem k_X5_odds_107 (post : PO) : lk (T_X5_odds post) 107 = o_goto 111 := rfl
theorem k_X5_odds_110 (post : PO) : lk (T_X5_odds post) 110 = o_const 0 111 := rfl
theorem k_X5_odds_111 (post : PO) : lk (T_X5_odds post) 111 = o_bin (fun x y => x + y) 112 := rfl
theorem k_X5_odds_112 (post : PO) : lk (T_X5_odds post) 112 = o_istore 4 114 := rfl
theorem k_X5_odds_114 (post : PO) : lk (T_X5_odds post) 114 = o_iinc 6 1 117 := rfl
theorem k_X5_odds_117 (post : PO) : lk (T_X5_odds post) 117 = o_goto 41 := rfl
theorem k_X5_odds_120 (post : PO) : lk (T_X5_odds post) 120 = o_iload 4 122 := rfl
theorem k_X5_odds_122 (post : PO) : lk (T_X5_odds post) 122 = o_istore 6 124 := rfl
theorem k_X5_odds_124 (post : PO) : lk (T_X5_odds post) 124 = o_iload 5 126 := rfl
theorem k_X5_odds_126 (post : PO) : lk (T_X5_odds post) 126 = o_istore 7 128 := rfl
theorem k_X5_odds_128 (post : PO) : lk (T_X5_odds post) 128 = o_iload 7 130 := rfl
theorem k_X5_odds_130 (post : PO) : lk (T_X5_odds post) 130 = o_if (fun x => x = 0) 151 133 := rfl
theorem k_X5_odds_133 (post : PO) : lk (T_X5_odds post) 133 = o_iload 6 135 := rfl
theorem k_X5_odds_135 (post : PO) : lk (T_X5_odds post) 135 = o_iload 7 137 := rfl
theorem k_X5_odds_137 (post : PO) : lk (T_X5_odds post) 137 = o_div (fun x y => x - x / y * y) 138 := rfl
theorem k_X5_odds_138 (post : PO) : lk (T_X5_odds post) 138 = o_istore 8 140 := rfl
theorem k_X5_odds_140 (post : PO) : lk (T_X5_odds post) 140 = o_iload 7 142 := rfl
theorem k_X5_odds_142 (post : PO) : lk (T_X5_odds post) 142 = o_istore 6 144 := rfl
theorem k_X5_odds_144 (post : PO) : lk (T_X5_odds post) 144 = o_iload 8 146 := rfl
theorem k_X5_odds_146 (post : PO) : lk (T_X5_odds post) 146 = o_istore 7 148 := rfl
theorem k_X5_odds_148 (post : PO) : lk (T_X5_odds post) 148 = o_goto 128 := rfl
theorem k_X5_odds_151 (post : PO) : lk (T_X5_odds post) 151 = o_iload 4 153 := rfl
theorem k_X5_odds_153 (post : PO) : lk (T_X5_odds post) 153 = o_if (fun x => x = 0) 156 160 := rfl
theorem k_X5_odds_156 (post : PO) : lk (T_X5_odds post) 156 = o_iload 3 157 := rfl
theorem k_X5_odds_157 (post : PO) : lk (T_X5_odds post) 157 = o_goto 177 := rfl
theorem k_X5_odds_160 (post : PO) : lk (T_X5_odds post) 160 = o_iload 3 161 := rfl
theorem k_X5_odds_161 (post : PO) : lk (T_X5_odds post) 161 = o_if (fun x => x = 0) 164 172 := rfl
theorem k_X5_odds_164 (post : PO) : lk (T_X5_odds post) 164 = o_iload 4 166 := rfl
theorem k_X5_odds_166 (post : PO) : lk (T_X5_odds post) 166 = o_iload 6 168 := rfl
theorem k_X5_odds_168 (post : PO) : lk (T_X5_odds post) 168 = o_div (fun x y => x / y) 169 := rfl
theorem k_X5_odds_169 (post : PO) : lk (T_X5_odds post) 169 = o_goto 177 := rfl
theorem k_X5_odds_172 (post : PO) : lk (T_X5_odds post) 172 = o_iload 5 174 := rfl
theorem k_X5_odds_174 (post : PO) : lk (T_X5_odds post) 174 = o_iload 6 176 := rfl
theorem k_X5_odds_176 (post : PO) : lk (T_X5_odds post) 176 = o_div (fun x y => x / y) 177 := rfl
theorem k_X5_odds_177 (post : PO) : lk (T_X5_odds post) 177 = o_iret post := rfl
set_option maxRecDepth 100000 in
theorem t_X5_odds {p : Program} {l : Launch} {e : Env} {s : State} {m : MethodId} {args : Array Value} {below : List Frame} {meth : Method} {c : Code} {D : va_G} {dA : Nat → ClassId} {ad : Nat → Nat} (post : PO) (C : CX p s m args meth c cX5_odds 9 yX5_odds.cls D dA ad (AA ad s.heap.size)) (hr : meth.sig.returnType = (some .int)) : SndL (WW p l e ({ frames := 2, cells := 0, slots := 0, locals := 43 } : Room) s m args below meth c 0 0 (MQ below (CQ D dA ad post (AA ad s.heap.size)) args s 0 0 (AA ad s.heap.size)) 9 D dA ad (AA ad s.heap.size)) (T_X5_odds post) := by
  refine snd_c (s_iload_n C rfl dX5_odds_0) ?_
  refine snd_c (s_iconst C dX5_odds_1 rfl) ?_
  refine snd_c (s_bipush C dX5_odds_2 rfl) ?_
  refine snd_c (s_callS C c_X5_in cw_RX5_35 ⟨rfl, rfl⟩ ⟨by decide +kernel, by decide +kernel, by decide +kernel⟩ ⟨by decide, by decide⟩ ⟨Nat.zero_le _, Nat.zero_le _⟩ dX5_odds_4) ?_
  refine snd_c (s_if_eq C dX5_odds_7 (by decide)) ?_
  refine snd_c (s_iload_n C rfl dX5_odds_10) ?_
  refine snd_c (s_iconst C dX5_odds_11 rfl) ?_
  refine snd_c (s_sipush C dX5_odds_12 rfl) ?_
  refine snd_c (s_callS C c_X5_in cw_RX5_35 ⟨rfl, rfl⟩ ⟨by decide +kernel, by decide +kernel, by decide +kernel⟩ ⟨by decide, by decide⟩ ⟨Nat.zero_le _, Nat.zero_le _⟩ dX5_odds_15) ?_
  refine snd_c (s_if_eq C dX5_odds_18 (by decide)) ?_
  refine snd_c (s_iload_n C rfl dX5_odds_21) ?_
  refine snd_c (s_iconst C dX5_odds_22 rfl) ?_
  refine snd_c (s_iconst C dX5_odds_23 rfl) ?_
  refine snd_c (s_callS C c_X5_in cw_RX5_35 ⟨rfl, rfl⟩ ⟨by decide +kernel, by decide +kernel, by decide +kernel⟩ ⟨by decide, by decide⟩ ⟨Nat.zero_le _, Nat.zero_le _⟩ dX5_odds_24) ?_
  refine snd_c (s_if_ne C dX5_odds_27 (by decide)) ?_
  refine snd_c (s_iconst C dX5_odds_30 rfl) ?_
  refine snd_c (s_iret C hr dX5_odds_31) ?_
  refine snd_c (s_iconst C dX5_odds_32 rfl) ?_
  refine snd_c (s_istore C (by decide) dX5_odds_33) ?_
  refine snd_c (s_iconst C dX5_odds_35 rfl) ?_
  refine snd_c (s_istore C (by decide) dX5_odds_36) ?_
  refine snd_c (s_iconst C dX5_odds_38 rfl) ?_
  refine snd_c (s_istore C (by decide) dX5_odds_39) ?_
  refine snd_c (s_iload C dX5_odds_41) ?_
  refine snd_c (s_sipush C dX5_odds_43 rfl) ?_
  refine snd_c (s_icmp_ge C dX5_odds_46 (by decide)) ?_
  refine snd_c (s_aload_n C rfl dX5_odds_49) ?_
  refine snd_c (s_iload C dX5_odds_50) ?_
  refine snd_c (s_callV C (ci := 5) c_X5_isSet rfl cw_RX5_107 ⟨rfl, rfl⟩ ⟨by decide +kernel, by decide +kernel, by decide +kernel⟩ ⟨by decide, by decide⟩ ⟨Nat.zero_le _, Nat.zero_le _⟩ dX5_odds_52) ?_
  refine snd_c (s_if_eq C dX5_odds_55 (by decide)) ?_
  refine snd_c (s_iload C dX5_odds_58) ?_
  refine snd_c (s_callS C c_X5_ones cw_RX5_131 ⟨rfl, rfl⟩ ⟨by decide +kernel, by decide +kernel, by decide +kernel⟩ ⟨by decide, by decide⟩ ⟨Nat.zero_le _, Nat.zero_le _⟩ dX5_odds_60) ?_
  refine snd_c (s_iload_n C rfl dX5_odds_63) ?_
  refine snd_c (s_icmp_ne C dX5_odds_64 (by decide)) ?_
  refine snd_c (s_iconst C dX5_odds_67 rfl) ?_
  refine snd_c (s_goto C dX5_odds_68 (by decide)) ?_
  refine snd_c (s_iconst C dX5_odds_71 rfl) ?_
  refine snd_c (s_istore C (by decide) dX5_odds_72) ?_
  refine snd_c (s_iload C dX5_odds_74) ?_
  refine snd_c (s_iload C dX5_odds_76) ?_
  refine snd_c (s_if_eq C dX5_odds_78 (by decide)) ?_
  refine snd_c (s_iconst C dX5_odds_81 rfl) ?_
  refine snd_c (s_goto C dX5_odds_82 (by decide)) ?_
  refine snd_c (s_iconst C dX5_odds_85 rfl) ?_
  refine snd_c (s_iadd C dX5_odds_86) ?_
  refine snd_c (s_istore C (by decide) dX5_odds_87) ?_
  refine snd_c (s_iload C dX5_odds_89) ?_
  refine snd_c (s_iload C dX5_odds_91) ?_
  refine snd_c (s_if_eq C dX5_odds_93 (by decide)) ?_
  refine snd_c (s_aload_n C rfl dX5_odds_96) ?_
  refine snd_c (s_iload C dX5_odds_97) ?_
  refine snd_c (s_callV C (ci := 5) c_X5_rowOf rfl cw_RX5_110 ⟨rfl, rfl⟩ ⟨by decide +kernel, by decide +kernel, by decide +kernel⟩ ⟨by decide, by decide⟩ ⟨Nat.zero_le _, Nat.zero_le _⟩ dX5_odds_99) ?_
  refine snd_c (s_iload_n C rfl dX5_odds_102) ?_
  refine snd_c (s_icmp_ne C dX5_odds_103 (by decide)) ?_
  refine snd_c (s_iconst C dX5_odds_106 rfl) ?_
  refine snd_c (s_goto C dX5_odds_107 (by decide)) ?_
  refine snd_c (s_iconst C dX5_odds_110 rfl) ?_
  refine snd_c (s_iadd C dX5_odds_111) ?_
  refine snd_c (s_istore C (by decide) dX5_odds_112) ?_
  refine snd_c (s_iinc C (by decide) rfl dX5_odds_114) ?_
  refine snd_c (s_goto C dX5_odds_117 (by decide)) ?_
  refine snd_c (s_iload C dX5_odds_120) ?_
  refine snd_c (s_istore C (by decide) dX5_odds_122) ?_
  refine snd_c (s_iload C dX5_odds_124) ?_
  refine snd_c (s_istore C (by decide) dX5_odds_126) ?_
  refine snd_c (s_iload C dX5_odds_128) ?_
  refine snd_c (s_if_eq C dX5_odds_130 (by decide)) ?_
  refine snd_c (s_iload C dX5_odds_133) ?_
  refine snd_c (s_iload C dX5_odds_135) ?_
  refine snd_c (s_irem C dX5_odds_137) ?_
  refine snd_c (s_istore C (by decide) dX5_odds_138) ?_
  refine snd_c (s_iload C dX5_odds_140) ?_
  refine snd_c (s_istore C (by decide) dX5_odds_142) ?_
  refine snd_c (s_iload C dX5_odds_144) ?_
  refine snd_c (s_istore C (by decide) dX5_odds_146) ?_
  refine snd_c (s_goto C dX5_odds_148 (by decide)) ?_
  refine snd_c (s_iload C dX5_odds_151) ?_
  refine snd_c (s_if_ne C dX5_odds_153 (by decide)) ?_
  refine snd_c (s_iload_n C rfl dX5_odds_156) ?_
  refine snd_c (s_goto C dX5_odds_157 (by decide)) ?_
  refine snd_c (s_iload_n C rfl dX5_odds_160) ?_
  refine snd_c (s_if_ne C dX5_odds_161 (by decide)) ?_
  refine snd_c (s_iload C dX5_odds_164) ?_
  refine snd_c (s_iload C dX5_odds_166) ?_
  refine snd_c (s_idiv C dX5_odds_168) ?_
  refine snd_c (s_goto C dX5_odds_169 (by decide)) ?_
  refine snd_c (s_iload C dX5_odds_172) ?_
  refine snd_c (s_iload C dX5_odds_174) ?_
  refine snd_c (s_idiv C dX5_odds_176) ?_
  refine snd_c (s_iret C hr dX5_odds_177) ?_
  exact trivial
set_option maxRecDepth 100000 in
theorem v_X5_fewest : ∀ as M post, S_X5_fewest as M post → wsum as ≤ 7 ∧ RUN (T_X5_fewest post) 0 (entL 7 as) [] M := by
  rintro as M post ⟨x, y, z, n, c, p, r, h0, lk, rfl, hX, h1, h2⟩
  have hX0 := hX
  obtain ⟨hn, hn8, hc, hc6, hp, hp4, hr, hhk, hl⟩ := hX
  have hul := us_lt h0 hn8
  have hrl : ∀ k, k < n → r k < 512 := fun k hk => (hr k hk).2
  refine ⟨by show 4 ≤ 7; omega, run_of [39] (fun μ pc lv st M' => st = [] ∧ pc = 39 ∧ M' = M ∧ ∃ lim i, (0 ≤ x ∧ x < 512) ∧ y = nI lim ∧ lim < 9 ∧ (z = 0 ∨ z = 1) ∧ i ≤ 256 ∧ 1000 - i = μ ∧ lv = [some (VR 39), some (VI x), some (VI y), some (VI z), some (VI (bsI (mnf (fwP (us h0 n) n lim (fun k => nI (r k)) x) (fun T => cn T 9) i))), some (VI (nI i)), none]) 80 2000 ?_ ?_⟩
  · rintro μ pc lv st M' ⟨rfl, rfl, rfl, lim, i, hx, rfl, hlim, hz, hi, rfl, rfl⟩
    have hcb : ∀ b, cn b 9 < 1000 := fun b => by have := cn_le b 9; omega
    have hmb : ∀ b, mnf (fwP (us h0 n) n lim (fun k => nI (r k)) x) (fun T => cn T 9) i = some b → b < 1000 := fun b hb => by
      have := mnf_lt hb
      omega
    have hci := hcb i
    have hfw : fwP (us h0 n) n lim (fun k => nI (r k)) x i = true ↔ (i &&& us h0 n = i ∧ cn i 9 ≤ lim ∧ nI (xrN r i n) = x) := by
      unfold fwP
      rw [xr_I (g := fun k => nI (r k)) (f := r) n (fun _ _ => rfl)]
      simp only [Bool.and_eq_true, decide_eq_true_eq]
      exact ⟨fun w => ⟨w.1, w.2.2, w.2.1⟩, fun w => ⟨w.1, w.2.2, w.2.1⟩⟩
    dsimp only [k_X5_fewest_0, k_X5_fewest_1, k_X5_fewest_2, k_X5_fewest_5, k_X5_fewest_8, k_X5_fewest_11, k_X5_fewest_12, k_X5_fewest_13, k_X5_fewest_15, k_X5_fewest_18, k_X5_fewest_21, k_X5_fewest_22, k_X5_fewest_23, k_X5_fewest_24, k_X5_fewest_27, k_X5_fewest_30, k_X5_fewest_31, k_X5_fewest_32, k_X5_fewest_34, k_X5_fewest_36, k_X5_fewest_37, k_X5_fewest_39, k_X5_fewest_41, k_X5_fewest_44, k_X5_fewest_47, k_X5_fewest_48, k_X5_fewest_50, k_X5_fewest_53, k_X5_fewest_56, k_X5_fewest_58, k_X5_fewest_61, k_X5_fewest_62, k_X5_fewest_65, k_X5_fewest_66, k_X5_fewest_68, k_X5_fewest_71, k_X5_fewest_72, k_X5_fewest_75, k_X5_fewest_76, k_X5_fewest_79, k_X5_fewest_80, k_X5_fewest_82, k_X5_fewest_84, k_X5_fewest_87, k_X5_fewest_89, k_X5_fewest_91, k_X5_fewest_94, k_X5_fewest_96, k_X5_fewest_99, k_X5_fewest_101, k_X5_fewest_104, k_X5_fewest_107, k_X5_fewest_109, k_X5_fewest_112, k_X5_fewest_114, k_X5_fewest_116, k_X5_fewest_119, k_X5_fewest_122, k_X5_fewest_124, k_X5_fewest_126, k_X5_fewest_129, k_X5_fewest_130, k_X5_fewest_131, k_X5_fewest_134, k_X5_fewest_136, k_X5_fewest_139, k_X5_fewest_141, k_X5_fewest_144, wp1, wp_s, cutIn, kont, Nat.reduceSub, Nat.reduceAdd, nth, o_const, o_lconst, o_ref, o_iload, o_lload, o_aload, o_istore, o_lstore, o_astore, o_iinc, o_bin, o_div, o_un, o_lbin, o_lsh, o_lcmp, o_i2l, o_l2i, o_if, o_icmp, o_goto, o_dup, o_dup2, o_pop, fav, o_getf, o_putI, o_putZ, o_putL, o_ald, o_ast, o_alen, popn, rst, o_callV, o_callT, o_callS, swx, o_sw, o_ret, o_iret, o_zret, o_cret, o_lret, o_aret, lg, lput, lput2, ls1, isL, entL, wsum, rdI1, rdI2, rdA1, rdA21, rdA22, rdL1, rdL22, rdL21, upN_at, rep, sh_0, F_0_0, F_0_1, F_0_2, F_0_3, F_0_4, F_0_5, F_0_6, F_0_7, F_0_8, sh_1, F_1_0, F_1_1, F_1_2, F_1_3, F_1_4, F_1_5, sh_3, F_3_0, F_3_1, F_3_2, F_3_3, F_3_4, F_3_5, sh_5, F_5_0, F_5_1, F_5_2, F_5_3, F_5_4, F_5_5, F_5_6, F_5_7, F_5_8, sh_12, F_12_0, F_12_1, F_12_2, F_12_3, F_12_4, F_12_5, sh_14, F_14_0, F_14_1, F_14_2, F_14_3, F_14_4, F_14_5, F_14_6, F_14_7, F_14_8, sh_21, F_21_0, F_21_1, F_21_2, F_21_3, F_21_4, F_21_5, F_21_6, F_21_7, F_21_8, sh_28, F_28_0, F_28_1, F_28_2, F_28_3, F_28_4, F_28_5, F_28_6, F_28_7, F_28_8, sh_35, F_35_0, sh_39, F_39_0, F_39_1, F_39_2, F_39_3, F_39_4, F_39_5, F_39_6, F_39_7, F_39_8, F_39_9, F_39_10, F_39_11, F_39_12, F_39_13, A_2, A_4, A_6, A_7, A_8, A_9, A_10, A_11, A_13, A_15, A_16, A_17, A_18, A_19, A_20, A_22, A_23, A_24, A_25, A_26, A_27, A_29, A_30, A_31, A_32, A_33, A_34, A_36, A_37, A_38, A_40, A_41, A_42, A_43, A_44, A_45, A_46, A_47]
    rw [show (256 : Int32) = nI 256 from rfl]
    simp (disch := omega) only [nI_leI, nI_ltI, nI_eq, nI_1, nI_add, one_shl, nI_or, nI_xor, nI_and, bit_0, bit_1, true_or, or_true, true_and, and_true, eq_self, not_true_eq_false, not_false_eq_true, forall_const]
    refine ⟨fun w1 => ?_, fun w1 => ⟨nI i, n, c, p, r, h0, lk, rfl, hX0, fun w2 => ?_, fun w2 => ?_⟩⟩
    · have e : i = 256 := by omega
      subst e
      have h3 := h2 lim hx rfl hlim hz
      obtain ⟨d, hd⟩ := Nat.exists_eq_add_of_le (show us h0 n + 1 ≤ 256 by omega)
      have hup := mnf_up (P := fwP (us h0 n) n lim (fun k => nI (r k)) x) (w := fun T => cn T 9) (a := us h0 n + 1) (fun j hj => by
        cases hb : fwP (us h0 n) n lim (fun k => nI (r k)) x j with
        | false => rfl
        | true =>
          unfold fwP at hb
          simp only [Bool.and_eq_true, decide_eq_true_eq] at hb
          have : j ≤ us h0 n := by rw [← hb.1]; exact Nat.and_le_right
          omega) d
      rw [← hd] at hup
      rw [← hup] at h3
      cases hm : mnf (fwP (us h0 n) n lim (fun k => nI (r k)) x) (fun T => cn T 9) 256 with
      | none =>
        rw [hm] at h3
        exact ⟨fun _ => h3, fun w => absurd rfl w⟩
      | some b =>
        rw [hm] at h3
        have hb := hmb b hm
        unfold ans0 at h3
        dsimp only at h3
        refine ⟨fun w => absurd w (ne9 hb), fun _ => ⟨fun w => ?_, fun w => ?_⟩⟩
        · rw [if_pos w] at h3; exact h3
        · rw [if_neg w] at h3
          refine ⟨b, rfl, by omega, ?_⟩
          dsimp only [k_X5_fewest_0, k_X5_fewest_1, k_X5_fewest_2, k_X5_fewest_5, k_X5_fewest_8, k_X5_fewest_11, k_X5_fewest_12, k_X5_fewest_13, k_X5_fewest_15, k_X5_fewest_18, k_X5_fewest_21, k_X5_fewest_22, k_X5_fewest_23, k_X5_fewest_24, k_X5_fewest_27, k_X5_fewest_30, k_X5_fewest_31, k_X5_fewest_32, k_X5_fewest_34, k_X5_fewest_36, k_X5_fewest_37, k_X5_fewest_39, k_X5_fewest_41, k_X5_fewest_44, k_X5_fewest_47, k_X5_fewest_48, k_X5_fewest_50, k_X5_fewest_53, k_X5_fewest_56, k_X5_fewest_58, k_X5_fewest_61, k_X5_fewest_62, k_X5_fewest_65, k_X5_fewest_66, k_X5_fewest_68, k_X5_fewest_71, k_X5_fewest_72, k_X5_fewest_75, k_X5_fewest_76, k_X5_fewest_79, k_X5_fewest_80, k_X5_fewest_82, k_X5_fewest_84, k_X5_fewest_87, k_X5_fewest_89, k_X5_fewest_91, k_X5_fewest_94, k_X5_fewest_96, k_X5_fewest_99, k_X5_fewest_101, k_X5_fewest_104, k_X5_fewest_107, k_X5_fewest_109, k_X5_fewest_112, k_X5_fewest_114, k_X5_fewest_116, k_X5_fewest_119, k_X5_fewest_122, k_X5_fewest_124, k_X5_fewest_126, k_X5_fewest_129, k_X5_fewest_130, k_X5_fewest_131, k_X5_fewest_134, k_X5_fewest_136, k_X5_fewest_139, k_X5_fewest_141, k_X5_fewest_144, wp1, wp_s, cutIn, kont, Nat.reduceSub, Nat.reduceAdd, nth, o_const, o_lconst, o_ref, o_iload, o_lload, o_aload, o_istore, o_lstore, o_astore, o_iinc, o_bin, o_div, o_un, o_lbin, o_lsh, o_lcmp, o_i2l, o_l2i, o_if, o_icmp, o_goto, o_dup, o_dup2, o_pop, fav, o_getf, o_putI, o_putZ, o_putL, o_ald, o_ast, o_alen, popn, rst, o_callV, o_callT, o_callS, swx, o_sw, o_ret, o_iret, o_zret, o_cret, o_lret, o_aret, lg, lput, lput2, ls1, isL, entL, wsum, rdI1, rdI2, rdA1, rdA21, rdA22, rdL1, rdL22, rdL21, upN_at, rep, sh_0, F_0_0, F_0_1, F_0_2, F_0_3, F_0_4, F_0_5, F_0_6, F_0_7, F_0_8, sh_1, F_1_0, F_1_1, F_1_2, F_1_3, F_1_4, F_1_5, sh_3, F_3_0, F_3_1, F_3_2, F_3_3, F_3_4, F_3_5, sh_5, F_5_0, F_5_1, F_5_2, F_5_3, F_5_4, F_5_5, F_5_6, F_5_7, F_5_8, sh_12, F_12_0, F_12_1, F_12_2, F_12_3, F_12_4, F_12_5, sh_14, F_14_0, F_14_1, F_14_2, F_14_3, F_14_4, F_14_5, F_14_6, F_14_7, F_14_8, sh_21, F_21_0, F_21_1, F_21_2, F_21_3, F_21_4, F_21_5, F_21_6, F_21_7, F_21_8, sh_28, F_28_0, F_28_1, F_28_2, F_28_3, F_28_4, F_28_5, F_28_6, F_28_7, F_28_8, sh_35, F_35_0, sh_39, F_39_0, F_39_1, F_39_2, F_39_3, F_39_4, F_39_5, F_39_6, F_39_7, F_39_8, F_39_9, F_39_10, F_39_11, F_39_12, F_39_13, A_2, A_4, A_6, A_7, A_8, A_9, A_10, A_11, A_13, A_15, A_16, A_17, A_18, A_19, A_20, A_22, A_23, A_24, A_25, A_26, A_27, A_29, A_30, A_31, A_32, A_33, A_34, A_36, A_37, A_38, A_40, A_41, A_42, A_43, A_44, A_45, A_46, A_47]
          exact h3
    · rw [In_nI (by omega) (by omega)] at w2
      have hxl := xr_lt (f := r) (T := i) n hrl
      dsimp only [k_X5_fewest_0, k_X5_fewest_1, k_X5_fewest_2, k_X5_fewest_5, k_X5_fewest_8, k_X5_fewest_11, k_X5_fewest_12, k_X5_fewest_13, k_X5_fewest_15, k_X5_fewest_18, k_X5_fewest_21, k_X5_fewest_22, k_X5_fewest_23, k_X5_fewest_24, k_X5_fewest_27, k_X5_fewest_30, k_X5_fewest_31, k_X5_fewest_32, k_X5_fewest_34, k_X5_fewest_36, k_X5_fewest_37, k_X5_fewest_39, k_X5_fewest_41, k_X5_fewest_44, k_X5_fewest_47, k_X5_fewest_48, k_X5_fewest_50, k_X5_fewest_53, k_X5_fewest_56, k_X5_fewest_58, k_X5_fewest_61, k_X5_fewest_62, k_X5_fewest_65, k_X5_fewest_66, k_X5_fewest_68, k_X5_fewest_71, k_X5_fewest_72, k_X5_fewest_75, k_X5_fewest_76, k_X5_fewest_79, k_X5_fewest_80, k_X5_fewest_82, k_X5_fewest_84, k_X5_fewest_87, k_X5_fewest_89, k_X5_fewest_91, k_X5_fewest_94, k_X5_fewest_96, k_X5_fewest_99, k_X5_fewest_101, k_X5_fewest_104, k_X5_fewest_107, k_X5_fewest_109, k_X5_fewest_112, k_X5_fewest_114, k_X5_fewest_116, k_X5_fewest_119, k_X5_fewest_122, k_X5_fewest_124, k_X5_fewest_126, k_X5_fewest_129, k_X5_fewest_130, k_X5_fewest_131, k_X5_fewest_134, k_X5_fewest_136, k_X5_fewest_139, k_X5_fewest_141, k_X5_fewest_144, wp1, wp_s, cutIn, kont, Nat.reduceSub, Nat.reduceAdd, nth, o_const, o_lconst, o_ref, o_iload, o_lload, o_aload, o_istore, o_lstore, o_astore, o_iinc, o_bin, o_div, o_un, o_lbin, o_lsh, o_lcmp, o_i2l, o_l2i, o_if, o_icmp, o_goto, o_dup, o_dup2, o_pop, fav, o_getf, o_putI, o_putZ, o_putL, o_ald, o_ast, o_alen, popn, rst, o_callV, o_callT, o_callS, swx, o_sw, o_ret, o_iret, o_zret, o_cret, o_lret, o_aret, lg, lput, lput2, ls1, isL, entL, wsum, rdI1, rdI2, rdA1, rdA21, rdA22, rdL1, rdL22, rdL21, upN_at, rep, sh_0, F_0_0, F_0_1, F_0_2, F_0_3, F_0_4, F_0_5, F_0_6, F_0_7, F_0_8, sh_1, F_1_0, F_1_1, F_1_2, F_1_3, F_1_4, F_1_5, sh_3, F_3_0, F_3_1, F_3_2, F_3_3, F_3_4, F_3_5, sh_5, F_5_0, F_5_1, F_5_2, F_5_3, F_5_4, F_5_5, F_5_6, F_5_7, F_5_8, sh_12, F_12_0, F_12_1, F_12_2, F_12_3, F_12_4, F_12_5, sh_14, F_14_0, F_14_1, F_14_2, F_14_3, F_14_4, F_14_5, F_14_6, F_14_7, F_14_8, sh_21, F_21_0, F_21_1, F_21_2, F_21_3, F_21_4, F_21_5, F_21_6, F_21_7, F_21_8, sh_28, F_28_0, F_28_1, F_28_2, F_28_3, F_28_4, F_28_5, F_28_6, F_28_7, F_28_8, sh_35, F_35_0, sh_39, F_39_0, F_39_1, F_39_2, F_39_3, F_39_4, F_39_5, F_39_6, F_39_7, F_39_8, F_39_9, F_39_10, F_39_11, F_39_12, F_39_13, A_2, A_4, A_6, A_7, A_8, A_9, A_10, A_11, A_13, A_15, A_16, A_17, A_18, A_19, A_20, A_22, A_23, A_24, A_25, A_26, A_27, A_29, A_30, A_31, A_32, A_33, A_34, A_36, A_37, A_38, A_40, A_41, A_42, A_43, A_44, A_45, A_46, A_47]
      simp (config := { decide := true }) only [true_implies, false_implies, and_true, true_and, not_true_eq_false, not_false_eq_true, forall_const]
      refine ⟨i, rfl, by omega, ?_⟩
      dsimp only [k_X5_fewest_0, k_X5_fewest_1, k_X5_fewest_2, k_X5_fewest_5, k_X5_fewest_8, k_X5_fewest_11, k_X5_fewest_12, k_X5_fewest_13, k_X5_fewest_15, k_X5_fewest_18, k_X5_fewest_21, k_X5_fewest_22, k_X5_fewest_23, k_X5_fewest_24, k_X5_fewest_27, k_X5_fewest_30, k_X5_fewest_31, k_X5_fewest_32, k_X5_fewest_34, k_X5_fewest_36, k_X5_fewest_37, k_X5_fewest_39, k_X5_fewest_41, k_X5_fewest_44, k_X5_fewest_47, k_X5_fewest_48, k_X5_fewest_50, k_X5_fewest_53, k_X5_fewest_56, k_X5_fewest_58, k_X5_fewest_61, k_X5_fewest_62, k_X5_fewest_65, k_X5_fewest_66, k_X5_fewest_68, k_X5_fewest_71, k_X5_fewest_72, k_X5_fewest_75, k_X5_fewest_76, k_X5_fewest_79, k_X5_fewest_80, k_X5_fewest_82, k_X5_fewest_84, k_X5_fewest_87, k_X5_fewest_89, k_X5_fewest_91, k_X5_fewest_94, k_X5_fewest_96, k_X5_fewest_99, k_X5_fewest_101, k_X5_fewest_104, k_X5_fewest_107, k_X5_fewest_109, k_X5_fewest_112, k_X5_fewest_114, k_X5_fewest_116, k_X5_fewest_119, k_X5_fewest_122, k_X5_fewest_124, k_X5_fewest_126, k_X5_fewest_129, k_X5_fewest_130, k_X5_fewest_131, k_X5_fewest_134, k_X5_fewest_136, k_X5_fewest_139, k_X5_fewest_141, k_X5_fewest_144, wp1, wp_s, cutIn, kont, Nat.reduceSub, Nat.reduceAdd, nth, o_const, o_lconst, o_ref, o_iload, o_lload, o_aload, o_istore, o_lstore, o_astore, o_iinc, o_bin, o_div, o_un, o_lbin, o_lsh, o_lcmp, o_i2l, o_l2i, o_if, o_icmp, o_goto, o_dup, o_dup2, o_pop, fav, o_getf, o_putI, o_putZ, o_putL, o_ald, o_ast, o_alen, popn, rst, o_callV, o_callT, o_callS, swx, o_sw, o_ret, o_iret, o_zret, o_cret, o_lret, o_aret, lg, lput, lput2, ls1, isL, entL, wsum, rdI1, rdI2, rdA1, rdA21, rdA22, rdL1, rdL22, rdL21, upN_at, rep, sh_0, F_0_0, F_0_1, F_0_2, F_0_3, F_0_4, F_0_5, F_0_6, F_0_7, F_0_8, sh_1, F_1_0, F_1_1, F_1_2, F_1_3, F_1_4, F_1_5, sh_3, F_3_0, F_3_1, F_3_2, F_3_3, F_3_4, F_3_5, sh_5, F_5_0, F_5_1, F_5_2, F_5_3, F_5_4, F_5_5, F_5_6, F_5_7, F_5_8, sh_12, F_12_0, F_12_1, F_12_2, F_12_3, F_12_4, F_12_5, sh_14, F_14_0, F_14_1, F_14_2, F_14_3, F_14_4, F_14_5, F_14_6, F_14_7, F_14_8, sh_21, F_21_0, F_21_1, F_21_2, F_21_3, F_21_4, F_21_5, F_21_6, F_21_7, F_21_8, sh_28, F_28_0, F_28_1, F_28_2, F_28_3, F_28_4, F_28_5, F_28_6, F_28_7, F_28_8, sh_35, F_35_0, sh_39, F_39_0, F_39_1, F_39_2, F_39_3, F_39_4, F_39_5, F_39_6, F_39_7, F_39_8, F_39_9, F_39_10, F_39_11, F_39_12, F_39_13, A_2, A_4, A_6, A_7, A_8, A_9, A_10, A_11, A_13, A_15, A_16, A_17, A_18, A_19, A_20, A_22, A_23, A_24, A_25, A_26, A_27, A_29, A_30, A_31, A_32, A_33, A_34, A_36, A_37, A_38, A_40, A_41, A_42, A_43, A_44, A_45, A_46, A_47]
      rw [nI_ltI (by omega) (by omega)]
      refine ⟨fun w3 => ?_, fun w3 => ⟨i, n, c, p, r, h0, lk, rfl, sub_lt w2 (us_lt2 h0 n), hX0, ?_⟩⟩
      · have hs := mnf_s0 (P := fwP (us h0 n) n lim (fun k => nI (r k)) x) (w := fun g => cn g 9) (n := i) (fun w => absurd (hfw.mp w).2.1 (by omega))
        simp (config := { decide := true }) only [true_implies, false_implies, and_true, true_and, not_true_eq_false, not_false_eq_true, forall_const]
        exact cut _ _ ⟨rfl, rfl, rfl, lim, i + 1, hx, rfl, hlim, hz, by omega, rfl, rfl⟩ (by omega) ⟨rfl, rfl, rfl, rfl, vi_eq (by rw [hs]), vi_eq (by first | rfl | exact nI_1 _), trivial⟩
      · dsimp only [k_X5_fewest_0, k_X5_fewest_1, k_X5_fewest_2, k_X5_fewest_5, k_X5_fewest_8, k_X5_fewest_11, k_X5_fewest_12, k_X5_fewest_13, k_X5_fewest_15, k_X5_fewest_18, k_X5_fewest_21, k_X5_fewest_22, k_X5_fewest_23, k_X5_fewest_24, k_X5_fewest_27, k_X5_fewest_30, k_X5_fewest_31, k_X5_fewest_32, k_X5_fewest_34, k_X5_fewest_36, k_X5_fewest_37, k_X5_fewest_39, k_X5_fewest_41, k_X5_fewest_44, k_X5_fewest_47, k_X5_fewest_48, k_X5_fewest_50, k_X5_fewest_53, k_X5_fewest_56, k_X5_fewest_58, k_X5_fewest_61, k_X5_fewest_62, k_X5_fewest_65, k_X5_fewest_66, k_X5_fewest_68, k_X5_fewest_71, k_X5_fewest_72, k_X5_fewest_75, k_X5_fewest_76, k_X5_fewest_79, k_X5_fewest_80, k_X5_fewest_82, k_X5_fewest_84, k_X5_fewest_87, k_X5_fewest_89, k_X5_fewest_91, k_X5_fewest_94, k_X5_fewest_96, k_X5_fewest_99, k_X5_fewest_101, k_X5_fewest_104, k_X5_fewest_107, k_X5_fewest_109, k_X5_fewest_112, k_X5_fewest_114, k_X5_fewest_116, k_X5_fewest_119, k_X5_fewest_122, k_X5_fewest_124, k_X5_fewest_126, k_X5_fewest_129, k_X5_fewest_130, k_X5_fewest_131, k_X5_fewest_134, k_X5_fewest_136, k_X5_fewest_139, k_X5_fewest_141, k_X5_fewest_144, wp1, wp_s, cutIn, kont, Nat.reduceSub, Nat.reduceAdd, nth, o_const, o_lconst, o_ref, o_iload, o_lload, o_aload, o_istore, o_lstore, o_astore, o_iinc, o_bin, o_div, o_un, o_lbin, o_lsh, o_lcmp, o_i2l, o_l2i, o_if, o_icmp, o_goto, o_dup, o_dup2, o_pop, fav, o_getf, o_putI, o_putZ, o_putL, o_ald, o_ast, o_alen, popn, rst, o_callV, o_callT, o_callS, swx, o_sw, o_ret, o_iret, o_zret, o_cret, o_lret, o_aret, lg, lput, lput2, ls1, isL, entL, wsum, rdI1, rdI2, rdA1, rdA21, rdA22, rdL1, rdL22, rdL21, upN_at, rep, sh_0, F_0_0, F_0_1, F_0_2, F_0_3, F_0_4, F_0_5, F_0_6, F_0_7, F_0_8, sh_1, F_1_0, F_1_1, F_1_2, F_1_3, F_1_4, F_1_5, sh_3, F_3_0, F_3_1, F_3_2, F_3_3, F_3_4, F_3_5, sh_5, F_5_0, F_5_1, F_5_2, F_5_3, F_5_4, F_5_5, F_5_6, F_5_7, F_5_8, sh_12, F_12_0, F_12_1, F_12_2, F_12_3, F_12_4, F_12_5, sh_14, F_14_0, F_14_1, F_14_2, F_14_3, F_14_4, F_14_5, F_14_6, F_14_7, F_14_8, sh_21, F_21_0, F_21_1, F_21_2, F_21_3, F_21_4, F_21_5, F_21_6, F_21_7, F_21_8, sh_28, F_28_0, F_28_1, F_28_2, F_28_3, F_28_4, F_28_5, F_28_6, F_28_7, F_28_8, sh_35, F_35_0, sh_39, F_39_0, F_39_1, F_39_2, F_39_3, F_39_4, F_39_5, F_39_6, F_39_7, F_39_8, F_39_9, F_39_10, F_39_11, F_39_12, F_39_13, A_2, A_4, A_6, A_7, A_8, A_9, A_10, A_11, A_13, A_15, A_16, A_17, A_18, A_19, A_20, A_22, A_23, A_24, A_25, A_26, A_27, A_29, A_30, A_31, A_32, A_33, A_34, A_36, A_37, A_38, A_40, A_41, A_42, A_43, A_44, A_45, A_46, A_47]
        simp (config := { decide := true }) only [true_implies, false_implies, and_true, true_and, not_true_eq_false, not_false_eq_true, forall_const]
        refine ⟨fun w4 => ⟨fun w5 => ?_, fun w5 => ⟨i, rfl, by omega, ?_⟩⟩, fun w4 => ?_⟩
        · have hm := (bsI_9 hmb).mp w5
          have hs := mnf_s1 (P := fwP (us h0 n) n lim (fun k => nI (r k)) x) (w := fun g => cn g 9) (n := i) (hfw.mpr ⟨w2, by omega, w4⟩) (fun b hb => by rw [hm] at hb; cases hb)
          exact cut _ _ ⟨rfl, rfl, rfl, lim, i + 1, hx, rfl, hlim, hz, by omega, rfl, rfl⟩ (by omega) ⟨rfl, rfl, rfl, rfl, vi_eq (by rw [hs] <;> rfl), vi_eq (by first | rfl | exact nI_1 _), trivial⟩
        · cases hm : mnf (fwP (us h0 n) n lim (fun k => nI (r k)) x) (fun T => cn T 9) i with
          | none => rw [hm] at w5; exact absurd rfl w5
          | some b =>
            have hbb := hmb b hm
            have hbc := hcb b
            dsimp only [k_X5_fewest_0, k_X5_fewest_1, k_X5_fewest_2, k_X5_fewest_5, k_X5_fewest_8, k_X5_fewest_11, k_X5_fewest_12, k_X5_fewest_13, k_X5_fewest_15, k_X5_fewest_18, k_X5_fewest_21, k_X5_fewest_22, k_X5_fewest_23, k_X5_fewest_24, k_X5_fewest_27, k_X5_fewest_30, k_X5_fewest_31, k_X5_fewest_32, k_X5_fewest_34, k_X5_fewest_36, k_X5_fewest_37, k_X5_fewest_39, k_X5_fewest_41, k_X5_fewest_44, k_X5_fewest_47, k_X5_fewest_48, k_X5_fewest_50, k_X5_fewest_53, k_X5_fewest_56, k_X5_fewest_58, k_X5_fewest_61, k_X5_fewest_62, k_X5_fewest_65, k_X5_fewest_66, k_X5_fewest_68, k_X5_fewest_71, k_X5_fewest_72, k_X5_fewest_75, k_X5_fewest_76, k_X5_fewest_79, k_X5_fewest_80, k_X5_fewest_82, k_X5_fewest_84, k_X5_fewest_87, k_X5_fewest_89, k_X5_fewest_91, k_X5_fewest_94, k_X5_fewest_96, k_X5_fewest_99, k_X5_fewest_101, k_X5_fewest_104, k_X5_fewest_107, k_X5_fewest_109, k_X5_fewest_112, k_X5_fewest_114, k_X5_fewest_116, k_X5_fewest_119, k_X5_fewest_122, k_X5_fewest_124, k_X5_fewest_126, k_X5_fewest_129, k_X5_fewest_130, k_X5_fewest_131, k_X5_fewest_134, k_X5_fewest_136, k_X5_fewest_139, k_X5_fewest_141, k_X5_fewest_144, wp1, wp_s, cutIn, kont, Nat.reduceSub, Nat.reduceAdd, nth, o_const, o_lconst, o_ref, o_iload, o_lload, o_aload, o_istore, o_lstore, o_astore, o_iinc, o_bin, o_div, o_un, o_lbin, o_lsh, o_lcmp, o_i2l, o_l2i, o_if, o_icmp, o_goto, o_dup, o_dup2, o_pop, fav, o_getf, o_putI, o_putZ, o_putL, o_ald, o_ast, o_alen, popn, rst, o_callV, o_callT, o_callS, swx, o_sw, o_ret, o_iret, o_zret, o_cret, o_lret, o_aret, lg, lput, lput2, ls1, isL, entL, wsum, rdI1, rdI2, rdA1, rdA21, rdA22, rdL1, rdL22, rdL21, upN_at, rep, sh_0, F_0_0, F_0_1, F_0_2, F_0_3, F_0_4, F_0_5, F_0_6, F_0_7, F_0_8, sh_1, F_1_0, F_1_1, F_1_2, F_1_3, F_1_4, F_1_5, sh_3, F_3_0, F_3_1, F_3_2, F_3_3, F_3_4, F_3_5, sh_5, F_5_0, F_5_1, F_5_2, F_5_3, F_5_4, F_5_5, F_5_6, F_5_7, F_5_8, sh_12, F_12_0, F_12_1, F_12_2, F_12_3, F_12_4, F_12_5, sh_14, F_14_0, F_14_1, F_14_2, F_14_3, F_14_4, F_14_5, F_14_6, F_14_7, F_14_8, sh_21, F_21_0, F_21_1, F_21_2, F_21_3, F_21_4, F_21_5, F_21_6, F_21_7, F_21_8, sh_28, F_28_0, F_28_1, F_28_2, F_28_3, F_28_4, F_28_5, F_28_6, F_28_7, F_28_8, sh_35, F_35_0, sh_39, F_39_0, F_39_1, F_39_2, F_39_3, F_39_4, F_39_5, F_39_6, F_39_7, F_39_8, F_39_9, F_39_10, F_39_11, F_39_12, F_39_13, A_2, A_4, A_6, A_7, A_8, A_9, A_10, A_11, A_13, A_15, A_16, A_17, A_18, A_19, A_20, A_22, A_23, A_24, A_25, A_26, A_27, A_29, A_30, A_31, A_32, A_33, A_34, A_36, A_37, A_38, A_40, A_41, A_42, A_43, A_44, A_45, A_46, A_47, bsI]
            refine ⟨b, rfl, by omega, ?_⟩
            dsimp only [k_X5_fewest_0, k_X5_fewest_1, k_X5_fewest_2, k_X5_fewest_5, k_X5_fewest_8, k_X5_fewest_11, k_X5_fewest_12, k_X5_fewest_13, k_X5_fewest_15, k_X5_fewest_18, k_X5_fewest_21, k_X5_fewest_22, k_X5_fewest_23, k_X5_fewest_24, k_X5_fewest_27, k_X5_fewest_30, k_X5_fewest_31, k_X5_fewest_32, k_X5_fewest_34, k_X5_fewest_36, k_X5_fewest_37, k_X5_fewest_39, k_X5_fewest_41, k_X5_fewest_44, k_X5_fewest_47, k_X5_fewest_48, k_X5_fewest_50, k_X5_fewest_53, k_X5_fewest_56, k_X5_fewest_58, k_X5_fewest_61, k_X5_fewest_62, k_X5_fewest_65, k_X5_fewest_66, k_X5_fewest_68, k_X5_fewest_71, k_X5_fewest_72, k_X5_fewest_75, k_X5_fewest_76, k_X5_fewest_79, k_X5_fewest_80, k_X5_fewest_82, k_X5_fewest_84, k_X5_fewest_87, k_X5_fewest_89, k_X5_fewest_91, k_X5_fewest_94, k_X5_fewest_96, k_X5_fewest_99, k_X5_fewest_101, k_X5_fewest_104, k_X5_fewest_107, k_X5_fewest_109, k_X5_fewest_112, k_X5_fewest_114, k_X5_fewest_116, k_X5_fewest_119, k_X5_fewest_122, k_X5_fewest_124, k_X5_fewest_126, k_X5_fewest_129, k_X5_fewest_130, k_X5_fewest_131, k_X5_fewest_134, k_X5_fewest_136, k_X5_fewest_139, k_X5_fewest_141, k_X5_fewest_144, wp1, wp_s, cutIn, kont, Nat.reduceSub, Nat.reduceAdd, nth, o_const, o_lconst, o_ref, o_iload, o_lload, o_aload, o_istore, o_lstore, o_astore, o_iinc, o_bin, o_div, o_un, o_lbin, o_lsh, o_lcmp, o_i2l, o_l2i, o_if, o_icmp, o_goto, o_dup, o_dup2, o_pop, fav, o_getf, o_putI, o_putZ, o_putL, o_ald, o_ast, o_alen, popn, rst, o_callV, o_callT, o_callS, swx, o_sw, o_ret, o_iret, o_zret, o_cret, o_lret, o_aret, lg, lput, lput2, ls1, isL, entL, wsum, rdI1, rdI2, rdA1, rdA21, rdA22, rdL1, rdL22, rdL21, upN_at, rep, sh_0, F_0_0, F_0_1, F_0_2, F_0_3, F_0_4, F_0_5, F_0_6, F_0_7, F_0_8, sh_1, F_1_0, F_1_1, F_1_2, F_1_3, F_1_4, F_1_5, sh_3, F_3_0, F_3_1, F_3_2, F_3_3, F_3_4, F_3_5, sh_5, F_5_0, F_5_1, F_5_2, F_5_3, F_5_4, F_5_5, F_5_6, F_5_7, F_5_8, sh_12, F_12_0, F_12_1, F_12_2, F_12_3, F_12_4, F_12_5, sh_14, F_14_0, F_14_1, F_14_2, F_14_3, F_14_4, F_14_5, F_14_6, F_14_7, F_14_8, sh_21, F_21_0, F_21_1, F_21_2, F_21_3, F_21_4, F_21_5, F_21_6, F_21_7, F_21_8, sh_28, F_28_0, F_28_1, F_28_2, F_28_3, F_28_4, F_28_5, F_28_6, F_28_7, F_28_8, sh_35, F_35_0, sh_39, F_39_0, F_39_1, F_39_2, F_39_3, F_39_4, F_39_5, F_39_6, F_39_7, F_39_8, F_39_9, F_39_10, F_39_11, F_39_12, F_39_13, A_2, A_4, A_6, A_7, A_8, A_9, A_10, A_11, A_13, A_15, A_16, A_17, A_18, A_19, A_20, A_22, A_23, A_24, A_25, A_26, A_27, A_29, A_30, A_31, A_32, A_33, A_34, A_36, A_37, A_38, A_40, A_41, A_42, A_43, A_44, A_45, A_46, A_47]
            simp (disch := omega) only [nI_leI, nI_ltI, nI_eq, nI_1, nI_add, one_shl, nI_or, nI_xor, nI_and, bit_0, bit_1, true_or, or_true, true_and, and_true, eq_self, not_true_eq_false, not_false_eq_true, forall_const]
            refine ⟨fun w6 => ?_, fun w6 => ?_⟩
            · have hs := mnf_s0 (P := fwP (us h0 n) n lim (fun k => nI (r k)) x) (w := fun g => cn g 9) (n := i) (fun _ => ⟨b, hm, w6⟩)
              exact cut _ _ ⟨rfl, rfl, rfl, lim, i + 1, hx, rfl, hlim, hz, by omega, rfl, rfl⟩ (by omega) ⟨rfl, rfl, rfl, rfl, vi_eq (by rw [hs, hm] <;> rfl), vi_eq (by first | rfl | exact nI_1 _), trivial⟩
            · have hs := mnf_s1 (P := fwP (us h0 n) n lim (fun k => nI (r k)) x) (w := fun g => cn g 9) (n := i) (hfw.mpr ⟨w2, by omega, w4⟩) (fun b' hb => by rw [hm] at hb; cases hb; exact Nat.lt_of_not_le w6)
              exact cut _ _ ⟨rfl, rfl, rfl, lim, i + 1, hx, rfl, hlim, hz, by omega, rfl, rfl⟩ (by omega) ⟨rfl, rfl, rfl, rfl, vi_eq (by rw [hs] <;> rfl), vi_eq (by first | rfl | exact nI_1 _), trivial⟩
        · have hs := mnf_s0 (P := fwP (us h0 n) n lim (fun k => nI (r k)) x) (w := fun g => cn g 9) (n := i) (fun w => absurd (hfw.mp w).2.2 w4)
          exact cut _ _ ⟨rfl, rfl, rfl, lim, i + 1, hx, rfl, hlim, hz, by omega, rfl, rfl⟩ (by omega) ⟨rfl, rfl, rfl, rfl, vi_eq (by rw [hs]), vi_eq (by first | rfl | exact nI_1 _), trivial⟩
    · rw [In_nI (by omega) (by omega)] at w2
      have hs := mnf_s0 (P := fwP (us h0 n) n lim (fun k => nI (r k)) x) (w := fun g => cn g 9) (n := i) (fun w => absurd (hfw.mp w).1 w2)
      dsimp only [k_X5_fewest_0, k_X5_fewest_1, k_X5_fewest_2, k_X5_fewest_5, k_X5_fewest_8, k_X5_fewest_11, k_X5_fewest_12, k_X5_fewest_13, k_X5_fewest_15, k_X5_fewest_18, k_X5_fewest_21, k_X5_fewest_22, k_X5_fewest_23, k_X5_fewest_24, k_X5_fewest_27, k_X5_fewest_30, k_X5_fewest_31, k_X5_fewest_32, k_X5_fewest_34, k_X5_fewest_36, k_X5_fewest_37, k_X5_fewest_39, k_X5_fewest_41, k_X5_fewest_44, k_X5_fewest_47, k_X5_fewest_48, k_X5_fewest_50, k_X5_fewest_53, k_X5_fewest_56, k_X5_fewest_58, k_X5_fewest_61, k_X5_fewest_62, k_X5_fewest_65, k_X5_fewest_66, k_X5_fewest_68, k_X5_fewest_71, k_X5_fewest_72, k_X5_fewest_75, k_X5_fewest_76, k_X5_fewest_79, k_X5_fewest_80, k_X5_fewest_82, k_X5_fewest_84, k_X5_fewest_87, k_X5_fewest_89, k_X5_fewest_91, k_X5_fewest_94, k_X5_fewest_96, k_X5_fewest_99, k_X5_fewest_101, k_X5_fewest_104, k_X5_fewest_107, k_X5_fewest_109, k_X5_fewest_112, k_X5_fewest_114, k_X5_fewest_116, k_X5_fewest_119, k_X5_fewest_122, k_X5_fewest_124, k_X5_fewest_126, k_X5_fewest_129, k_X5_fewest_130, k_X5_fewest_131, k_X5_fewest_134, k_X5_fewest_136, k_X5_fewest_139, k_X5_fewest_141, k_X5_fewest_144, wp1, wp_s, cutIn, kont, Nat.reduceSub, Nat.reduceAdd, nth, o_const, o_lconst, o_ref, o_iload, o_lload, o_aload, o_istore, o_lstore, o_astore, o_iinc, o_bin, o_div, o_un, o_lbin, o_lsh, o_lcmp, o_i2l, o_l2i, o_if, o_icmp, o_goto, o_dup, o_dup2, o_pop, fav, o_getf, o_putI, o_putZ, o_putL, o_ald, o_ast, o_alen, popn, rst, o_callV, o_callT, o_callS, swx, o_sw, o_ret, o_iret, o_zret, o_cret, o_lret, o_aret, lg, lput, lput2, ls1, isL, entL, wsum, rdI1, rdI2, rdA1, rdA21, rdA22, rdL1, rdL22, rdL21, upN_at, rep, sh_0, F_0_0, F_0_1, F_0_2, F_0_3, F_0_4, F_0_5, F_0_6, F_0_7, F_0_8, sh_1, F_1_0, F_1_1, F_1_2, F_1_3, F_1_4, F_1_5, sh_3, F_3_0, F_3_1, F_3_2, F_3_3, F_3_4, F_3_5, sh_5, F_5_0, F_5_1, F_5_2, F_5_3, F_5_4, F_5_5, F_5_6, F_5_7, F_5_8, sh_12, F_12_0, F_12_1, F_12_2, F_12_3, F_12_4, F_12_5, sh_14, F_14_0, F_14_1, F_14_2, F_14_3, F_14_4, F_14_5, F_14_6, F_14_7, F_14_8, sh_21, F_21_0, F_21_1, F_21_2, F_21_3, F_21_4, F_21_5, F_21_6, F_21_7, F_21_8, sh_28, F_28_0, F_28_1, F_28_2, F_28_3, F_28_4, F_28_5, F_28_6, F_28_7, F_28_8, sh_35, F_35_0, sh_39, F_39_0, F_39_1, F_39_2, F_39_3, F_39_4, F_39_5, F_39_6, F_39_7, F_39_8, F_39_9, F_39_10, F_39_11, F_39_12, F_39_13, A_2, A_4, A_6, A_7, A_8, A_9, A_10, A_11, A_13, A_15, A_16, A_17, A_18, A_19, A_20, A_22, A_23, A_24, A_25, A_26, A_27, A_29, A_30, A_31, A_32, A_33, A_34, A_36, A_37, A_38, A_40, A_41, A_42, A_43, A_44, A_45, A_46, A_47]
      simp (config := { decide := true }) only [true_implies, false_implies, and_true, true_and, not_true_eq_false, not_false_eq_true, forall_const]
      exact cut _ _ ⟨rfl, rfl, rfl, lim, i + 1, hx, rfl, hlim, hz, by omega, rfl, rfl⟩ (by omega) ⟨rfl, rfl, rfl, rfl, vi_eq (by rw [hs]), vi_eq (by first | rfl | exact nI_1 _), trivial⟩
  · dsimp only [k_X5_fewest_0, k_X5_fewest_1, k_X5_fewest_2, k_X5_fewest_5, k_X5_fewest_8, k_X5_fewest_11, k_X5_fewest_12, k_X5_fewest_13, k_X5_fewest_15, k_X5_fewest_18, k_X5_fewest_21, k_X5_fewest_22, k_X5_fewest_23, k_X5_fewest_24, k_X5_fewest_27, k_X5_fewest_30, k_X5_fewest_31, k_X5_fewest_32, k_X5_fewest_34, k_X5_fewest_36, k_X5_fewest_37, k_X5_fewest_39, k_X5_fewest_41, k_X5_fewest_44, k_X5_fewest_47, k_X5_fewest_48, k_X5_fewest_50, k_X5_fewest_53, k_X5_fewest_56, k_X5_fewest_58, k_X5_fewest_61, k_X5_fewest_62, k_X5_fewest_65, k_X5_fewest_66, k_X5_fewest_68, k_X5_fewest_71, k_X5_fewest_72, k_X5_fewest_75, k_X5_fewest_76, k_X5_fewest_79, k_X5_fewest_80, k_X5_fewest_82, k_X5_fewest_84, k_X5_fewest_87, k_X5_fewest_89, k_X5_fewest_91, k_X5_fewest_94, k_X5_fewest_96, k_X5_fewest_99, k_X5_fewest_101, k_X5_fewest_104, k_X5_fewest_107, k_X5_fewest_109, k_X5_fewest_112, k_X5_fewest_114, k_X5_fewest_116, k_X5_fewest_119, k_X5_fewest_122, k_X5_fewest_124, k_X5_fewest_126, k_X5_fewest_129, k_X5_fewest_130, k_X5_fewest_131, k_X5_fewest_134, k_X5_fewest_136, k_X5_fewest_139, k_X5_fewest_141, k_X5_fewest_144, wp1, wp_s, cutIn, kont, Nat.reduceSub, Nat.reduceAdd, nth, o_const, o_lconst, o_ref, o_iload, o_lload, o_aload, o_istore, o_lstore, o_astore, o_iinc, o_bin, o_div, o_un, o_lbin, o_lsh, o_lcmp, o_i2l, o_l2i, o_if, o_icmp, o_goto, o_dup, o_dup2, o_pop, fav, o_getf, o_putI, o_putZ, o_putL, o_ald, o_ast, o_alen, popn, rst, o_callV, o_callT, o_callS, swx, o_sw, o_ret, o_iret, o_zret, o_cret, o_lret, o_aret, lg, lput, lput2, ls1, isL, entL, wsum, rdI1, rdI2, rdA1, rdA21, rdA22, rdL1, rdL22, rdL21, upN_at, rep, sh_0, F_0_0, F_0_1, F_0_2, F_0_3, F_0_4, F_0_5, F_0_6, F_0_7, F_0_8, sh_1, F_1_0, F_1_1, F_1_2, F_1_3, F_1_4, F_1_5, sh_3, F_3_0, F_3_1, F_3_2, F_3_3, F_3_4, F_3_5, sh_5, F_5_0, F_5_1, F_5_2, F_5_3, F_5_4, F_5_5, F_5_6, F_5_7, F_5_8, sh_12, F_12_0, F_12_1, F_12_2, F_12_3, F_12_4, F_12_5, sh_14, F_14_0, F_14_1, F_14_2, F_14_3, F_14_4, F_14_5, F_14_6, F_14_7, F_14_8, sh_21, F_21_0, F_21_1, F_21_2, F_21_3, F_21_4, F_21_5, F_21_6, F_21_7, F_21_8, sh_28, F_28_0, F_28_1, F_28_2, F_28_3, F_28_4, F_28_5, F_28_6, F_28_7, F_28_8, sh_35, F_35_0, sh_39, F_39_0, F_39_1, F_39_2, F_39_3, F_39_4, F_39_5, F_39_6, F_39_7, F_39_8, F_39_9, F_39_10, F_39_11, F_39_12, F_39_13, A_2, A_4, A_6, A_7, A_8, A_9, A_10, A_11, A_13, A_15, A_16, A_17, A_18, A_19, A_20, A_22, A_23, A_24, A_25, A_26, A_27, A_29, A_30, A_31, A_32, A_33, A_34, A_36, A_37, A_38, A_40, A_41, A_42, A_43, A_44, A_45, A_46, A_47]
    refine ⟨x, 0, nI 511, rfl, ?_⟩
    unfold pz
    rw [up_x (n := 511) (m := 512) (by omega) rfl (by omega)]
    refine ⟨fun w1 => ?_, fun w1 => ?_⟩
    · dsimp only [k_X5_fewest_0, k_X5_fewest_1, k_X5_fewest_2, k_X5_fewest_5, k_X5_fewest_8, k_X5_fewest_11, k_X5_fewest_12, k_X5_fewest_13, k_X5_fewest_15, k_X5_fewest_18, k_X5_fewest_21, k_X5_fewest_22, k_X5_fewest_23, k_X5_fewest_24, k_X5_fewest_27, k_X5_fewest_30, k_X5_fewest_31, k_X5_fewest_32, k_X5_fewest_34, k_X5_fewest_36, k_X5_fewest_37, k_X5_fewest_39, k_X5_fewest_41, k_X5_fewest_44, k_X5_fewest_47, k_X5_fewest_48, k_X5_fewest_50, k_X5_fewest_53, k_X5_fewest_56, k_X5_fewest_58, k_X5_fewest_61, k_X5_fewest_62, k_X5_fewest_65, k_X5_fewest_66, k_X5_fewest_68, k_X5_fewest_71, k_X5_fewest_72, k_X5_fewest_75, k_X5_fewest_76, k_X5_fewest_79, k_X5_fewest_80, k_X5_fewest_82, k_X5_fewest_84, k_X5_fewest_87, k_X5_fewest_89, k_X5_fewest_91, k_X5_fewest_94, k_X5_fewest_96, k_X5_fewest_99, k_X5_fewest_101, k_X5_fewest_104, k_X5_fewest_107, k_X5_fewest_109, k_X5_fewest_112, k_X5_fewest_114, k_X5_fewest_116, k_X5_fewest_119, k_X5_fewest_122, k_X5_fewest_124, k_X5_fewest_126, k_X5_fewest_129, k_X5_fewest_130, k_X5_fewest_131, k_X5_fewest_134, k_X5_fewest_136, k_X5_fewest_139, k_X5_fewest_141, k_X5_fewest_144, wp1, wp_s, cutIn, kont, Nat.reduceSub, Nat.reduceAdd, nth, o_const, o_lconst, o_ref, o_iload, o_lload, o_aload, o_istore, o_lstore, o_astore, o_iinc, o_bin, o_div, o_un, o_lbin, o_lsh, o_lcmp, o_i2l, o_l2i, o_if, o_icmp, o_goto, o_dup, o_dup2, o_pop, fav, o_getf, o_putI, o_putZ, o_putL, o_ald, o_ast, o_alen, popn, rst, o_callV, o_callT, o_callS, swx, o_sw, o_ret, o_iret, o_zret, o_cret, o_lret, o_aret, lg, lput, lput2, ls1, isL, entL, wsum, rdI1, rdI2, rdA1, rdA21, rdA22, rdL1, rdL22, rdL21, upN_at, rep, sh_0, F_0_0, F_0_1, F_0_2, F_0_3, F_0_4, F_0_5, F_0_6, F_0_7, F_0_8, sh_1, F_1_0, F_1_1, F_1_2, F_1_3, F_1_4, F_1_5, sh_3, F_3_0, F_3_1, F_3_2, F_3_3, F_3_4, F_3_5, sh_5, F_5_0, F_5_1, F_5_2, F_5_3, F_5_4, F_5_5, F_5_6, F_5_7, F_5_8, sh_12, F_12_0, F_12_1, F_12_2, F_12_3, F_12_4, F_12_5, sh_14, F_14_0, F_14_1, F_14_2, F_14_3, F_14_4, F_14_5, F_14_6, F_14_7, F_14_8, sh_21, F_21_0, F_21_1, F_21_2, F_21_3, F_21_4, F_21_5, F_21_6, F_21_7, F_21_8, sh_28, F_28_0, F_28_1, F_28_2, F_28_3, F_28_4, F_28_5, F_28_6, F_28_7, F_28_8, sh_35, F_35_0, sh_39, F_39_0, F_39_1, F_39_2, F_39_3, F_39_4, F_39_5, F_39_6, F_39_7, F_39_8, F_39_9, F_39_10, F_39_11, F_39_12, F_39_13, A_2, A_4, A_6, A_7, A_8, A_9, A_10, A_11, A_13, A_15, A_16, A_17, A_18, A_19, A_20, A_22, A_23, A_24, A_25, A_26, A_27, A_29, A_30, A_31, A_32, A_33, A_34, A_36, A_37, A_38, A_40, A_41, A_42, A_43, A_44, A_45, A_46, A_47]
      simp (config := { decide := true }) only [true_implies, false_implies, and_true, true_and, not_true_eq_false, not_false_eq_true, forall_const]
      refine ⟨y, 0, nI 8, rfl, ?_⟩
      unfold pz
      rw [up_x (n := 8) (m := 9) (by omega) rfl (by omega)]
      refine ⟨fun w2 => ?_, fun w2 => ?_⟩
      · dsimp only [k_X5_fewest_0, k_X5_fewest_1, k_X5_fewest_2, k_X5_fewest_5, k_X5_fewest_8, k_X5_fewest_11, k_X5_fewest_12, k_X5_fewest_13, k_X5_fewest_15, k_X5_fewest_18, k_X5_fewest_21, k_X5_fewest_22, k_X5_fewest_23, k_X5_fewest_24, k_X5_fewest_27, k_X5_fewest_30, k_X5_fewest_31, k_X5_fewest_32, k_X5_fewest_34, k_X5_fewest_36, k_X5_fewest_37, k_X5_fewest_39, k_X5_fewest_41, k_X5_fewest_44, k_X5_fewest_47, k_X5_fewest_48, k_X5_fewest_50, k_X5_fewest_53, k_X5_fewest_56, k_X5_fewest_58, k_X5_fewest_61, k_X5_fewest_62, k_X5_fewest_65, k_X5_fewest_66, k_X5_fewest_68, k_X5_fewest_71, k_X5_fewest_72, k_X5_fewest_75, k_X5_fewest_76, k_X5_fewest_79, k_X5_fewest_80, k_X5_fewest_82, k_X5_fewest_84, k_X5_fewest_87, k_X5_fewest_89, k_X5_fewest_91, k_X5_fewest_94, k_X5_fewest_96, k_X5_fewest_99, k_X5_fewest_101, k_X5_fewest_104, k_X5_fewest_107, k_X5_fewest_109, k_X5_fewest_112, k_X5_fewest_114, k_X5_fewest_116, k_X5_fewest_119, k_X5_fewest_122, k_X5_fewest_124, k_X5_fewest_126, k_X5_fewest_129, k_X5_fewest_130, k_X5_fewest_131, k_X5_fewest_134, k_X5_fewest_136, k_X5_fewest_139, k_X5_fewest_141, k_X5_fewest_144, wp1, wp_s, cutIn, kont, Nat.reduceSub, Nat.reduceAdd, nth, o_const, o_lconst, o_ref, o_iload, o_lload, o_aload, o_istore, o_lstore, o_astore, o_iinc, o_bin, o_div, o_un, o_lbin, o_lsh, o_lcmp, o_i2l, o_l2i, o_if, o_icmp, o_goto, o_dup, o_dup2, o_pop, fav, o_getf, o_putI, o_putZ, o_putL, o_ald, o_ast, o_alen, popn, rst, o_callV, o_callT, o_callS, swx, o_sw, o_ret, o_iret, o_zret, o_cret, o_lret, o_aret, lg, lput, lput2, ls1, isL, entL, wsum, rdI1, rdI2, rdA1, rdA21, rdA22, rdL1, rdL22, rdL21, upN_at, rep, sh_0, F_0_0, F_0_1, F_0_2, F_0_3, F_0_4, F_0_5, F_0_6, F_0_7, F_0_8, sh_1, F_1_0, F_1_1, F_1_2, F_1_3, F_1_4, F_1_5, sh_3, F_3_0, F_3_1, F_3_2, F_3_3, F_3_4, F_3_5, sh_5, F_5_0, F_5_1, F_5_2, F_5_3, F_5_4, F_5_5, F_5_6, F_5_7, F_5_8, sh_12, F_12_0, F_12_1, F_12_2, F_12_3, F_12_4, F_12_5, sh_14, F_14_0, F_14_1, F_14_2, F_14_3, F_14_4, F_14_5, F_14_6, F_14_7, F_14_8, sh_21, F_21_0, F_21_1, F_21_2, F_21_3, F_21_4, F_21_5, F_21_6, F_21_7, F_21_8, sh_28, F_28_0, F_28_1, F_28_2, F_28_3, F_28_4, F_28_5, F_28_6, F_28_7, F_28_8, sh_35, F_35_0, sh_39, F_39_0, F_39_1, F_39_2, F_39_3, F_39_4, F_39_5, F_39_6, F_39_7, F_39_8, F_39_9, F_39_10, F_39_11, F_39_12, F_39_13, A_2, A_4, A_6, A_7, A_8, A_9, A_10, A_11, A_13, A_15, A_16, A_17, A_18, A_19, A_20, A_22, A_23, A_24, A_25, A_26, A_27, A_29, A_30, A_31, A_32, A_33, A_34, A_36, A_37, A_38, A_40, A_41, A_42, A_43, A_44, A_45, A_46, A_47]
        simp (config := { decide := true }) only [true_implies, false_implies, and_true, true_and, not_true_eq_false, not_false_eq_true, forall_const]
        refine ⟨z, 0, 1, rfl, ?_⟩
        unfold pz
        rw [i01]
        refine ⟨fun w3 => ?_, fun w3 => ?_⟩
        · obtain ⟨lim, rfl, hlim⟩ := rg (by omega) w2
          dsimp only [k_X5_fewest_0, k_X5_fewest_1, k_X5_fewest_2, k_X5_fewest_5, k_X5_fewest_8, k_X5_fewest_11, k_X5_fewest_12, k_X5_fewest_13, k_X5_fewest_15, k_X5_fewest_18, k_X5_fewest_21, k_X5_fewest_22, k_X5_fewest_23, k_X5_fewest_24, k_X5_fewest_27, k_X5_fewest_30, k_X5_fewest_31, k_X5_fewest_32, k_X5_fewest_34, k_X5_fewest_36, k_X5_fewest_37, k_X5_fewest_39, k_X5_fewest_41, k_X5_fewest_44, k_X5_fewest_47, k_X5_fewest_48, k_X5_fewest_50, k_X5_fewest_53, k_X5_fewest_56, k_X5_fewest_58, k_X5_fewest_61, k_X5_fewest_62, k_X5_fewest_65, k_X5_fewest_66, k_X5_fewest_68, k_X5_fewest_71, k_X5_fewest_72, k_X5_fewest_75, k_X5_fewest_76, k_X5_fewest_79, k_X5_fewest_80, k_X5_fewest_82, k_X5_fewest_84, k_X5_fewest_87, k_X5_fewest_89, k_X5_fewest_91, k_X5_fewest_94, k_X5_fewest_96, k_X5_fewest_99, k_X5_fewest_101, k_X5_fewest_104, k_X5_fewest_107, k_X5_fewest_109, k_X5_fewest_112, k_X5_fewest_114, k_X5_fewest_116, k_X5_fewest_119, k_X5_fewest_122, k_X5_fewest_124, k_X5_fewest_126, k_X5_fewest_129, k_X5_fewest_130, k_X5_fewest_131, k_X5_fewest_134, k_X5_fewest_136, k_X5_fewest_139, k_X5_fewest_141, k_X5_fewest_144, wp1, wp_s, cutIn, kont, Nat.reduceSub, Nat.reduceAdd, nth, o_const, o_lconst, o_ref, o_iload, o_lload, o_aload, o_istore, o_lstore, o_astore, o_iinc, o_bin, o_div, o_un, o_lbin, o_lsh, o_lcmp, o_i2l, o_l2i, o_if, o_icmp, o_goto, o_dup, o_dup2, o_pop, fav, o_getf, o_putI, o_putZ, o_putL, o_ald, o_ast, o_alen, popn, rst, o_callV, o_callT, o_callS, swx, o_sw, o_ret, o_iret, o_zret, o_cret, o_lret, o_aret, lg, lput, lput2, ls1, isL, entL, wsum, rdI1, rdI2, rdA1, rdA21, rdA22, rdL1, rdL22, rdL21, upN_at, rep, sh_0, F_0_0, F_0_1, F_0_2, F_0_3, F_0_4, F_0_5, F_0_6, F_0_7, F_0_8, sh_1, F_1_0, F_1_1, F_1_2, F_1_3, F_1_4, F_1_5, sh_3, F_3_0, F_3_1, F_3_2, F_3_3, F_3_4, F_3_5, sh_5, F_5_0, F_5_1, F_5_2, F_5_3, F_5_4, F_5_5, F_5_6, F_5_7, F_5_8, sh_12, F_12_0, F_12_1, F_12_2, F_12_3, F_12_4, F_12_5, sh_14, F_14_0, F_14_1, F_14_2, F_14_3, F_14_4, F_14_5, F_14_6, F_14_7, F_14_8, sh_21, F_21_0, F_21_1, F_21_2, F_21_3, F_21_4, F_21_5, F_21_6, F_21_7, F_21_8, sh_28, F_28_0, F_28_1, F_28_2, F_28_3, F_28_4, F_28_5, F_28_6, F_28_7, F_28_8, sh_35, F_35_0, sh_39, F_39_0, F_39_1, F_39_2, F_39_3, F_39_4, F_39_5, F_39_6, F_39_7, F_39_8, F_39_9, F_39_10, F_39_11, F_39_12, F_39_13, A_2, A_4, A_6, A_7, A_8, A_9, A_10, A_11, A_13, A_15, A_16, A_17, A_18, A_19, A_20, A_22, A_23, A_24, A_25, A_26, A_27, A_29, A_30, A_31, A_32, A_33, A_34, A_36, A_37, A_38, A_40, A_41, A_42, A_43, A_44, A_45, A_46, A_47]
          simp (config := { decide := true }) only [true_implies, false_implies, and_true, true_and, not_true_eq_false, not_false_eq_true, forall_const]
          exact cut _ _ ⟨rfl, rfl, rfl, lim, 0, w1, rfl, hlim, w3, by omega, rfl, rfl⟩ (by omega) ⟨rfl, rfl, rfl, rfl, rfl, rfl, trivial⟩
        · dsimp only [k_X5_fewest_0, k_X5_fewest_1, k_X5_fewest_2, k_X5_fewest_5, k_X5_fewest_8, k_X5_fewest_11, k_X5_fewest_12, k_X5_fewest_13, k_X5_fewest_15, k_X5_fewest_18, k_X5_fewest_21, k_X5_fewest_22, k_X5_fewest_23, k_X5_fewest_24, k_X5_fewest_27, k_X5_fewest_30, k_X5_fewest_31, k_X5_fewest_32, k_X5_fewest_34, k_X5_fewest_36, k_X5_fewest_37, k_X5_fewest_39, k_X5_fewest_41, k_X5_fewest_44, k_X5_fewest_47, k_X5_fewest_48, k_X5_fewest_50, k_X5_fewest_53, k_X5_fewest_56, k_X5_fewest_58, k_X5_fewest_61, k_X5_fewest_62, k_X5_fewest_65, k_X5_fewest_66, k_X5_fewest_68, k_X5_fewest_71, k_X5_fewest_72, k_X5_fewest_75, k_X5_fewest_76, k_X5_fewest_79, k_X5_fewest_80, k_X5_fewest_82, k_X5_fewest_84, k_X5_fewest_87, k_X5_fewest_89, k_X5_fewest_91, k_X5_fewest_94, k_X5_fewest_96, k_X5_fewest_99, k_X5_fewest_101, k_X5_fewest_104, k_X5_fewest_107, k_X5_fewest_109, k_X5_fewest_112, k_X5_fewest_114, k_X5_fewest_116, k_X5_fewest_119, k_X5_fewest_122, k_X5_fewest_124, k_X5_fewest_126, k_X5_fewest_129, k_X5_fewest_130, k_X5_fewest_131, k_X5_fewest_134, k_X5_fewest_136, k_X5_fewest_139, k_X5_fewest_141, k_X5_fewest_144, wp1, wp_s, cutIn, kont, Nat.reduceSub, Nat.reduceAdd, nth, o_const, o_lconst, o_ref, o_iload, o_lload, o_aload, o_istore, o_lstore, o_astore, o_iinc, o_bin, o_div, o_un, o_lbin, o_lsh, o_lcmp, o_i2l, o_l2i, o_if, o_icmp, o_goto, o_dup, o_dup2, o_pop, fav, o_getf, o_putI, o_putZ, o_putL, o_ald, o_ast, o_alen, popn, rst, o_callV, o_callT, o_callS, swx, o_sw, o_ret, o_iret, o_zret, o_cret, o_lret, o_aret, lg, lput, lput2, ls1, isL, entL, wsum, rdI1, rdI2, rdA1, rdA21, rdA22, rdL1, rdL22, rdL21, upN_at, rep, sh_0, F_0_0, F_0_1, F_0_2, F_0_3, F_0_4, F_0_5, F_0_6, F_0_7, F_0_8, sh_1, F_1_0, F_1_1, F_1_2, F_1_3, F_1_4, F_1_5, sh_3, F_3_0, F_3_1, F_3_2, F_3_3, F_3_4, F_3_5, sh_5, F_5_0, F_5_1, F_5_2, F_5_3, F_5_4, F_5_5, F_5_6, F_5_7, F_5_8, sh_12, F_12_0, F_12_1, F_12_2, F_12_3, F_12_4, F_12_5, sh_14, F_14_0, F_14_1, F_14_2, F_14_3, F_14_4, F_14_5, F_14_6, F_14_7, F_14_8, sh_21, F_21_0, F_21_1, F_21_2, F_21_3, F_21_4, F_21_5, F_21_6, F_21_7, F_21_8, sh_28, F_28_0, F_28_1, F_28_2, F_28_3, F_28_4, F_28_5, F_28_6, F_28_7, F_28_8, sh_35, F_35_0, sh_39, F_39_0, F_39_1, F_39_2, F_39_3, F_39_4, F_39_5, F_39_6, F_39_7, F_39_8, F_39_9, F_39_10, F_39_11, F_39_12, F_39_13, A_2, A_4, A_6, A_7, A_8, A_9, A_10, A_11, A_13, A_15, A_16, A_17, A_18, A_19, A_20, A_22, A_23, A_24, A_25, A_26, A_27, A_29, A_30, A_31, A_32, A_33, A_34, A_36, A_37, A_38, A_40, A_41, A_42, A_43, A_44, A_45, A_46, A_47]
          simp (config := { decide := true }) only [true_implies, false_implies, and_true, true_and, not_true_eq_false, not_false_eq_true, forall_const]
          exact h1 fun w => w3 w.2.2
      · dsimp only [k_X5_fewest_0, k_X5_fewest_1, k_X5_fewest_2, k_X5_fewest_5, k_X5_fewest_8, k_X5_fewest_11, k_X5_fewest_12, k_X5_fewest_13, k_X5_fewest_15, k_X5_fewest_18, k_X5_fewest_21, k_X5_fewest_22, k_X5_fewest_23, k_X5_fewest_24, k_X5_fewest_27, k_X5_fewest_30, k_X5_fewest_31, k_X5_fewest_32, k_X5_fewest_34, k_X5_fewest_36, k_X5_fewest_37, k_X5_fewest_39, k_X5_fewest_41, k_X5_fewest_44, k_X5_fewest_47, k_X5_fewest_48, k_X5_fewest_50, k_X5_fewest_53, k_X5_fewest_56, k_X5_fewest_58, k_X5_fewest_61, k_X5_fewest_62, k_X5_fewest_65, k_X5_fewest_66, k_X5_fewest_68, k_X5_fewest_71, k_X5_fewest_72, k_X5_fewest_75, k_X5_fewest_76, k_X5_fewest_79, k_X5_fewest_80, k_X5_fewest_82, k_X5_fewest_84, k_X5_fewest_87, k_X5_fewest_89, k_X5_fewest_91, k_X5_fewest_94, k_X5_fewest_96, k_X5_fewest_99, k_X5_fewest_101, k_X5_fewest_104, k_X5_fewest_107, k_X5_fewest_109, k_X5_fewest_112, k_X5_fewest_114, k_X5_fewest_116, k_X5_fewest_119, k_X5_fewest_122, k_X5_fewest_124, k_X5_fewest_126, k_X5_fewest_129, k_X5_fewest_130, k_X5_fewest_131, k_X5_fewest_134, k_X5_fewest_136, k_X5_fewest_139, k_X5_fewest_141, k_X5_fewest_144, wp1, wp_s, cutIn, kont, Nat.reduceSub, Nat.reduceAdd, nth, o_const, o_lconst, o_ref, o_iload, o_lload, o_aload, o_istore, o_lstore, o_astore, o_iinc, o_bin, o_div, o_un, o_lbin, o_lsh, o_lcmp, o_i2l, o_l2i, o_if, o_icmp, o_goto, o_dup, o_dup2, o_pop, fav, o_getf, o_putI, o_putZ, o_putL, o_ald, o_ast, o_alen, popn, rst, o_callV, o_callT, o_callS, swx, o_sw, o_ret, o_iret, o_zret, o_cret, o_lret, o_aret, lg, lput, lput2, ls1, isL, entL, wsum, rdI1, rdI2, rdA1, rdA21, rdA22, rdL1, rdL22, rdL21, upN_at, rep, sh_0, F_0_0, F_0_1, F_0_2, F_0_3, F_0_4, F_0_5, F_0_6, F_0_7, F_0_8, sh_1, F_1_0, F_1_1, F_1_2, F_1_3, F_1_4, F_1_5, sh_3, F_3_0, F_3_1, F_3_2, F_3_3, F_3_4, F_3_5, sh_5, F_5_0, F_5_1, F_5_2, F_5_3, F_5_4, F_5_5, F_5_6, F_5_7, F_5_8, sh_12, F_12_0, F_12_1, F_12_2, F_12_3, F_12_4, F_12_5, sh_14, F_14_0, F_14_1, F_14_2, F_14_3, F_14_4, F_14_5, F_14_6, F_14_7, F_14_8, sh_21, F_21_0, F_21_1, F_21_2, F_21_3, F_21_4, F_21_5, F_21_6, F_21_7, F_21_8, sh_28, F_28_0, F_28_1, F_28_2, F_28_3, F_28_4, F_28_5, F_28_6, F_28_7, F_28_8, sh_35, F_35_0, sh_39, F_39_0, F_39_1, F_39_2, F_39_3, F_39_4, F_39_5, F_39_6, F_39_7, F_39_8, F_39_9, F_39_10, F_39_11, F_39_12, F_39_13, A_2, A_4, A_6, A_7, A_8, A_9, A_10, A_11, A_13, A_15, A_16, A_17, A_18, A_19, A_20, A_22, A_23, A_24, A_25, A_26, A_27, A_29, A_30, A_31, A_32, A_33, A_34, A_36, A_37, A_38, A_40, A_41, A_42, A_43, A_44, A_45, A_46, A_47]
        simp (config := { decide := true }) only [true_implies, false_implies, and_true, true_and, not_true_eq_false, not_false_eq_true, forall_const]
        exact h1 fun w => w2 w.2.1
    · dsimp only [k_X5_fewest_0, k_X5_fewest_1, k_X5_fewest_2, k_X5_fewest_5, k_X5_fewest_8, k_X5_fewest_11, k_X5_fewest_12, k_X5_fewest_13, k_X5_fewest_15, k_X5_fewest_18, k_X5_fewest_21, k_X5_fewest_22, k_X5_fewest_23, k_X5_fewest_24, k_X5_fewest_27, k_X5_fewest_30, k_X5_fewest_31, k_X5_fewest_32, k_X5_fewest_34, k_X5_fewest_36, k_X5_fewest_37, k_X5_fewest_39, k_X5_fewest_41, k_X5_fewest_44, k_X5_fewest_47, k_X5_fewest_48, k_X5_fewest_50, k_X5_fewest_53, k_X5_fewest_56, k_X5_fewest_58, k_X5_fewest_61, k_X5_fewest_62, k_X5_fewest_65, k_X5_fewest_66, k_X5_fewest_68, k_X5_fewest_71, k_X5_fewest_72, k_X5_fewest_75, k_X5_fewest_76, k_X5_fewest_79, k_X5_fewest_80, k_X5_fewest_82, k_X5_fewest_84, k_X5_fewest_87, k_X5_fewest_89, k_X5_fewest_91, k_X5_fewest_94, k_X5_fewest_96, k_X5_fewest_99, k_X5_fewest_101, k_X5_fewest_104, k_X5_fewest_107, k_X5_fewest_109, k_X5_fewest_112, k_X5_fewest_114, k_X5_fewest_116, k_X5_fewest_119, k_X5_fewest_122, k_X5_fewest_124, k_X5_fewest_126, k_X5_fewest_129, k_X5_fewest_130, k_X5_fewest_131, k_X5_fewest_134, k_X5_fewest_136, k_X5_fewest_139, k_X5_fewest_141, k_X5_fewest_144, wp1, wp_s, cutIn, kont, Nat.reduceSub, Nat.reduceAdd, nth, o_const, o_lconst, o_ref, o_iload, o_lload, o_aload, o_istore, o_lstore, o_astore, o_iinc, o_bin, o_div, o_un, o_lbin, o_lsh, o_lcmp, o_i2l, o_l2i, o_if, o_icmp, o_goto, o_dup, o_dup2, o_pop, fav, o_getf, o_putI, o_putZ, o_putL, o_ald, o_ast, o_alen, popn, rst, o_callV, o_callT, o_callS, swx, o_sw, o_ret, o_iret, o_zret, o_cret, o_lret, o_aret, lg, lput, lput2, ls1, isL, entL, wsum, rdI1, rdI2, rdA1, rdA21, rdA22, rdL1, rdL22, rdL21, upN_at, rep, sh_0, F_0_0, F_0_1, F_0_2, F_0_3, F_0_4, F_0_5, F_0_6, F_0_7, F_0_8, sh_1, F_1_0, F_1_1, F_1_2, F_1_3, F_1_4, F_1_5, sh_3, F_3_0, F_3_1, F_3_2, F_3_3, F_3_4, F_3_5, sh_5, F_5_0, F_5_1, F_5_2, F_5_3, F_5_4, F_5_5, F_5_6, F_5_7, F_5_8, sh_12, F_12_0, F_12_1, F_12_2, F_12_3, F_12_4, F_12_5, sh_14, F_14_0, F_14_1, F_14_2, F_14_3, F_14_4, F_14_5, F_14_6, F_14_7, F_14_8, sh_21, F_21_0, F_21_1, F_21_2, F_21_3, F_21_4, F_21_5, F_21_6, F_21_7, F_21_8, sh_28, F_28_0, F_28_1, F_28_2, F_28_3, F_28_4, F_28_5, F_28_6, F_28_7, F_28_8, sh_35, F_35_0, sh_39, F_39_0, F_39_1, F_39_2, F_39_3, F_39_4, F_39_5, F_39_6, F_39_7, F_39_8, F_39_9, F_39_10, F_39_11, F_39_12, F_39_13, A_2, A_4, A_6, A_7, A_8, A_9, A_10, A_11, A_13, A_15, A_16, A_17, A_18, A_19, A_20, A_22, A_23, A_24, A_25, A_26, A_27, A_29, A_30, A_31, A_32, A_33, A_34, A_36, A_37, A_38, A_40, A_41, A_42, A_43, A_44, A_45, A_46, A_47]
      simp (config := { decide := true }) only [true_implies, false_implies, and_true, true_and, not_true_eq_false, not_false_eq_true, forall_const]
      exact h1 fun w => w1 w.1
set_option maxRecDepth 100000 in
theorem v_X5_odds : ∀ as M post, S_X5_odds as M post → wsum as ≤ 9 ∧ RUN (T_X5_odds post) 0 (entL 9 as) [] M := by
  rintro as M post ⟨x, y, z, n, c, p, r, h0, lk, rfl, hX, h1, h2⟩
  have hX0 := hX
  obtain ⟨hn, hn8, hc, hc6, hp, hp4, hr, hhk, hl⟩ := hX
  have hul := us_lt h0 hn8
  have hrl : ∀ k, k < n → r k < 512 := fun k hk => (hr k hk).2
  refine ⟨by show 4 ≤ 9; omega, run_of [41, 128] (fun μ pc lv st M' => st = [] ∧ M' = M ∧ ∃ k row, x = nI k ∧ k ≤ 8 ∧ y = nI row ∧ row < 512 ∧ (z = 0 ∨ z = 1) ∧ ((pc = 41 ∧ ∃ i, i ≤ 256 ∧ 3000 - i = μ ∧ lv = [some (VR 39), some (VI x), some (VI y), some (VI z), some (VI (nI (ct (oG r n (us h0 n) k row) i))), some (VI (nI (ct (oS (us h0 n) k) i))), some (VI (nI i)), none, none]) ∨ (pc = 128 ∧ ∃ a b, a < 1000 ∧ b < 1000 ∧ Nat.gcd a b = Nat.gcd (ct (oG r n (us h0 n) k row) (us h0 n + 1)) (ct (oS (us h0 n) k) (us h0 n + 1)) ∧ b = μ ∧ lv = [some (VR 39), some (VI x), some (VI y), some (VI z), some (VI (nI (ct (oG r n (us h0 n) k row) (us h0 n + 1)))), some (VI (nI (ct (oS (us h0 n) k) (us h0 n + 1)))), some (VI (nI a)), some (VI (nI b)), none]))) 80 4000 ?_ ?_⟩
  · rintro μ pc lv st M' ⟨rfl, rfl, k, row, rfl, hk, rfl, hrow, hz, ⟨rfl, i, hi, rfl, rfl⟩ | ⟨rfl, a, b, ha, hb, hg, rfl, rfl⟩⟩
    · have hoS : oS (us h0 n) k i = true ↔ (i &&& us h0 n = i ∧ cn i 9 = k) := by unfold oS; simp only [Bool.and_eq_true, decide_eq_true_eq]
      have hoG : oG r n (us h0 n) k row i = true ↔ (i &&& us h0 n = i ∧ cn i 9 = k) ∧ xrN r i n = row := by unfold oG; rw [Bool.and_eq_true, hoS]; simp only [decide_eq_true_eq]
      have nS : ¬ (i &&& us h0 n = i ∧ cn i 9 = k) → ct (oS (us h0 n) k) (i + 1) = ct (oS (us h0 n) k) i ∧ ct (oG r n (us h0 n) k row) (i + 1) = ct (oG r n (us h0 n) k row) i := fun w => by
        rw [ct, ct, if_neg (fun e => w (hoS.mp e)), if_neg (fun e => w (hoG.mp e).1)]; exact ⟨rfl, rfl⟩
      have yS : (i &&& us h0 n = i ∧ cn i 9 = k) → ct (oS (us h0 n) k) (i + 1) = ct (oS (us h0 n) k) i + 1 := fun w => by
        rw [ct, if_pos (hoS.mpr w)]
      have yG : (i &&& us h0 n = i ∧ cn i 9 = k) → xrN r i n = row → ct (oG r n (us h0 n) k row) (i + 1) = ct (oG r n (us h0 n) k row) i + 1 := fun w w2 => by
        rw [ct, if_pos (hoG.mpr ⟨w, w2⟩)]
      have nG : xrN r i n ≠ row → ct (oG r n (us h0 n) k row) (i + 1) = ct (oG r n (us h0 n) k row) i := fun w => by
        rw [ct, if_neg (fun e => w (hoG.mp e).2)]; rfl
      have hcs := ct_le (oS (us h0 n) k) i
      have hcg := ct_le (oG r n (us h0 n) k row) i
      have a0 : ∀ q : Nat, nI q + 0 = nI q := fun q => by rw [show (0 : Int32) = nI 0 from rfl, nI_add, Nat.add_zero]
      have hci : cn i 9 < 1000 := by have := cn_le i 9; omega
      dsimp only [k_X5_odds_0, k_X5_odds_1, k_X5_odds_2, k_X5_odds_4, k_X5_odds_7, k_X5_odds_10, k_X5_odds_11, k_X5_odds_12, k_X5_odds_15, k_X5_odds_18, k_X5_odds_21, k_X5_odds_22, k_X5_odds_23, k_X5_odds_24, k_X5_odds_27, k_X5_odds_30, k_X5_odds_31, k_X5_odds_32, k_X5_odds_33, k_X5_odds_35, k_X5_odds_36, k_X5_odds_38, k_X5_odds_39, k_X5_odds_41, k_X5_odds_43, k_X5_odds_46, k_X5_odds_49, k_X5_odds_50, k_X5_odds_52, k_X5_odds_55, k_X5_odds_58, k_X5_odds_60, k_X5_odds_63, k_X5_odds_64, k_X5_odds_67, k_X5_odds_68, k_X5_odds_71, k_X5_odds_72, k_X5_odds_74, k_X5_odds_76, k_X5_odds_78, k_X5_odds_81, k_X5_odds_82, k_X5_odds_85, k_X5_odds_86, k_X5_odds_87, k_X5_odds_89, k_X5_odds_91, k_X5_odds_93, k_X5_odds_96, k_X5_odds_97, k_X5_odds_99, k_X5_odds_102, k_X5_odds_103, k_X5_odds_106, k_X5_odds_107, k_X5_odds_110, k_X5_odds_111, k_X5_odds_112, k_X5_odds_114, k_X5_odds_117, k_X5_odds_120, k_X5_odds_122, k_X5_odds_124, k_X5_odds_126, k_X5_odds_128, k_X5_odds_130, k_X5_odds_133, k_X5_odds_135, k_X5_odds_137, k_X5_odds_138, k_X5_odds_140, k_X5_odds_142, k_X5_odds_144, k_X5_odds_146, k_X5_odds_148, k_X5_odds_151, k_X5_odds_153, k_X5_odds_156, k_X5_odds_157, k_X5_odds_160, k_X5_odds_161, k_X5_odds_164, k_X5_odds_166, k_X5_odds_168, k_X5_odds_169, k_X5_odds_172, k_X5_odds_174, k_X5_odds_176, k_X5_odds_177, wp1, wp_s, cutIn, kont, Nat.reduceSub, Nat.reduceAdd, nth, o_const, o_lconst, o_ref, o_iload, o_lload, o_aload, o_istore, o_lstore, o_astore, o_iinc, o_bin, o_div, o_un, o_lbin, o_lsh, o_lcmp, o_i2l, o_l2i, o_if, o_icmp, o_goto, o_dup, o_dup2, o_pop, fav, o_getf, o_putI, o_putZ, o_putL, o_ald, o_ast, o_alen, popn, rst, o_callV, o_callT, o_callS, swx, o_sw, o_ret, o_iret, o_zret, o_cret, o_lret, o_aret, lg, lput, lput2, ls1, isL, entL, wsum, rdI1, rdI2, rdA1, rdA21, rdA22, rdL1, rdL22, rdL21, upN_at, rep, sh_0, F_0_0, F_0_1, F_0_2, F_0_3, F_0_4, F_0_5, F_0_6, F_0_7, F_0_8, sh_1, F_1_0, F_1_1, F_1_2, F_1_3, F_1_4, F_1_5, sh_3, F_3_0, F_3_1, F_3_2, F_3_3, F_3_4, F_3_5, sh_5, F_5_0, F_5_1, F_5_2, F_5_3, F_5_4, F_5_5, F_5_6, F_5_7, F_5_8, sh_12, F_12_0, F_12_1, F_12_2, F_12_3, F_12_4, F_12_5, sh_14, F_14_0, F_14_1, F_14_2, F_14_3, F_14_4, F_14_5, F_14_6, F_14_7, F_14_8, sh_21, F_21_0, F_21_1, F_21_2, F_21_3, F_21_4, F_21_5, F_21_6, F_21_7, F_21_8, sh_28, F_28_0, F_28_1, F_28_2, F_28_3, F_28_4, F_28_5, F_28_6, F_28_7, F_28_8, sh_35, F_35_0, sh_39, F_39_0, F_39_1, F_39_2, F_39_3, F_39_4, F_39_5, F_39_6, F_39_7, F_39_8, F_39_9, F_39_10, F_39_11, F_39_12, F_39_13, A_2, A_4, A_6, A_7, A_8, A_9, A_10, A_11, A_13, A_15, A_16, A_17, A_18, A_19, A_20, A_22, A_23, A_24, A_25, A_26, A_27, A_29, A_30, A_31, A_32, A_33, A_34, A_36, A_37, A_38, A_40, A_41, A_42, A_43, A_44, A_45, A_46, A_47]
      rw [show (256 : Int32) = nI 256 from rfl]
      simp (disch := omega) only [nI_leI, nI_ltI, nI_eq, nI_1, nI_add, one_shl, nI_or, nI_xor, nI_and, bit_0, bit_1, true_or, or_true, true_and, and_true, eq_self, not_true_eq_false, not_false_eq_true, forall_const]
      refine ⟨fun w1 => ?_, fun w1 => ⟨nI i, n, c, p, r, h0, lk, rfl, hX0, fun w2 => ?_, fun w2 => ?_⟩⟩
      · have e : i = 256 := by omega
        subst e
        obtain ⟨d, hd⟩ := Nat.exists_eq_add_of_le (show us h0 n + 1 ≤ 256 by omega)
        have out : ∀ j, us h0 n + 1 ≤ j → ¬ j &&& us h0 n = j := fun j hj e => by
          have : j ≤ us h0 n := by rw [← e]; exact Nat.and_le_right
          omega
        have u1 := ct_up (P := oS (us h0 n) k) (a := us h0 n + 1) (fun j hj => by unfold oS; rw [decide_eq_false (out j hj)]; rfl) d
        have u2 := ct_up (P := oG r n (us h0 n) k row) (a := us h0 n + 1) (fun j hj => by unfold oG oS; rw [decide_eq_false (out j hj)]; rfl) d
        rw [← hd] at u1 u2
        exact cut _ _ ⟨rfl, rfl, k, row, rfl, hk, rfl, hrow, hz, Or.inr ⟨rfl, ct (oG r n (us h0 n) k row) (us h0 n + 1), ct (oS (us h0 n) k) (us h0 n + 1), by rw [← u2]; omega, by rw [← u1]; omega, rfl, rfl, rfl⟩⟩ (by rw [← u1]; omega) ⟨rfl, rfl, rfl, rfl, vi_eq (by rw [u2]), vi_eq (by rw [u1]), vi_eq (by rw [u2]), vi_eq (by rw [u1]), trivial⟩
      · rw [In_nI (by omega) (by omega)] at w2
        have hxl := xr_lt (f := r) (T := i) n hrl
        dsimp only [k_X5_odds_0, k_X5_odds_1, k_X5_odds_2, k_X5_odds_4, k_X5_odds_7, k_X5_odds_10, k_X5_odds_11, k_X5_odds_12, k_X5_odds_15, k_X5_odds_18, k_X5_odds_21, k_X5_odds_22, k_X5_odds_23, k_X5_odds_24, k_X5_odds_27, k_X5_odds_30, k_X5_odds_31, k_X5_odds_32, k_X5_odds_33, k_X5_odds_35, k_X5_odds_36, k_X5_odds_38, k_X5_odds_39, k_X5_odds_41, k_X5_odds_43, k_X5_odds_46, k_X5_odds_49, k_X5_odds_50, k_X5_odds_52, k_X5_odds_55, k_X5_odds_58, k_X5_odds_60, k_X5_odds_63, k_X5_odds_64, k_X5_odds_67, k_X5_odds_68, k_X5_odds_71, k_X5_odds_72, k_X5_odds_74, k_X5_odds_76, k_X5_odds_78, k_X5_odds_81, k_X5_odds_82, k_X5_odds_85, k_X5_odds_86, k_X5_odds_87, k_X5_odds_89, k_X5_odds_91, k_X5_odds_93, k_X5_odds_96, k_X5_odds_97, k_X5_odds_99, k_X5_odds_102, k_X5_odds_103, k_X5_odds_106, k_X5_odds_107, k_X5_odds_110, k_X5_odds_111, k_X5_odds_112, k_X5_odds_114, k_X5_odds_117, k_X5_odds_120, k_X5_odds_122, k_X5_odds_124, k_X5_odds_126, k_X5_odds_128, k_X5_odds_130, k_X5_odds_133, k_X5_odds_135, k_X5_odds_137, k_X5_odds_138, k_X5_odds_140, k_X5_odds_142, k_X5_odds_144, k_X5_odds_146, k_X5_odds_148, k_X5_odds_151, k_X5_odds_153, k_X5_odds_156, k_X5_odds_157, k_X5_odds_160, k_X5_odds_161, k_X5_odds_164, k_X5_odds_166, k_X5_odds_168, k_X5_odds_169, k_X5_odds_172, k_X5_odds_174, k_X5_odds_176, k_X5_odds_177, wp1, wp_s, cutIn, kont, Nat.reduceSub, Nat.reduceAdd, nth, o_const, o_lconst, o_ref, o_iload, o_lload, o_aload, o_istore, o_lstore, o_astore, o_iinc, o_bin, o_div, o_un, o_lbin, o_lsh, o_lcmp, o_i2l, o_l2i, o_if, o_icmp, o_goto, o_dup, o_dup2, o_pop, fav, o_getf, o_putI, o_putZ, o_putL, o_ald, o_ast, o_alen, popn, rst, o_callV, o_callT, o_callS, swx, o_sw, o_ret, o_iret, o_zret, o_cret, o_lret, o_aret, lg, lput, lput2, ls1, isL, entL, wsum, rdI1, rdI2, rdA1, rdA21, rdA22, rdL1, rdL22, rdL21, upN_at, rep, sh_0, F_0_0, F_0_1, F_0_2, F_0_3, F_0_4, F_0_5, F_0_6, F_0_7, F_0_8, sh_1, F_1_0, F_1_1, F_1_2, F_1_3, F_1_4, F_1_5, sh_3, F_3_0, F_3_1, F_3_2, F_3_3, F_3_4, F_3_5, sh_5, F_5_0, F_5_1, F_5_2, F_5_3, F_5_4, F_5_5, F_5_6, F_5_7, F_5_8, sh_12, F_12_0, F_12_1, F_12_2, F_12_3, F_12_4, F_12_5, sh_14, F_14_0, F_14_1, F_14_2, F_14_3, F_14_4, F_14_5, F_14_6, F_14_7, F_14_8, sh_21, F_21_0, F_21_1, F_21_2, F_21_3, F_21_4, F_21_5, F_21_6, F_21_7, F_21_8, sh_28, F_28_0, F_28_1, F_28_2, F_28_3, F_28_4, F_28_5, F_28_6, F_28_7, F_28_8, sh_35, F_35_0, sh_39, F_39_0, F_39_1, F_39_2, F_39_3, F_39_4, F_39_5, F_39_6, F_39_7, F_39_8, F_39_9, F_39_10, F_39_11, F_39_12, F_39_13, A_2, A_4, A_6, A_7, A_8, A_9, A_10, A_11, A_13, A_15, A_16, A_17, A_18, A_19, A_20, A_22, A_23, A_24, A_25, A_26, A_27, A_29, A_30, A_31, A_32, A_33, A_34, A_36, A_37, A_38, A_40, A_41, A_42, A_43, A_44, A_45, A_46, A_47]
        simp (config := { decide := true }) only [true_implies, false_implies, and_true, true_and, not_true_eq_false, not_false_eq_true, forall_const]
        refine ⟨i, rfl, by omega, ?_⟩
        dsimp only [k_X5_odds_0, k_X5_odds_1, k_X5_odds_2, k_X5_odds_4, k_X5_odds_7, k_X5_odds_10, k_X5_odds_11, k_X5_odds_12, k_X5_odds_15, k_X5_odds_18, k_X5_odds_21, k_X5_odds_22, k_X5_odds_23, k_X5_odds_24, k_X5_odds_27, k_X5_odds_30, k_X5_odds_31, k_X5_odds_32, k_X5_odds_33, k_X5_odds_35, k_X5_odds_36, k_X5_odds_38, k_X5_odds_39, k_X5_odds_41, k_X5_odds_43, k_X5_odds_46, k_X5_odds_49, k_X5_odds_50, k_X5_odds_52, k_X5_odds_55, k_X5_odds_58, k_X5_odds_60, k_X5_odds_63, k_X5_odds_64, k_X5_odds_67, k_X5_odds_68, k_X5_odds_71, k_X5_odds_72, k_X5_odds_74, k_X5_odds_76, k_X5_odds_78, k_X5_odds_81, k_X5_odds_82, k_X5_odds_85, k_X5_odds_86, k_X5_odds_87, k_X5_odds_89, k_X5_odds_91, k_X5_odds_93, k_X5_odds_96, k_X5_odds_97, k_X5_odds_99, k_X5_odds_102, k_X5_odds_103, k_X5_odds_106, k_X5_odds_107, k_X5_odds_110, k_X5_odds_111, k_X5_odds_112, k_X5_odds_114, k_X5_odds_117, k_X5_odds_120, k_X5_odds_122, k_X5_odds_124, k_X5_odds_126, k_X5_odds_128, k_X5_odds_130, k_X5_odds_133, k_X5_odds_135, k_X5_odds_137, k_X5_odds_138, k_X5_odds_140, k_X5_odds_142, k_X5_odds_144, k_X5_odds_146, k_X5_odds_148, k_X5_odds_151, k_X5_odds_153, k_X5_odds_156, k_X5_odds_157, k_X5_odds_160, k_X5_odds_161, k_X5_odds_164, k_X5_odds_166, k_X5_odds_168, k_X5_odds_169, k_X5_odds_172, k_X5_odds_174, k_X5_odds_176, k_X5_odds_177, wp1, wp_s, cutIn, kont, Nat.reduceSub, Nat.reduceAdd, nth, o_const, o_lconst, o_ref, o_iload, o_lload, o_aload, o_istore, o_lstore, o_astore, o_iinc, o_bin, o_div, o_un, o_lbin, o_lsh, o_lcmp, o_i2l, o_l2i, o_if, o_icmp, o_goto, o_dup, o_dup2, o_pop, fav, o_getf, o_putI, o_putZ, o_putL, o_ald, o_ast, o_alen, popn, rst, o_callV, o_callT, o_callS, swx, o_sw, o_ret, o_iret, o_zret, o_cret, o_lret, o_aret, lg, lput, lput2, ls1, isL, entL, wsum, rdI1, rdI2, rdA1, rdA21, rdA22, rdL1, rdL22, rdL21, upN_at, rep, sh_0, F_0_0, F_0_1, F_0_2, F_0_3, F_0_4, F_0_5, F_0_6, F_0_7, F_0_8, sh_1, F_1_0, F_1_1, F_1_2, F_1_3, F_1_4, F_1_5, sh_3, F_3_0, F_3_1, F_3_2, F_3_3, F_3_4, F_3_5, sh_5, F_5_0, F_5_1, F_5_2, F_5_3, F_5_4, F_5_5, F_5_6, F_5_7, F_5_8, sh_12, F_12_0, F_12_1, F_12_2, F_12_3, F_12_4, F_12_5, sh_14, F_14_0, F_14_1, F_14_2, F_14_3, F_14_4, F_14_5, F_14_6, F_14_7, F_14_8, sh_21, F_21_0, F_21_1, F_21_2, F_21_3, F_21_4, F_21_5, F_21_6, F_21_7, F_21_8, sh_28, F_28_0, F_28_1, F_28_2, F_28_3, F_28_4, F_28_5, F_28_6, F_28_7, F_28_8, sh_35, F_35_0, sh_39, F_39_0, F_39_1, F_39_2, F_39_3, F_39_4, F_39_5, F_39_6, F_39_7, F_39_8, F_39_9, F_39_10, F_39_11, F_39_12, F_39_13, A_2, A_4, A_6, A_7, A_8, A_9, A_10, A_11, A_13, A_15, A_16, A_17, A_18, A_19, A_20, A_22, A_23, A_24, A_25, A_26, A_27, A_29, A_30, A_31, A_32, A_33, A_34, A_36, A_37, A_38, A_40, A_41, A_42, A_43, A_44, A_45, A_46, A_47]
        rw [nI_eq (by omega) (by omega)]
        simp (config := { decide := true }) only [true_implies, false_implies, and_true, true_and, not_true_eq_false, not_false_eq_true, forall_const]
        refine ⟨fun w3 => ⟨i, n, c, p, r, h0, lk, rfl, sub_lt w2 (us_lt2 h0 n), hX0, ?_⟩, fun w3 => ?_⟩
        · dsimp only [k_X5_odds_0, k_X5_odds_1, k_X5_odds_2, k_X5_odds_4, k_X5_odds_7, k_X5_odds_10, k_X5_odds_11, k_X5_odds_12, k_X5_odds_15, k_X5_odds_18, k_X5_odds_21, k_X5_odds_22, k_X5_odds_23, k_X5_odds_24, k_X5_odds_27, k_X5_odds_30, k_X5_odds_31, k_X5_odds_32, k_X5_odds_33, k_X5_odds_35, k_X5_odds_36, k_X5_odds_38, k_X5_odds_39, k_X5_odds_41, k_X5_odds_43, k_X5_odds_46, k_X5_odds_49, k_X5_odds_50, k_X5_odds_52, k_X5_odds_55, k_X5_odds_58, k_X5_odds_60, k_X5_odds_63, k_X5_odds_64, k_X5_odds_67, k_X5_odds_68, k_X5_odds_71, k_X5_odds_72, k_X5_odds_74, k_X5_odds_76, k_X5_odds_78, k_X5_odds_81, k_X5_odds_82, k_X5_odds_85, k_X5_odds_86, k_X5_odds_87, k_X5_odds_89, k_X5_odds_91, k_X5_odds_93, k_X5_odds_96, k_X5_odds_97, k_X5_odds_99, k_X5_odds_102, k_X5_odds_103, k_X5_odds_106, k_X5_odds_107, k_X5_odds_110, k_X5_odds_111, k_X5_odds_112, k_X5_odds_114, k_X5_odds_117, k_X5_odds_120, k_X5_odds_122, k_X5_odds_124, k_X5_odds_126, k_X5_odds_128, k_X5_odds_130, k_X5_odds_133, k_X5_odds_135, k_X5_odds_137, k_X5_odds_138, k_X5_odds_140, k_X5_odds_142, k_X5_odds_144, k_X5_odds_146, k_X5_odds_148, k_X5_odds_151, k_X5_odds_153, k_X5_odds_156, k_X5_odds_157, k_X5_odds_160, k_X5_odds_161, k_X5_odds_164, k_X5_odds_166, k_X5_odds_168, k_X5_odds_169, k_X5_odds_172, k_X5_odds_174, k_X5_odds_176, k_X5_odds_177, wp1, wp_s, cutIn, kont, Nat.reduceSub, Nat.reduceAdd, nth, o_const, o_lconst, o_ref, o_iload, o_lload, o_aload, o_istore, o_lstore, o_astore, o_iinc, o_bin, o_div, o_un, o_lbin, o_lsh, o_lcmp, o_i2l, o_l2i, o_if, o_icmp, o_goto, o_dup, o_dup2, o_pop, fav, o_getf, o_putI, o_putZ, o_putL, o_ald, o_ast, o_alen, popn, rst, o_callV, o_callT, o_callS, swx, o_sw, o_ret, o_iret, o_zret, o_cret, o_lret, o_aret, lg, lput, lput2, ls1, isL, entL, wsum, rdI1, rdI2, rdA1, rdA21, rdA22, rdL1, rdL22, rdL21, upN_at, rep, sh_0, F_0_0, F_0_1, F_0_2, F_0_3, F_0_4, F_0_5, F_0_6, F_0_7, F_0_8, sh_1, F_1_0, F_1_1, F_1_2, F_1_3, F_1_4, F_1_5, sh_3, F_3_0, F_3_1, F_3_2, F_3_3, F_3_4, F_3_5, sh_5, F_5_0, F_5_1, F_5_2, F_5_3, F_5_4, F_5_5, F_5_6, F_5_7, F_5_8, sh_12, F_12_0, F_12_1, F_12_2, F_12_3, F_12_4, F_12_5, sh_14, F_14_0, F_14_1, F_14_2, F_14_3, F_14_4, F_14_5, F_14_6, F_14_7, F_14_8, sh_21, F_21_0, F_21_1, F_21_2, F_21_3, F_21_4, F_21_5, F_21_6, F_21_7, F_21_8, sh_28, F_28_0, F_28_1, F_28_2, F_28_3, F_28_4, F_28_5, F_28_6, F_28_7, F_28_8, sh_35, F_35_0, sh_39, F_39_0, F_39_1, F_39_2, F_39_3, F_39_4, F_39_5, F_39_6, F_39_7, F_39_8, F_39_9, F_39_10, F_39_11, F_39_12, F_39_13, A_2, A_4, A_6, A_7, A_8, A_9, A_10, A_11, A_13, A_15, A_16, A_17, A_18, A_19, A_20, A_22, A_23, A_24, A_25, A_26, A_27, A_29, A_30, A_31, A_32, A_33, A_34, A_36, A_37, A_38, A_40, A_41, A_42, A_43, A_44, A_45, A_46, A_47]
          rw [nI_eq (by omega) (by omega)]
          refine ⟨fun w4 => ?_, fun w4 => ?_⟩
          · exact cut _ _ ⟨rfl, rfl, k, row, rfl, hk, rfl, hrow, hz, Or.inl ⟨rfl, i + 1, by omega, rfl, rfl⟩⟩ (by omega) ⟨rfl, rfl, rfl, rfl, vi_eq (by rw [yG ⟨w2, w3⟩ w4, ← nI_1]), vi_eq (by rw [yS ⟨w2, w3⟩, ← nI_1]), vi_eq (by first | rfl | exact nI_1 _), trivial⟩
          · exact cut _ _ ⟨rfl, rfl, k, row, rfl, hk, rfl, hrow, hz, Or.inl ⟨rfl, i + 1, by omega, rfl, rfl⟩⟩ (by omega) ⟨rfl, rfl, rfl, rfl, vi_eq (by rw [nG w4]; first | rfl | exact a0 _), vi_eq (by rw [yS ⟨w2, w3⟩, ← nI_1]), vi_eq (by first | rfl | exact nI_1 _), trivial⟩
        · obtain ⟨e1, e2⟩ := nS fun w => w3 w.2
          exact cut _ _ ⟨rfl, rfl, k, row, rfl, hk, rfl, hrow, hz, Or.inl ⟨rfl, i + 1, by omega, rfl, rfl⟩⟩ (by omega) ⟨rfl, rfl, rfl, rfl, vi_eq (by rw [e2]; first | rfl | exact a0 _), vi_eq (by rw [e1]; first | rfl | exact a0 _), vi_eq (by first | rfl | exact nI_1 _), trivial⟩
      · rw [In_nI (by omega) (by omega)] at w2
        obtain ⟨e1, e2⟩ := nS fun w => w2 w.1
        dsimp only [k_X5_odds_0, k_X5_odds_1, k_X5_odds_2, k_X5_odds_4, k_X5_odds_7, k_X5_odds_10, k_X5_odds_11, k_X5_odds_12, k_X5_odds_15, k_X5_odds_18, k_X5_odds_21, k_X5_odds_22, k_X5_odds_23, k_X5_odds_24, k_X5_odds_27, k_X5_odds_30, k_X5_odds_31, k_X5_odds_32, k_X5_odds_33, k_X5_odds_35, k_X5_odds_36, k_X5_odds_38, k_X5_odds_39, k_X5_odds_41, k_X5_odds_43, k_X5_odds_46, k_X5_odds_49, k_X5_odds_50, k_X5_odds_52, k_X5_odds_55, k_X5_odds_58, k_X5_odds_60, k_X5_odds_63, k_X5_odds_64, k_X5_odds_67, k_X5_odds_68, k_X5_odds_71, k_X5_odds_72, k_X5_odds_74, k_X5_odds_76, k_X5_odds_78, k_X5_odds_81, k_X5_odds_82, k_X5_odds_85, k_X5_odds_86, k_X5_odds_87, k_X5_odds_89, k_X5_odds_91, k_X5_odds_93, k_X5_odds_96, k_X5_odds_97, k_X5_odds_99, k_X5_odds_102, k_X5_odds_103, k_X5_odds_106, k_X5_odds_107, k_X5_odds_110, k_X5_odds_111, k_X5_odds_112, k_X5_odds_114, k_X5_odds_117, k_X5_odds_120, k_X5_odds_122, k_X5_odds_124, k_X5_odds_126, k_X5_odds_128, k_X5_odds_130, k_X5_odds_133, k_X5_odds_135, k_X5_odds_137, k_X5_odds_138, k_X5_odds_140, k_X5_odds_142, k_X5_odds_144, k_X5_odds_146, k_X5_odds_148, k_X5_odds_151, k_X5_odds_153, k_X5_odds_156, k_X5_odds_157, k_X5_odds_160, k_X5_odds_161, k_X5_odds_164, k_X5_odds_166, k_X5_odds_168, k_X5_odds_169, k_X5_odds_172, k_X5_odds_174, k_X5_odds_176, k_X5_odds_177, wp1, wp_s, cutIn, kont, Nat.reduceSub, Nat.reduceAdd, nth, o_const, o_lconst, o_ref, o_iload, o_lload, o_aload, o_istore, o_lstore, o_astore, o_iinc, o_bin, o_div, o_un, o_lbin, o_lsh, o_lcmp, o_i2l, o_l2i, o_if, o_icmp, o_goto, o_dup, o_dup2, o_pop, fav, o_getf, o_putI, o_putZ, o_putL, o_ald, o_ast, o_alen, popn, rst, o_callV, o_callT, o_callS, swx, o_sw, o_ret, o_iret, o_zret, o_cret, o_lret, o_aret, lg, lput, lput2, ls1, isL, entL, wsum, rdI1, rdI2, rdA1, rdA21, rdA22, rdL1, rdL22, rdL21, upN_at, rep, sh_0, F_0_0, F_0_1, F_0_2, F_0_3, F_0_4, F_0_5, F_0_6, F_0_7, F_0_8, sh_1, F_1_0, F_1_1, F_1_2, F_1_3, F_1_4, F_1_5, sh_3, F_3_0, F_3_1, F_3_2, F_3_3, F_3_4, F_3_5, sh_5, F_5_0, F_5_1, F_5_2, F_5_3, F_5_4, F_5_5, F_5_6, F_5_7, F_5_8, sh_12, F_12_0, F_12_1, F_12_2, F_12_3, F_12_4, F_12_5, sh_14, F_14_0, F_14_1, F_14_2, F_14_3, F_14_4, F_14_5, F_14_6, F_14_7, F_14_8, sh_21, F_21_0, F_21_1, F_21_2, F_21_3, F_21_4, F_21_5, F_21_6, F_21_7, F_21_8, sh_28, F_28_0, F_28_1, F_28_2, F_28_3, F_28_4, F_28_5, F_28_6, F_28_7, F_28_8, sh_35, F_35_0, sh_39, F_39_0, F_39_1, F_39_2, F_39_3, F_39_4, F_39_5, F_39_6, F_39_7, F_39_8, F_39_9, F_39_10, F_39_11, F_39_12, F_39_13, A_2, A_4, A_6, A_7, A_8, A_9, A_10, A_11, A_13, A_15, A_16, A_17, A_18, A_19, A_20, A_22, A_23, A_24, A_25, A_26, A_27, A_29, A_30, A_31, A_32, A_33, A_34, A_36, A_37, A_38, A_40, A_41, A_42, A_43, A_44, A_45, A_46, A_47]
        simp (config := { decide := true }) only [true_implies, false_implies, and_true, true_and, not_true_eq_false, not_false_eq_true, forall_const]
        exact cut _ _ ⟨rfl, rfl, k, row, rfl, hk, rfl, hrow, hz, Or.inl ⟨rfl, i + 1, by omega, rfl, rfl⟩⟩ (by omega) ⟨rfl, rfl, rfl, rfl, vi_eq (by rw [e2]; first | rfl | exact a0 _), vi_eq (by rw [e1]; first | rfl | exact a0 _), vi_eq (by first | rfl | exact nI_1 _), trivial⟩
    · obtain ⟨h3, h4, h5⟩ := h2 k row rfl hk rfl hrow _ _ rfl rfl
      have hcs := ct_le (oS (us h0 n) k) (us h0 n + 1)
      have hcg := ct_le (oG r n (us h0 n) k row) (us h0 n + 1)
      dsimp only [k_X5_odds_0, k_X5_odds_1, k_X5_odds_2, k_X5_odds_4, k_X5_odds_7, k_X5_odds_10, k_X5_odds_11, k_X5_odds_12, k_X5_odds_15, k_X5_odds_18, k_X5_odds_21, k_X5_odds_22, k_X5_odds_23, k_X5_odds_24, k_X5_odds_27, k_X5_odds_30, k_X5_odds_31, k_X5_odds_32, k_X5_odds_33, k_X5_odds_35, k_X5_odds_36, k_X5_odds_38, k_X5_odds_39, k_X5_odds_41, k_X5_odds_43, k_X5_odds_46, k_X5_odds_49, k_X5_odds_50, k_X5_odds_52, k_X5_odds_55, k_X5_odds_58, k_X5_odds_60, k_X5_odds_63, k_X5_odds_64, k_X5_odds_67, k_X5_odds_68, k_X5_odds_71, k_X5_odds_72, k_X5_odds_74, k_X5_odds_76, k_X5_odds_78, k_X5_odds_81, k_X5_odds_82, k_X5_odds_85, k_X5_odds_86, k_X5_odds_87, k_X5_odds_89, k_X5_odds_91, k_X5_odds_93, k_X5_odds_96, k_X5_odds_97, k_X5_odds_99, k_X5_odds_102, k_X5_odds_103, k_X5_odds_106, k_X5_odds_107, k_X5_odds_110, k_X5_odds_111, k_X5_odds_112, k_X5_odds_114, k_X5_odds_117, k_X5_odds_120, k_X5_odds_122, k_X5_odds_124, k_X5_odds_126, k_X5_odds_128, k_X5_odds_130, k_X5_odds_133, k_X5_odds_135, k_X5_odds_137, k_X5_odds_138, k_X5_odds_140, k_X5_odds_142, k_X5_odds_144, k_X5_odds_146, k_X5_odds_148, k_X5_odds_151, k_X5_odds_153, k_X5_odds_156, k_X5_odds_157, k_X5_odds_160, k_X5_odds_161, k_X5_odds_164, k_X5_odds_166, k_X5_odds_168, k_X5_odds_169, k_X5_odds_172, k_X5_odds_174, k_X5_odds_176, k_X5_odds_177, wp1, wp_s, cutIn, kont, Nat.reduceSub, Nat.reduceAdd, nth, o_const, o_lconst, o_ref, o_iload, o_lload, o_aload, o_istore, o_lstore, o_astore, o_iinc, o_bin, o_div, o_un, o_lbin, o_lsh, o_lcmp, o_i2l, o_l2i, o_if, o_icmp, o_goto, o_dup, o_dup2, o_pop, fav, o_getf, o_putI, o_putZ, o_putL, o_ald, o_ast, o_alen, popn, rst, o_callV, o_callT, o_callS, swx, o_sw, o_ret, o_iret, o_zret, o_cret, o_lret, o_aret, lg, lput, lput2, ls1, isL, entL, wsum, rdI1, rdI2, rdA1, rdA21, rdA22, rdL1, rdL22, rdL21, upN_at, rep, sh_0, F_0_0, F_0_1, F_0_2, F_0_3, F_0_4, F_0_5, F_0_6, F_0_7, F_0_8, sh_1, F_1_0, F_1_1, F_1_2, F_1_3, F_1_4, F_1_5, sh_3, F_3_0, F_3_1, F_3_2, F_3_3, F_3_4, F_3_5, sh_5, F_5_0, F_5_1, F_5_2, F_5_3, F_5_4, F_5_5, F_5_6, F_5_7, F_5_8, sh_12, F_12_0, F_12_1, F_12_2, F_12_3, F_12_4, F_12_5, sh_14, F_14_0, F_14_1, F_14_2, F_14_3, F_14_4, F_14_5, F_14_6, F_14_7, F_14_8, sh_21, F_21_0, F_21_1, F_21_2, F_21_3, F_21_4, F_21_5, F_21_6, F_21_7, F_21_8, sh_28, F_28_0, F_28_1, F_28_2, F_28_3, F_28_4, F_28_5, F_28_6, F_28_7, F_28_8, sh_35, F_35_0, sh_39, F_39_0, F_39_1, F_39_2, F_39_3, F_39_4, F_39_5, F_39_6, F_39_7, F_39_8, F_39_9, F_39_10, F_39_11, F_39_12, F_39_13, A_2, A_4, A_6, A_7, A_8, A_9, A_10, A_11, A_13, A_15, A_16, A_17, A_18, A_19, A_20, A_22, A_23, A_24, A_25, A_26, A_27, A_29, A_30, A_31, A_32, A_33, A_34, A_36, A_37, A_38, A_40, A_41, A_42, A_43, A_44, A_45, A_46, A_47]
      rw [show (0 : Int32) = nI 0 from rfl, nI_eq (by omega) (by omega), nI_eq (by omega) (by omega)]
      refine ⟨fun w1 => ⟨fun w2 => h3 w2 hz, fun w2 => ⟨fun w3 => ?_, fun w3 => ?_⟩⟩, fun w1 => ?_⟩
      · rw [w1, Nat.gcd_zero_right] at hg
        have hpos : 0 < a := by rw [hg]; exact Nat.gcd_pos_of_pos_left _ (by omega)
        refine ⟨by first | omega | (rw [nI_eq (by omega) (by omega)]; omega), ?_⟩
        rw [pk_div (by omega) hpos (by omega), hg]
        exact h4 w2 w3
      · rw [w1, Nat.gcd_zero_right] at hg
        have hpos : 0 < a := by rw [hg]; exact Nat.gcd_pos_of_pos_left _ (by omega)
        refine ⟨by first | omega | (rw [nI_eq (by omega) (by omega)]; omega), ?_⟩
        rw [pk_div (by omega) hpos (by omega), hg]
        exact h5 w2 (hz.elim (fun w => absurd w w3) id)
      · have hmb := Nat.mod_lt a (show 0 < b by omega)
        refine ⟨w1, cut _ _ ⟨rfl, rfl, k, row, rfl, hk, rfl, hrow, hz, Or.inr ⟨rfl, b, a % b, hb, by omega, ?_, rfl, rfl⟩⟩ hmb ⟨rfl, rfl, rfl, rfl, rfl, rfl, rfl, vi_eq (pk_rem (by omega) (by omega) (by omega)), trivial⟩⟩
        rw [← hg, Nat.gcd_comm b (a % b), ← Nat.gcd_rec b a, Nat.gcd_comm b a]
  · dsimp only [k_X5_odds_0, k_X5_odds_1, k_X5_odds_2, k_X5_odds_4, k_X5_odds_7, k_X5_odds_10, k_X5_odds_11, k_X5_odds_12, k_X5_odds_15, k_X5_odds_18, k_X5_odds_21, k_X5_odds_22, k_X5_odds_23, k_X5_odds_24, k_X5_odds_27, k_X5_odds_30, k_X5_odds_31, k_X5_odds_32, k_X5_odds_33, k_X5_odds_35, k_X5_odds_36, k_X5_odds_38, k_X5_odds_39, k_X5_odds_41, k_X5_odds_43, k_X5_odds_46, k_X5_odds_49, k_X5_odds_50, k_X5_odds_52, k_X5_odds_55, k_X5_odds_58, k_X5_odds_60, k_X5_odds_63, k_X5_odds_64, k_X5_odds_67, k_X5_odds_68, k_X5_odds_71, k_X5_odds_72, k_X5_odds_74, k_X5_odds_76, k_X5_odds_78, k_X5_odds_81, k_X5_odds_82, k_X5_odds_85, k_X5_odds_86, k_X5_odds_87, k_X5_odds_89, k_X5_odds_91, k_X5_odds_93, k_X5_odds_96, k_X5_odds_97, k_X5_odds_99, k_X5_odds_102, k_X5_odds_103, k_X5_odds_106, k_X5_odds_107, k_X5_odds_110, k_X5_odds_111, k_X5_odds_112, k_X5_odds_114, k_X5_odds_117, k_X5_odds_120, k_X5_odds_122, k_X5_odds_124, k_X5_odds_126, k_X5_odds_128, k_X5_odds_130, k_X5_odds_133, k_X5_odds_135, k_X5_odds_137, k_X5_odds_138, k_X5_odds_140, k_X5_odds_142, k_X5_odds_144, k_X5_odds_146, k_X5_odds_148, k_X5_odds_151, k_X5_odds_153, k_X5_odds_156, k_X5_odds_157, k_X5_odds_160, k_X5_odds_161, k_X5_odds_164, k_X5_odds_166, k_X5_odds_168, k_X5_odds_169, k_X5_odds_172, k_X5_odds_174, k_X5_odds_176, k_X5_odds_177, wp1, wp_s, cutIn, kont, Nat.reduceSub, Nat.reduceAdd, nth, o_const, o_lconst, o_ref, o_iload, o_lload, o_aload, o_istore, o_lstore, o_astore, o_iinc, o_bin, o_div, o_un, o_lbin, o_lsh, o_lcmp, o_i2l, o_l2i, o_if, o_icmp, o_goto, o_dup, o_dup2, o_pop, fav, o_getf, o_putI, o_putZ, o_putL, o_ald, o_ast, o_alen, popn, rst, o_callV, o_callT, o_callS, swx, o_sw, o_ret, o_iret, o_zret, o_cret, o_lret, o_aret, lg, lput, lput2, ls1, isL, entL, wsum, rdI1, rdI2, rdA1, rdA21, rdA22, rdL1, rdL22, rdL21, upN_at, rep, sh_0, F_0_0, F_0_1, F_0_2, F_0_3, F_0_4, F_0_5, F_0_6, F_0_7, F_0_8, sh_1, F_1_0, F_1_1, F_1_2, F_1_3, F_1_4, F_1_5, sh_3, F_3_0, F_3_1, F_3_2, F_3_3, F_3_4, F_3_5, sh_5, F_5_0, F_5_1, F_5_2, F_5_3, F_5_4, F_5_5, F_5_6, F_5_7, F_5_8, sh_12, F_12_0, F_12_1, F_12_2, F_12_3, F_12_4, F_12_5, sh_14, F_14_0, F_14_1, F_14_2, F_14_3, F_14_4, F_14_5, F_14_6, F_14_7, F_14_8, sh_21, F_21_0, F_21_1, F_21_2, F_21_3, F_21_4, F_21_5, F_21_6, F_21_7, F_21_8, sh_28, F_28_0, F_28_1, F_28_2, F_28_3, F_28_4, F_28_5, F_28_6, F_28_7, F_28_8, sh_35, F_35_0, sh_39, F_39_0, F_39_1, F_39_2, F_39_3, F_39_4, F_39_5, F_39_6, F_39_7, F_39_8, F_39_9, F_39_10, F_39_11, F_39_12, F_39_13, A_2, A_4, A_6, A_7, A_8, A_9, A_10, A_11, A_13, A_15, A_16, A_17, A_18, A_19, A_20, A_22, A_23, A_24, A_25, A_26, A_27, A_29, A_30, A_31, A_32, A_33, A_34, A_36, A_37, A_38, A_40, A_41, A_42, A_43, A_44, A_45, A_46, A_47]
    refine ⟨x, 0, nI 8, rfl, ?_⟩
    unfold pz
    rw [up_x (n := 8) (m := 9) (by omega) rfl (by omega)]
    refine ⟨fun w1 => ?_, fun w1 => ?_⟩
    · dsimp only [k_X5_odds_0, k_X5_odds_1, k_X5_odds_2, k_X5_odds_4, k_X5_odds_7, k_X5_odds_10, k_X5_odds_11, k_X5_odds_12, k_X5_odds_15, k_X5_odds_18, k_X5_odds_21, k_X5_odds_22, k_X5_odds_23, k_X5_odds_24, k_X5_odds_27, k_X5_odds_30, k_X5_odds_31, k_X5_odds_32, k_X5_odds_33, k_X5_odds_35, k_X5_odds_36, k_X5_odds_38, k_X5_odds_39, k_X5_odds_41, k_X5_odds_43, k_X5_odds_46, k_X5_odds_49, k_X5_odds_50, k_X5_odds_52, k_X5_odds_55, k_X5_odds_58, k_X5_odds_60, k_X5_odds_63, k_X5_odds_64, k_X5_odds_67, k_X5_odds_68, k_X5_odds_71, k_X5_odds_72, k_X5_odds_74, k_X5_odds_76, k_X5_odds_78, k_X5_odds_81, k_X5_odds_82, k_X5_odds_85, k_X5_odds_86, k_X5_odds_87, k_X5_odds_89, k_X5_odds_91, k_X5_odds_93, k_X5_odds_96, k_X5_odds_97, k_X5_odds_99, k_X5_odds_102, k_X5_odds_103, k_X5_odds_106, k_X5_odds_107, k_X5_odds_110, k_X5_odds_111, k_X5_odds_112, k_X5_odds_114, k_X5_odds_117, k_X5_odds_120, k_X5_odds_122, k_X5_odds_124, k_X5_odds_126, k_X5_odds_128, k_X5_odds_130, k_X5_odds_133, k_X5_odds_135, k_X5_odds_137, k_X5_odds_138, k_X5_odds_140, k_X5_odds_142, k_X5_odds_144, k_X5_odds_146, k_X5_odds_148, k_X5_odds_151, k_X5_odds_153, k_X5_odds_156, k_X5_odds_157, k_X5_odds_160, k_X5_odds_161, k_X5_odds_164, k_X5_odds_166, k_X5_odds_168, k_X5_odds_169, k_X5_odds_172, k_X5_odds_174, k_X5_odds_176, k_X5_odds_177, wp1, wp_s, cutIn, kont, Nat.reduceSub, Nat.reduceAdd, nth, o_const, o_lconst, o_ref, o_iload, o_lload, o_aload, o_istore, o_lstore, o_astore, o_iinc, o_bin, o_div, o_un, o_lbin, o_lsh, o_lcmp, o_i2l, o_l2i, o_if, o_icmp, o_goto, o_dup, o_dup2, o_pop, fav, o_getf, o_putI, o_putZ, o_putL, o_ald, o_ast, o_alen, popn, rst, o_callV, o_callT, o_callS, swx, o_sw, o_ret, o_iret, o_zret, o_cret, o_lret, o_aret, lg, lput, lput2, ls1, isL, entL, wsum, rdI1, rdI2, rdA1, rdA21, rdA22, rdL1, rdL22, rdL21, upN_at, rep, sh_0, F_0_0, F_0_1, F_0_2, F_0_3, F_0_4, F_0_5, F_0_6, F_0_7, F_0_8, sh_1, F_1_0, F_1_1, F_1_2, F_1_3, F_1_4, F_1_5, sh_3, F_3_0, F_3_1, F_3_2, F_3_3, F_3_4, F_3_5, sh_5, F_5_0, F_5_1, F_5_2, F_5_3, F_5_4, F_5_5, F_5_6, F_5_7, F_5_8, sh_12, F_12_0, F_12_1, F_12_2, F_12_3, F_12_4, F_12_5, sh_14, F_14_0, F_14_1, F_14_2, F_14_3, F_14_4, F_14_5, F_14_6, F_14_7, F_14_8, sh_21, F_21_0, F_21_1, F_21_2, F_21_3, F_21_4, F_21_5, F_21_6, F_21_7, F_21_8, sh_28, F_28_0, F_28_1, F_28_2, F_28_3, F_28_4, F_28_5, F_28_6, F_28_7, F_28_8, sh_35, F_35_0, sh_39, F_39_0, F_39_1, F_39_2, F_39_3, F_39_4, F_39_5, F_39_6, F_39_7, F_39_8, F_39_9, F_39_10, F_39_11, F_39_12, F_39_13, A_2, A_4, A_6, A_7, A_8, A_9, A_10, A_11, A_13, A_15, A_16, A_17, A_18, A_19, A_20, A_22, A_23, A_24, A_25, A_26, A_27, A_29, A_30, A_31, A_32, A_33, A_34, A_36, A_37, A_38, A_40, A_41, A_42, A_43, A_44, A_45, A_46, A_47]
      simp (config := { decide := true }) only [true_implies, false_implies, and_true, true_and, not_true_eq_false, not_false_eq_true, forall_const]
      refine ⟨y, 0, nI 511, rfl, ?_⟩
      unfold pz
      rw [up_x (n := 511) (m := 512) (by omega) rfl (by omega)]
      refine ⟨fun w2 => ?_, fun w2 => ?_⟩
      · dsimp only [k_X5_odds_0, k_X5_odds_1, k_X5_odds_2, k_X5_odds_4, k_X5_odds_7, k_X5_odds_10, k_X5_odds_11, k_X5_odds_12, k_X5_odds_15, k_X5_odds_18, k_X5_odds_21, k_X5_odds_22, k_X5_odds_23, k_X5_odds_24, k_X5_odds_27, k_X5_odds_30, k_X5_odds_31, k_X5_odds_32, k_X5_odds_33, k_X5_odds_35, k_X5_odds_36, k_X5_odds_38, k_X5_odds_39, k_X5_odds_41, k_X5_odds_43, k_X5_odds_46, k_X5_odds_49, k_X5_odds_50, k_X5_odds_52, k_X5_odds_55, k_X5_odds_58, k_X5_odds_60, k_X5_odds_63, k_X5_odds_64, k_X5_odds_67, k_X5_odds_68, k_X5_odds_71, k_X5_odds_72, k_X5_odds_74, k_X5_odds_76, k_X5_odds_78, k_X5_odds_81, k_X5_odds_82, k_X5_odds_85, k_X5_odds_86, k_X5_odds_87, k_X5_odds_89, k_X5_odds_91, k_X5_odds_93, k_X5_odds_96, k_X5_odds_97, k_X5_odds_99, k_X5_odds_102, k_X5_odds_103, k_X5_odds_106, k_X5_odds_107, k_X5_odds_110, k_X5_odds_111, k_X5_odds_112, k_X5_odds_114, k_X5_odds_117, k_X5_odds_120, k_X5_odds_122, k_X5_odds_124, k_X5_odds_126, k_X5_odds_128, k_X5_odds_130, k_X5_odds_133, k_X5_odds_135, k_X5_odds_137, k_X5_odds_138, k_X5_odds_140, k_X5_odds_142, k_X5_odds_144, k_X5_odds_146, k_X5_odds_148, k_X5_odds_151, k_X5_odds_153, k_X5_odds_156, k_X5_odds_157, k_X5_odds_160, k_X5_odds_161, k_X5_odds_164, k_X5_odds_166, k_X5_odds_168, k_X5_odds_169, k_X5_odds_172, k_X5_odds_174, k_X5_odds_176, k_X5_odds_177, wp1, wp_s, cutIn, kont, Nat.reduceSub, Nat.reduceAdd, nth, o_const, o_lconst, o_ref, o_iload, o_lload, o_aload, o_istore, o_lstore, o_astore, o_iinc, o_bin, o_div, o_un, o_lbin, o_lsh, o_lcmp, o_i2l, o_l2i, o_if, o_icmp, o_goto, o_dup, o_dup2, o_pop, fav, o_getf, o_putI, o_putZ, o_putL, o_ald, o_ast, o_alen, popn, rst, o_callV, o_callT, o_callS, swx, o_sw, o_ret, o_iret, o_zret, o_cret, o_lret, o_aret, lg, lput, lput2, ls1, isL, entL, wsum, rdI1, rdI2, rdA1, rdA21, rdA22, rdL1, rdL22, rdL21, upN_at, rep, sh_0, F_0_0, F_0_1, F_0_2, F_0_3, F_0_4, F_0_5, F_0_6, F_0_7, F_0_8, sh_1, F_1_0, F_1_1, F_1_2, F_1_3, F_1_4, F_1_5, sh_3, F_3_0, F_3_1, F_3_2, F_3_3, F_3_4, F_3_5, sh_5, F_5_0, F_5_1, F_5_2, F_5_3, F_5_4, F_5_5, F_5_6, F_5_7, F_5_8, sh_12, F_12_0, F_12_1, F_12_2, F_12_3, F_12_4, F_12_5, sh_14, F_14_0, F_14_1, F_14_2, F_14_3, F_14_4, F_14_5, F_14_6, F_14_7, F_14_8, sh_21, F_21_0, F_21_1, F_21_2, F_21_3, F_21_4, F_21_5, F_21_6, F_21_7, F_21_8, sh_28, F_28_0, F_28_1, F_28_2, F_28_3, F_28_4, F_28_5, F_28_6, F_28_7, F_28_8, sh_35, F_35_0, sh_39, F_39_0, F_39_1, F_39_2, F_39_3, F_39_4, F_39_5, F_39_6, F_39_7, F_39_8, F_39_9, F_39_10, F_39_11, F_39_12, F_39_13, A_2, A_4, A_6, A_7, A_8, A_9, A_10, A_11, A_13, A_15, A_16, A_17, A_18, A_19, A_20, A_22, A_23, A_24, A_25, A_26, A_27, A_29, A_30, A_31, A_32, A_33, A_34, A_36, A_37, A_38, A_40, A_41, A_42, A_43, A_44, A_45, A_46, A_47]
        simp (config := { decide := true }) only [true_implies, false_implies, and_true, true_and, not_true_eq_false, not_false_eq_true, forall_const]
        refine ⟨z, 0, 1, rfl, ?_⟩
        unfold pz
        rw [i01]
        refine ⟨fun w3 => ?_, fun w3 => ?_⟩
        · obtain ⟨k, rfl, hk⟩ := rg (by omega) w1
          obtain ⟨row, rfl, hrow⟩ := rg (by omega) w2
          dsimp only [k_X5_odds_0, k_X5_odds_1, k_X5_odds_2, k_X5_odds_4, k_X5_odds_7, k_X5_odds_10, k_X5_odds_11, k_X5_odds_12, k_X5_odds_15, k_X5_odds_18, k_X5_odds_21, k_X5_odds_22, k_X5_odds_23, k_X5_odds_24, k_X5_odds_27, k_X5_odds_30, k_X5_odds_31, k_X5_odds_32, k_X5_odds_33, k_X5_odds_35, k_X5_odds_36, k_X5_odds_38, k_X5_odds_39, k_X5_odds_41, k_X5_odds_43, k_X5_odds_46, k_X5_odds_49, k_X5_odds_50, k_X5_odds_52, k_X5_odds_55, k_X5_odds_58, k_X5_odds_60, k_X5_odds_63, k_X5_odds_64, k_X5_odds_67, k_X5_odds_68, k_X5_odds_71, k_X5_odds_72, k_X5_odds_74, k_X5_odds_76, k_X5_odds_78, k_X5_odds_81, k_X5_odds_82, k_X5_odds_85, k_X5_odds_86, k_X5_odds_87, k_X5_odds_89, k_X5_odds_91, k_X5_odds_93, k_X5_odds_96, k_X5_odds_97, k_X5_odds_99, k_X5_odds_102, k_X5_odds_103, k_X5_odds_106, k_X5_odds_107, k_X5_odds_110, k_X5_odds_111, k_X5_odds_112, k_X5_odds_114, k_X5_odds_117, k_X5_odds_120, k_X5_odds_122, k_X5_odds_124, k_X5_odds_126, k_X5_odds_128, k_X5_odds_130, k_X5_odds_133, k_X5_odds_135, k_X5_odds_137, k_X5_odds_138, k_X5_odds_140, k_X5_odds_142, k_X5_odds_144, k_X5_odds_146, k_X5_odds_148, k_X5_odds_151, k_X5_odds_153, k_X5_odds_156, k_X5_odds_157, k_X5_odds_160, k_X5_odds_161, k_X5_odds_164, k_X5_odds_166, k_X5_odds_168, k_X5_odds_169, k_X5_odds_172, k_X5_odds_174, k_X5_odds_176, k_X5_odds_177, wp1, wp_s, cutIn, kont, Nat.reduceSub, Nat.reduceAdd, nth, o_const, o_lconst, o_ref, o_iload, o_lload, o_aload, o_istore, o_lstore, o_astore, o_iinc, o_bin, o_div, o_un, o_lbin, o_lsh, o_lcmp, o_i2l, o_l2i, o_if, o_icmp, o_goto, o_dup, o_dup2, o_pop, fav, o_getf, o_putI, o_putZ, o_putL, o_ald, o_ast, o_alen, popn, rst, o_callV, o_callT, o_callS, swx, o_sw, o_ret, o_iret, o_zret, o_cret, o_lret, o_aret, lg, lput, lput2, ls1, isL, entL, wsum, rdI1, rdI2, rdA1, rdA21, rdA22, rdL1, rdL22, rdL21, upN_at, rep, sh_0, F_0_0, F_0_1, F_0_2, F_0_3, F_0_4, F_0_5, F_0_6, F_0_7, F_0_8, sh_1, F_1_0, F_1_1, F_1_2, F_1_3, F_1_4, F_1_5, sh_3, F_3_0, F_3_1, F_3_2, F_3_3, F_3_4, F_3_5, sh_5, F_5_0, F_5_1, F_5_2, F_5_3, F_5_4, F_5_5, F_5_6, F_5_7, F_5_8, sh_12, F_12_0, F_12_1, F_12_2, F_12_3, F_12_4, F_12_5, sh_14, F_14_0, F_14_1, F_14_2, F_14_3, F_14_4, F_14_5, F_14_6, F_14_7, F_14_8, sh_21, F_21_0, F_21_1, F_21_2, F_21_3, F_21_4, F_21_5, F_21_6, F_21_7, F_21_8, sh_28, F_28_0, F_28_1, F_28_2, F_28_3, F_28_4, F_28_5, F_28_6, F_28_7, F_28_8, sh_35, F_35_0, sh_39, F_39_0, F_39_1, F_39_2, F_39_3, F_39_4, F_39_5, F_39_6, F_39_7, F_39_8, F_39_9, F_39_10, F_39_11, F_39_12, F_39_13, A_2, A_4, A_6, A_7, A_8, A_9, A_10, A_11, A_13, A_15, A_16, A_17, A_18, A_19, A_20, A_22, A_23, A_24, A_25, A_26, A_27, A_29, A_30, A_31, A_32, A_33, A_34, A_36, A_37, A_38, A_40, A_41, A_42, A_43, A_44, A_45, A_46, A_47]
          simp (config := { decide := true }) only [true_implies, false_implies, and_true, true_and, not_true_eq_false, not_false_eq_true, forall_const]
          exact cut _ _ ⟨rfl, rfl, k, row, rfl, by omega, rfl, hrow, w3, Or.inl ⟨rfl, 0, by omega, rfl, rfl⟩⟩ (by omega) ⟨rfl, rfl, rfl, rfl, rfl, rfl, rfl, trivial⟩
        · dsimp only [k_X5_odds_0, k_X5_odds_1, k_X5_odds_2, k_X5_odds_4, k_X5_odds_7, k_X5_odds_10, k_X5_odds_11, k_X5_odds_12, k_X5_odds_15, k_X5_odds_18, k_X5_odds_21, k_X5_odds_22, k_X5_odds_23, k_X5_odds_24, k_X5_odds_27, k_X5_odds_30, k_X5_odds_31, k_X5_odds_32, k_X5_odds_33, k_X5_odds_35, k_X5_odds_36, k_X5_odds_38, k_X5_odds_39, k_X5_odds_41, k_X5_odds_43, k_X5_odds_46, k_X5_odds_49, k_X5_odds_50, k_X5_odds_52, k_X5_odds_55, k_X5_odds_58, k_X5_odds_60, k_X5_odds_63, k_X5_odds_64, k_X5_odds_67, k_X5_odds_68, k_X5_odds_71, k_X5_odds_72, k_X5_odds_74, k_X5_odds_76, k_X5_odds_78, k_X5_odds_81, k_X5_odds_82, k_X5_odds_85, k_X5_odds_86, k_X5_odds_87, k_X5_odds_89, k_X5_odds_91, k_X5_odds_93, k_X5_odds_96, k_X5_odds_97, k_X5_odds_99, k_X5_odds_102, k_X5_odds_103, k_X5_odds_106, k_X5_odds_107, k_X5_odds_110, k_X5_odds_111, k_X5_odds_112, k_X5_odds_114, k_X5_odds_117, k_X5_odds_120, k_X5_odds_122, k_X5_odds_124, k_X5_odds_126, k_X5_odds_128, k_X5_odds_130, k_X5_odds_133, k_X5_odds_135, k_X5_odds_137, k_X5_odds_138, k_X5_odds_140, k_X5_odds_142, k_X5_odds_144, k_X5_odds_146, k_X5_odds_148, k_X5_odds_151, k_X5_odds_153, k_X5_odds_156, k_X5_odds_157, k_X5_odds_160, k_X5_odds_161, k_X5_odds_164, k_X5_odds_166, k_X5_odds_168, k_X5_odds_169, k_X5_odds_172, k_X5_odds_174, k_X5_odds_176, k_X5_odds_177, wp1, wp_s, cutIn, kont, Nat.reduceSub, Nat.reduceAdd, nth, o_const, o_lconst, o_ref, o_iload, o_lload, o_aload, o_istore, o_lstore, o_astore, o_iinc, o_bin, o_div, o_un, o_lbin, o_lsh, o_lcmp, o_i2l, o_l2i, o_if, o_icmp, o_goto, o_dup, o_dup2, o_pop, fav, o_getf, o_putI, o_putZ, o_putL, o_ald, o_ast, o_alen, popn, rst, o_callV, o_callT, o_callS, swx, o_sw, o_ret, o_iret, o_zret, o_cret, o_lret, o_aret, lg, lput, lput2, ls1, isL, entL, wsum, rdI1, rdI2, rdA1, rdA21, rdA22, rdL1, rdL22, rdL21, upN_at, rep, sh_0, F_0_0, F_0_1, F_0_2, F_0_3, F_0_4, F_0_5, F_0_6, F_0_7, F_0_8, sh_1, F_1_0, F_1_1, F_1_2, F_1_3, F_1_4, F_1_5, sh_3, F_3_0, F_3_1, F_3_2, F_3_3, F_3_4, F_3_5, sh_5, F_5_0, F_5_1, F_5_2, F_5_3, F_5_4, F_5_5, F_5_6, F_5_7, F_5_8, sh_12, F_12_0, F_12_1, F_12_2, F_12_3, F_12_4, F_12_5, sh_14, F_14_0, F_14_1, F_14_2, F_14_3, F_14_4, F_14_5, F_14_6, F_14_7, F_14_8, sh_21, F_21_0, F_21_1, F_21_2, F_21_3, F_21_4, F_21_5, F_21_6, F_21_7, F_21_8, sh_28, F_28_0, F_28_1, F_28_2, F_28_3, F_28_4, F_28_5, F_28_6, F_28_7, F_28_8, sh_35, F_35_0, sh_39, F_39_0, F_39_1, F_39_2, F_39_3, F_39_4, F_39_5, F_39_6, F_39_7, F_39_8, F_39_9, F_39_10, F_39_11, F_39_12, F_39_13, A_2, A_4, A_6, A_7, A_8, A_9, A_10, A_11, A_13, A_15, A_16, A_17, A_18, A_19, A_20, A_22, A_23, A_24, A_25, A_26, A_27, A_29, A_30, A_31, A_32, A_33, A_34, A_36, A_37, A_38, A_40, A_41, A_42, A_43, A_44, A_45, A_46, A_47]
          simp (config := { decide := true }) only [true_implies, false_implies, and_true, true_and, not_true_eq_false, not_false_eq_true, forall_const]
          exact h1 fun w => w3 w.2.2
      · dsimp only [k_X5_odds_0, k_X5_odds_1, k_X5_odds_2, k_X5_odds_4, k_X5_odds_7, k_X5_odds_10, k_X5_odds_11, k_X5_odds_12, k_X5_odds_15, k_X5_odds_18, k_X5_odds_21, k_X5_odds_22, k_X5_odds_23, k_X5_odds_24, k_X5_odds_27, k_X5_odds_30, k_X5_odds_31, k_X5_odds_32, k_X5_odds_33, k_X5_odds_35, k_X5_odds_36, k_X5_odds_38, k_X5_odds_39, k_X5_odds_41, k_X5_odds_43, k_X5_odds_46, k_X5_odds_49, k_X5_odds_50, k_X5_odds_52, k_X5_odds_55, k_X5_odds_58, k_X5_odds_60, k_X5_odds_63, k_X5_odds_64, k_X5_odds_67, k_X5_odds_68, k_X5_odds_71, k_X5_odds_72, k_X5_odds_74, k_X5_odds_76, k_X5_odds_78, k_X5_odds_81, k_X5_odds_82, k_X5_odds_85, k_X5_odds_86, k_X5_odds_87, k_X5_odds_89, k_X5_odds_91, k_X5_odds_93, k_X5_odds_96, k_X5_odds_97, k_X5_odds_99, k_X5_odds_102, k_X5_odds_103, k_X5_odds_106, k_X5_odds_107, k_X5_odds_110, k_X5_odds_111, k_X5_odds_112, k_X5_odds_114, k_X5_odds_117, k_X5_odds_120, k_X5_odds_122, k_X5_odds_124, k_X5_odds_126, k_X5_odds_128, k_X5_odds_130, k_X5_odds_133, k_X5_odds_135, k_X5_odds_137, k_X5_odds_138, k_X5_odds_140, k_X5_odds_142, k_X5_odds_144, k_X5_odds_146, k_X5_odds_148, k_X5_odds_151, k_X5_odds_153, k_X5_odds_156, k_X5_odds_157, k_X5_odds_160, k_X5_odds_161, k_X5_odds_164, k_X5_odds_166, k_X5_odds_168, k_X5_odds_169, k_X5_odds_172, k_X5_odds_174, k_X5_odds_176, k_X5_odds_177, wp1, wp_s, cutIn, kont, Nat.reduceSub, Nat.reduceAdd, nth, o_const, o_lconst, o_ref, o_iload, o_lload, o_aload, o_istore, o_lstore, o_astore, o_iinc, o_bin, o_div, o_un, o_lbin, o_lsh, o_lcmp, o_i2l, o_l2i, o_if, o_icmp, o_goto, o_dup, o_dup2, o_pop, fav, o_getf, o_putI, o_putZ, o_putL, o_ald, o_ast, o_alen, popn, rst, o_callV, o_callT, o_callS, swx, o_sw, o_ret, o_iret, o_zret, o_cret, o_lret, o_aret, lg, lput, lput2, ls1, isL, entL, wsum, rdI1, rdI2, rdA1, rdA21, rdA22, rdL1, rdL22, rdL21, upN_at, rep, sh_0, F_0_0, F_0_1, F_0_2, F_0_3, F_0_4, F_0_5, F_0_6, F_0_7, F_0_8, sh_1, F_1_0, F_1_1, F_1_2, F_1_3, F_1_4, F_1_5, sh_3, F_3_0, F_3_1, F_3_2, F_3_3, F_3_4, F_3_5, sh_5, F_5_0, F_5_1, F_5_2, F_5_3, F_5_4, F_5_5, F_5_6, F_5_7, F_5_8, sh_12, F_12_0, F_12_1, F_12_2, F_12_3, F_12_4, F_12_5, sh_14, F_14_0, F_14_1, F_14_2, F_14_3, F_14_4, F_14_5, F_14_6, F_14_7, F_14_8, sh_21, F_21_0, F_21_1, F_21_2, F_21_3, F_21_4, F_21_5, F_21_6, F_21_7, F_21_8, sh_28, F_28_0, F_28_1, F_28_2, F_28_3, F_28_4, F_28_5, F_28_6, F_28_7, F_28_8, sh_35, F_35_0, sh_39, F_39_0, F_39_1, F_39_2, F_39_3, F_39_4, F_39_5, F_39_6, F_39_7, F_39_8, F_39_9, F_39_10, F_39_11, F_39_12, F_39_13, A_2, A_4, A_6, A_7, A_8, A_9, A_10, A_11, A_13, A_15, A_16, A_17, A_18, A_19, A_20, A_22, A_23, A_24, A_25, A_26, A_27, A_29, A_30, A_31, A_32, A_33, A_34, A_36, A_37, A_38, A_40, A_41, A_42, A_43, A_44, A_45, A_46, A_47]
        simp (config := { decide := true }) only [true_implies, false_implies, and_true, true_and, not_true_eq_false, not_false_eq_true, forall_const]
        exact h1 fun w => w2 w.2.1
    · dsimp only [k_X5_odds_0, k_X5_odds_1, k_X5_odds_2, k_X5_odds_4, k_X5_odds_7, k_X5_odds_10, k_X5_odds_11, k_X5_odds_12, k_X5_odds_15, k_X5_odds_18, k_X5_odds_21, k_X5_odds_22, k_X5_odds_23, k_X5_odds_24, k_X5_odds_27, k_X5_odds_30, k_X5_odds_31, k_X5_odds_32, k_X5_odds_33, k_X5_odds_35, k_X5_odds_36, k_X5_odds_38, k_X5_odds_39, k_X5_odds_41, k_X5_odds_43, k_X5_odds_46, k_X5_odds_49, k_X5_odds_50, k_X5_odds_52, k_X5_odds_55, k_X5_odds_58, k_X5_odds_60, k_X5_odds_63, k_X5_odds_64, k_X5_odds_67, k_X5_odds_68, k_X5_odds_71, k_X5_odds_72, k_X5_odds_74, k_X5_odds_76, k_X5_odds_78, k_X5_odds_81, k_X5_odds_82, k_X5_odds_85, k_X5_odds_86, k_X5_odds_87, k_X5_odds_89, k_X5_odds_91, k_X5_odds_93, k_X5_odds_96, k_X5_odds_97, k_X5_odds_99, k_X5_odds_102, k_X5_odds_103, k_X5_odds_106, k_X5_odds_107, k_X5_odds_110, k_X5_odds_111, k_X5_odds_112, k_X5_odds_114, k_X5_odds_117, k_X5_odds_120, k_X5_odds_122, k_X5_odds_124, k_X5_odds_126, k_X5_odds_128, k_X5_odds_130, k_X5_odds_133, k_X5_odds_135, k_X5_odds_137, k_X5_odds_138, k_X5_odds_140, k_X5_odds_142, k_X5_odds_144, k_X5_odds_146, k_X5_odds_148, k_X5_odds_151, k_X5_odds_153, k_X5_odds_156, k_X5_odds_157, k_X5_odds_160, k_X5_odds_161, k_X5_odds_164, k_X5_odds_166, k_X5_odds_168, k_X5_odds_169, k_X5_odds_172, k_X5_odds_174, k_X5_odds_176, k_X5_odds_177, wp1, wp_s, cutIn, kont, Nat.reduceSub, Nat.reduceAdd, nth, o_const, o_lconst, o_ref, o_iload, o_lload, o_aload, o_istore, o_lstore, o_astore, o_iinc, o_bin, o_div, o_un, o_lbin, o_lsh, o_lcmp, o_i2l, o_l2i, o_if, o_icmp, o_goto, o_dup, o_dup2, o_pop, fav, o_getf, o_putI, o_putZ, o_putL, o_ald, o_ast, o_alen, popn, rst, o_callV, o_callT, o_callS, swx, o_sw, o_ret, o_iret, o_zret, o_cret, o_lret, o_aret, lg, lput, lput2, ls1, isL, entL, wsum, rdI1, rdI2, rdA1, rdA21, rdA22, rdL1, rdL22, rdL21, upN_at, rep, sh_0, F_0_0, F_0_1, F_0_2, F_0_3, F_0_4, F_0_5, F_0_6, F_0_7, F_0_8, sh_1, F_1_0, F_1_1, F_1_2, F_1_3, F_1_4, F_1_5, sh_3, F_3_0, F_3_1, F_3_2, F_3_3, F_3_4, F_3_5, sh_5, F_5_0, F_5_1, F_5_2, F_5_3, F_5_4, F_5_5, F_5_6, F_5_7, F_5_8, sh_12, F_12_0, F_12_1, F_12_2, F_12_3, F_12_4, F_12_5, sh_14, F_14_0, F_14_1, F_14_2, F_14_3, F_14_4, F_14_5, F_14_6, F_14_7, F_14_8, sh_21, F_21_0, F_21_1, F_21_2, F_21_3, F_21_4, F_21_5, F_21_6, F_21_7, F_21_8, sh_28, F_28_0, F_28_1, F_28_2, F_28_3, F_28_4, F_28_5, F_28_6, F_28_7, F_28_8, sh_35, F_35_0, sh_39, F_39_0, F_39_1, F_39_2, F_39_3, F_39_4, F_39_5, F_39_6, F_39_7, F_39_8, F_39_9, F_39_10, F_39_11, F_39_12, F_39_13, A_2, A_4, A_6, A_7, A_8, A_9, A_10, A_11, A_13, A_15, A_16, A_17, A_18, A_19, A_20, A_22, A_23, A_24, A_25, A_26, A_27, A_29, A_30, A_31, A_32, A_33, A_34, A_36, A_37, A_38, A_40, A_41, A_42, A_43, A_44, A_45, A_46, A_47]
      simp (config := { decide := true }) only [true_implies, false_implies, and_true, true_and, not_true_eq_false, not_false_eq_true, forall_const]
      refine h1 fun w => w1 ⟨w.1.1, ?_⟩
      exact ((up_x (n := 8) (m := 9) (by omega) rfl (by omega)).mp w.1).2
theorem c_X5_fewest : Ctr yX5_fewest cX5_fewest 7 (some .int) ({ frames := 2, cells := 0, slots := 0, locals := 43 } : Room) S_X5_fewest := ctr_of (T := T_X5_fewest) (by decide +kernel) (fun post C hr => t_X5_fewest post C hr) v_X5_fewest
theorem c_X5_odds : Ctr yX5_odds cX5_odds 9 (some .int) ({ frames := 2, cells := 0, slots := 0, locals := 43 } : Room) S_X5_odds := ctr_of (T := T_X5_odds) (by decide +kernel) (fun post C hr => t_X5_odds post C hr) v_X5_odds
