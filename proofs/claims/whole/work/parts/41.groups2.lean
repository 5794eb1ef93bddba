/-! The model: groups. -/
def S_X5_groups : SP := fun as M post => ∃ x i n c p r h lk, as = [VR 39, VI x, VI i] ∧ MW M n c p r h lk ∧ HH h n p ∧ (¬ ((0 ≤ x ∧ x < nI c) ∧ -1 ≤ i) → post (some (VI (-1))) M) ∧ (∀ l, x = nI l → l < c → i = -1 → ∀ f, post (some (VI (nI (flt (isLB r h n p lk c l) (2 ^ p)).length))) (sA 36 f M)) ∧
  (∀ l j, x = nI l → l < c → i = nI j → j < 2 ^ 31 → (∀ g, (flt (isLB r h n p lk c l) (2 ^ p))[j]? = some g → ∀ f, post (some (VI (nI g))) (sA 36 f M)) ∧ ((flt (isLB r h n p lk c l) (2 ^ p))[j]? = none → ∀ f, post (some (VI (-5))) (sA 36 f M)))
/-- what is answered so far -/
def anS (F : List Nat) (i v : Int32) : Prop := (∃ j w, i = nI j ∧ F[j]? = some w ∧ v = nI w) ∨ ((∀ j, i = nI j → j < 2 ^ 31 → F.length ≤ j) ∧ v = -5)
/-- no part of the first k opens -/
def noP (r : Nat → Nat) (h : Nat → Int32) (n p : Nat) (lk : Nat → Nat) (c l g k : Nat) : Prop := gop r h n p lk c g l ∧ ∀ u, u < k → u &&& g = u → ¬ gop r h n p lk c u l
theorem dX5_groups_0 : decode cX5_groups 0 = .ok (.aload_n 0, 1) := by decide +kernel
theorem dX5_groups_1 : decode cX5_groups 1 = .ok (.iload_n 1, 1) := by decide +kernel
theorem dX5_groups_2 : decode cX5_groups 2 = .ok (.invokevirtual 101, 3) := by decide +kernel
theorem dX5_groups_5 : decode cX5_groups 5 = .ok (.ifCond .eq 8, 3) := by decide +kernel
theorem dX5_groups_8 : decode cX5_groups 8 = .ok (.iload_n 2, 1) := by decide +kernel
theorem dX5_groups_9 : decode cX5_groups 9 = .ok (.iconst (-1), 1) := by decide +kernel
theorem dX5_groups_10 : decode cX5_groups 10 = .ok (.if_icmp .ge 5, 3) := by decide +kernel
theorem dX5_groups_13 : decode cX5_groups 13 = .ok (.iconst (-1), 1) := by decide +kernel
theorem dX5_groups_14 : decode cX5_groups 14 = .ok (.ireturn, 1) := by decide +kernel
theorem dX5_groups_15 : decode cX5_groups 15 = .ok (.iconst 0, 1) := by decide +kernel
theorem dX5_groups_16 : decode cX5_groups 16 = .ok (.istore_n 3, 1) := by decide +kernel
theorem dX5_groups_17 : decode cX5_groups 17 = .ok (.bipush (-5), 2) := by decide +kernel
theorem dX5_groups_19 : decode cX5_groups 19 = .ok (.istore 4, 2) := by decide +kernel
theorem dX5_groups_21 : decode cX5_groups 21 = .ok (.iconst 0, 1) := by decide +kernel
theorem dX5_groups_22 : decode cX5_groups 22 = .ok (.istore 5, 2) := by decide +kernel
theorem dX5_groups_24 : decode cX5_groups 24 = .ok (.aload_n 0, 1) := by decide +kernel
theorem dX5_groups_25 : decode cX5_groups 25 = .ok (.iload 5, 2) := by decide +kernel
theorem dX5_groups_27 : decode cX5_groups 27 = .ok (.invokevirtual 134, 3) := by decide +kernel
theorem dX5_groups_30 : decode cX5_groups 30 = .ok (.ifCond .eq 121, 3) := by decide +kernel
theorem dX5_groups_33 : decode cX5_groups 33 = .ok (.aload_n 0, 1) := by decide +kernel
theorem dX5_groups_34 : decode cX5_groups 34 = .ok (.aload_n 0, 1) := by decide +kernel
theorem dX5_groups_35 : decode cX5_groups 35 = .ok (.iload 5, 2) := by decide +kernel
theorem dX5_groups_37 : decode cX5_groups 37 = .ok (.invokevirtual 137, 3) := by decide +kernel
theorem dX5_groups_40 : decode cX5_groups 40 = .ok (.invokevirtual 140, 3) := by decide +kernel
theorem dX5_groups_43 : decode cX5_groups 43 = .ok (.iload_n 1, 1) := by decide +kernel
theorem dX5_groups_44 : decode cX5_groups 44 = .ok (.ishr, 1) := by decide +kernel
theorem dX5_groups_45 : decode cX5_groups 45 = .ok (.iconst 1, 1) := by decide +kernel
theorem dX5_groups_46 : decode cX5_groups 46 = .ok (.iand, 1) := by decide +kernel
theorem dX5_groups_47 : decode cX5_groups 47 = .ok (.iconst 1, 1) := by decide +kernel
theorem dX5_groups_48 : decode cX5_groups 48 = .ok (.if_icmp .ne 7, 3) := by decide +kernel
theorem dX5_groups_51 : decode cX5_groups 51 = .ok (.iconst 1, 1) := by decide +kernel
theorem dX5_groups_52 : decode cX5_groups 52 = .ok (.goto 4, 3) := by decide +kernel
theorem dX5_groups_55 : decode cX5_groups 55 = .ok (.iconst 0, 1) := by decide +kernel
theorem dX5_groups_56 : decode cX5_groups 56 = .ok (.istore 6, 2) := by decide +kernel
theorem dX5_groups_58 : decode cX5_groups 58 = .ok (.iconst 0, 1) := by decide +kernel
theorem dX5_groups_59 : decode cX5_groups 59 = .ok (.istore 7, 2) := by decide +kernel
theorem dX5_groups_61 : decode cX5_groups 61 = .ok (.iload 7, 2) := by decide +kernel
theorem dX5_groups_63 : decode cX5_groups 63 = .ok (.iload 5, 2) := by decide +kernel
theorem dX5_groups_65 : decode cX5_groups 65 = .ok (.if_icmp .ge 48, 3) := by decide +kernel
theorem dX5_groups_68 : decode cX5_groups 68 = .ok (.iload 6, 2) := by decide +kernel
theorem dX5_groups_70 : decode cX5_groups 70 = .ok (.ifCond .eq 43, 3) := by decide +kernel
theorem dX5_groups_73 : decode cX5_groups 73 = .ok (.iload 7, 2) := by decide +kernel
theorem dX5_groups_75 : decode cX5_groups 75 = .ok (.iload 5, 2) := by decide +kernel
theorem dX5_groups_77 : decode cX5_groups 77 = .ok (.iconst (-1), 1) := by decide +kernel
theorem dX5_groups_78 : decode cX5_groups 78 = .ok (.ixor, 1) := by decide +kernel
theorem dX5_groups_79 : decode cX5_groups 79 = .ok (.iand, 1) := by decide +kernel
theorem dX5_groups_80 : decode cX5_groups 80 = .ok (.ifCond .ne 20, 3) := by decide +kernel
theorem dX5_groups_83 : decode cX5_groups 83 = .ok (.aload_n 0, 1) := by decide +kernel
theorem dX5_groups_84 : decode cX5_groups 84 = .ok (.aload_n 0, 1) := by decide +kernel
theorem dX5_groups_85 : decode cX5_groups 85 = .ok (.iload 7, 2) := by decide +kernel
theorem dX5_groups_87 : decode cX5_groups 87 = .ok (.invokevirtual 137, 3) := by decide +kernel
theorem dX5_groups_90 : decode cX5_groups 90 = .ok (.invokevirtual 140, 3) := by decide +kernel
theorem dX5_groups_93 : decode cX5_groups 93 = .ok (.iload_n 1, 1) := by decide +kernel
theorem dX5_groups_94 : decode cX5_groups 94 = .ok (.ishr, 1) := by decide +kernel
theorem dX5_groups_95 : decode cX5_groups 95 = .ok (.iconst 1, 1) := by decide +kernel
theorem dX5_groups_96 : decode cX5_groups 96 = .ok (.iand, 1) := by decide +kernel
theorem dX5_groups_97 : decode cX5_groups 97 = .ok (.ifCond .ne 7, 3) := by decide +kernel
theorem dX5_groups_100 : decode cX5_groups 100 = .ok (.iconst 1, 1) := by decide +kernel
theorem dX5_groups_101 : decode cX5_groups 101 = .ok (.goto 4, 3) := by decide +kernel
theorem dX5_groups_104 : decode cX5_groups 104 = .ok (.iconst 0, 1) := by decide +kernel
theorem dX5_groups_105 : decode cX5_groups 105 = .ok (.istore 6, 2) := by decide +kernel
theorem dX5_groups_107 : decode cX5_groups 107 = .ok (.iinc 7 1, 3) := by decide +kernel
theorem dX5_groups_110 : decode cX5_groups 110 = .ok (.goto (-49), 3) := by decide +kernel
theorem dX5_groups_113 : decode cX5_groups 113 = .ok (.iload 6, 2) := by decide +kernel
theorem dX5_groups_115 : decode cX5_groups 115 = .ok (.ifCond .eq 13, 3) := by decide +kernel
theorem dX5_groups_118 : decode cX5_groups 118 = .ok (.iload_n 3, 1) := by decide +kernel
theorem dX5_groups_119 : decode cX5_groups 119 = .ok (.iload_n 2, 1) := by decide +kernel
theorem dX5_groups_120 : decode cX5_groups 120 = .ok (.if_icmp .ne 8, 3) := by decide +kernel
theorem dX5_groups_123 : decode cX5_groups 123 = .ok (.iload 5, 2) := by decide +kernel
theorem dX5_groups_125 : decode cX5_groups 125 = .ok (.goto 5, 3) := by decide +kernel
theorem dX5_groups_128 : decode cX5_groups 128 = .ok (.iload 4, 2) := by decide +kernel
theorem dX5_groups_130 : decode cX5_groups 130 = .ok (.istore 4, 2) := by decide +kernel
theorem dX5_groups_132 : decode cX5_groups 132 = .ok (.iload_n 3, 1) := by decide +kernel
theorem dX5_groups_133 : decode cX5_groups 133 = .ok (.iload 6, 2) := by decide +kernel
theorem dX5_groups_135 : decode cX5_groups 135 = .ok (.ifCond .eq 7, 3) := by decide +kernel
theorem dX5_groups_138 : decode cX5_groups 138 = .ok (.iconst 1, 1) := by decide +kernel
theorem dX5_groups_139 : decode cX5_groups 139 = .ok (.goto 4, 3) := by decide +kernel
theorem dX5_groups_142 : decode cX5_groups 142 = .ok (.iconst 0, 1) := by decide +kernel
theorem dX5_groups_143 : decode cX5_groups 143 = .ok (.iadd, 1) := by decide +kernel
theorem dX5_groups_144 : decode cX5_groups 144 = .ok (.istore_n 3, 1) := by decide +kernel
theorem dX5_groups_145 : decode cX5_groups 145 = .ok (.iinc 5 1, 3) := by decide +kernel
theorem dX5_groups_148 : decode cX5_groups 148 = .ok (.goto (-124), 3) := by decide +kernel
theorem dX5_groups_151 : decode cX5_groups 151 = .ok (.iload_n 2, 1) := by decide +kernel
theorem dX5_groups_152 : decode cX5_groups 152 = .ok (.iconst (-1), 1) := by decide +kernel
theorem dX5_groups_153 : decode cX5_groups 153 = .ok (.if_icmp .ne 7, 3) := by decide +kernel
theorem dX5_groups_156 : decode cX5_groups 156 = .ok (.iload_n 3, 1) := by decide +kernel
theorem dX5_groups_157 : decode cX5_groups 157 = .ok (.goto 5, 3) := by decide +kernel
theorem dX5_groups_160 : decode cX5_groups 160 = .ok (.iload 4, 2) := by decide +kernel
theorem dX5_groups_162 : decode cX5_groups 162 = .ok (.ireturn, 1) := by decide +kernel
def T_X5_groups (post : PO) : List (Nat × OP) := [(0, o_aload 0 1), (1, o_iload 1 2), (2, o_callV 5 S_X5_isLock 1 5), (5, o_if (fun x => x = 0) 13 8), (8, o_iload 2 9), (9, o_const (-1) 10), (10, o_icmp (fun x y => y ≤ x) 15 13), (13, o_const (-1) 14), (14, o_iret post), (15, o_const 0 16), (16, o_istore 3 17), (17, o_const (-5) 19), (19, o_istore 4 21), (21, o_const 0 22), (22, o_istore 5 24), (24, o_aload 0 25), (25, o_iload 5 27), (27, o_callV 5 S_X5_isGroup 1 30), (30, o_if (fun x => x = 0) 151 33), (33, o_aload 0 34), (34, o_aload 0 35), (35, o_iload 5 37), (37, o_callV 5 S_X5_heldBy 1 40), (40, o_callV 5 S_X5_opensBy 1 43), (43, o_iload 1 44), (44, o_bin (fun x y => x >>> (y &&& 31)) 45), (45, o_const 1 46), (46, o_bin (fun x y => x &&& y) 47), (47, o_const 1 48), (48, o_icmp (fun x y => x = y) 51 55), (51, o_const 1 52), (52, o_goto 56), (55, o_const 0 56), (56, o_istore 6 58), (58, o_const 0 59), (59, o_istore 7 61), (61, o_iload 7 63), (63, o_iload 5 65), (65, o_icmp (fun x y => y ≤ x) 113 68), (68, o_iload 6 70), (70, o_if (fun x => x = 0) 113 73), (73, o_iload 7 75), (75, o_iload 5 77), (77, o_const (-1) 78), (78, o_bin (fun x y => x ^^^ y) 79), (79, o_bin (fun x y => x &&& y) 80), (80, o_if (fun x => x = 0) 83 100), (83, o_aload 0 84), (84, o_aload 0 85), (85, o_iload 7 87), (87, o_callV 5 S_X5_heldBy 1 90), (90, o_callV 5 S_X5_opensBy 1 93), (93, o_iload 1 94), (94, o_bin (fun x y => x >>> (y &&& 31)) 95), (95, o_const 1 96), (96, o_bin (fun x y => x &&& y) 97), (97, o_if (fun x => x = 0) 100 104), (100, o_const 1 101), (101, o_goto 105), (104, o_const 0 105), (105, o_istore 6 107), (107, o_iinc 7 1 110), (110, o_goto 61), (113, o_iload 6 115), (115, o_if (fun x => x = 0) 128 118), (118, o_iload 3 119), (119, o_iload 2 120), (120, o_icmp (fun x y => x = y) 123 128), (123, o_iload 5 125), (125, o_goto 130), (128, o_iload 4 130), (130, o_istore 4 132), (132, o_iload 3 133), (133, o_iload 6 135), (135, o_if (fun x => x = 0) 142 138), (138, o_const 1 139), (139, o_goto 143), (142, o_const 0 143), (143, o_bin (fun x y => x + y) 144), (144, o_istore 3 145), (145, o_iinc 5 1 148), (148, o_goto 24), (151, o_iload 2 152), (152, o_const (-1) 153), (153, o_icmp (fun x y => x = y) 156 160), (156, o_iload 3 157), (157, o_goto 162), (160, o_iload 4 162), (162, o_iret post)]
theorem k_X5_groups_0 (post : PO) : lk (T_X5_groups post) 0 = o_aload 0 1 := rfl
theorem k_X5_groups_1 (post : PO) : lk (T_X5_groups post) 1 = o_iload 1 2 := rfl
theorem k_X5_groups_2 (post : PO) : lk (T_X5_groups post) 2 = o_callV 5 S_X5_isLock 1 5 := rfl
theorem k_X5_groups_5 (post : PO) : lk (T_X5_groups post) 5 = o_if (fun x => x = 0) 13 8 := rfl
theorem k_X5_groups_8 (post : PO) : lk (T_X5_groups post) 8 = o_iload 2 9 := rfl
theorem k_X5_groups_9 (post : PO) : lk (T_X5_groups post) 9 = o_const (-1) 10 := rfl
theorem k_X5_groups_10 (post : PO) : lk (T_X5_groups post) 10 = o_icmp (fun x y => y ≤ x) 15 13 := rfl
theorem k_X5_groups_13 (post : PO) : lk (T_X5_groups post) 13 = o_const (-1) 14 := rfl
theorem k_X5_groups_14 (post : PO) : lk (T_X5_groups post) 14 = o_iret post := rfl
theorem k_X5_groups_15 (post : PO) : lk (T_X5_groups post) 15 = o_const 0 16 := rfl
theorem k_X5_groups_16 (post : PO) : lk (T_X5_groups post) 16 = o_istore 3 17 := rfl
theorem k_X5_groups_17 (post : PO) : lk (T_X5_groups post) 17 = o_const (-5) 19 := rfl
theorem k_X5_groups_19 (post : PO) : lk (T_X5_groups post) 19 = o_istore 4 21 := rfl
theorem k_X5_groups_21 (post : PO) : lk (T_X5_groups post) 21 = o_const 0 22 := rfl
theorem k_X5_groups_22 (post : PO) : lk (T_X5_groups post) 22 = o_istore 5 24 := rfl
theorem k_X5_groups_24 (post : PO) : lk (T_X5_groups post) 24 = o_aload 0 25 := rfl
theorem k_X5_groups_25 (post : PO) : lk (T_X5_groups post) 25 = o_iload 5 27 := rfl
theorem k_X5_groups_27 (post : PO) : lk (T_X5_groups post) 27 = o_callV 5 S_X5_isGroup 1 30 := rfl
theorem k_X5_groups_30 (post : PO) : lk (T_X5_groups post) 30 = o_if (fun x => x = 0) 151 33 := rfl
theorem k_X5_groups_33 (post : PO) : lk (T_X5_groups post) 33 = o_aload 0 34 := rfl
theorem k_X5_groups_34 (post : PO) : lk (T_X5_groups post) 34 = o_aload 0 35 := rfl
theorem k_X5_groups_35 (post : PO) : lk (T_X5_groups post) 35 = o_iload 5 37 := rfl
theorem k_X5_groups_37 (post : PO) : lk (T_X5_groups post) 37 = o_callV 5 S_X5_heldBy 1 40 := rfl
theorem k_X5_groups_40 (post : PO) : lk (T_X5_groups post) 40 = o_callV 5 S_X5_opensBy 1 43 := rfl
theorem k_X5_groups_43 (post : PO) : lk (T_X5_groups post) 43 = o_iload 1 44 := rfl
theorem k_X5_groups_44 (post : PO) : lk (T_X5_groups post) 44 = o_bin (fun x y => x >>> (y &&& 31)) 45 := rfl
theorem k_X5_groups_45 (post : PO) : lk (T_X5_groups post) 45 = o_const 1 46 := rfl
theorem k_X5_groups_46 (post : PO) : lk (T_X5_groups post) 46 = o_bin (fun x y => x &&& y) 47 := rfl
theorem k_X5_groups_47 (post : PO) : lk (T_X5_groups post) 47 = o_const 1 48 := rfl
theorem k_X5_groups_48 (post : PO) : lk (T_X5_groups post) 48 = o_icmp (fun x y => x = y) 51 55 := rfl
theorem k_X5_groups_51 (post : PO) : lk (T_X5_groups post) 51 = o_const 1 52 := rfl
theorem k_X5_groups_52 (post : PO) : lk (T_X5_groups post) 52 = o_goto 56 := rfl
theorem k_X5_groups_55 (post : PO) : lk (T_X5_groups post) 55 = o_const 0 56 := rfl
theorem k_X5_groups_56 (post : PO) : lk (T_X5_groups post) 56 = o_istore 6 58 := rfl
theorem k_X5_groups_58 (post : PO) : lk (T_X5_groups post) 58 = o_const 0 59 := rfl
theorem k_X5_groups_59 (post : PO) : lk (T_X5_groups post) 59 = o_istore 7 61 := rfl
theorem k_X5_groups_61 (post : PO) : lk (T_X5_groups post) 61 = o_iload 7 63 := rfl
theorem k_X5_groups_63 (post : PO) : lk (T_X5_groups post) 63 = o_iload 5 65 := rfl
theorem k_X5_groups_65 (post : PO) : lk (T_X5_groups post) 65 = o_icmp (fun x y => y ≤ x) 113 68 := rfl
theorem k_X5_groups_68 (post : PO) : lk (T_X5_groups post) 68 = o_iload 6 70 := rfl
theorem k_X5_groups_70 (post : PO) : lk (T_X5_groups post) 70 = o_if (fun x => x = 0) 113 73 := rfl
theorem k_X5_groups_73 (post : PO) : lk (T_X5_groups post) 73 = o_iload 7 75 := rfl
theorem k_X5_groups_75 (post : PO) : lk (T_X5_groups post) 75 = o_iload 5 77 := rfl
theorem k_X5_groups_77 (post : PO) : lk (T_X5_groups post) 77 = o_const (-1) 78 := rfl
theorem k_X5_groups_78 (post : PO) : lk (T_X5_groups post) 78 = o_bin (fun x y => x ^^^ y) 79 := rfl
theorem k_X5_groups_79 (post : PO) : lk (T_X5_groups post) 79 = o_bin (fun x y => x &&& y) 80 := rfl
theorem k_X5_groups_80 (post : PO) : lk (T_X5_groups post) 80 = o_if (fun x => x = 0) 83 100 := rfl
theorem k_X5_groups_83 (post : PO) : lk (T_X5_groups post) 83 = o_aload 0 84 := rfl
theorem k_X5_groups_84 (post : PO) : lk (T_X5_groups post) 84 = o_aload 0 85 := rfl
theorem k_X5_groups_85 (post : PO) : lk (T_X5_groups post) 85 = o_iload 7 87 := rfl
theorem k_X5_groups_87 (post : PO) : lk (T_X5_groups post) 87 = o_callV 5 S_X5_heldBy 1 90 := rfl
theorem k_X5_groups_90 (post : PO) : lk (T_X5_groups post) 90 = o_callV 5 S_X5_opensBy 1 93 := rfl
theorem k_X5_groups_93 (post : PO) : lk (T_X5_groups post) 93 = o_iload 1 94 := rfl
theorem k_X5_groups_94 (post : PO) : lk (T_X5_groups post) 94 = o_bin (fun x y => x >>> (y &&& 31)) 95 := rfl
theorem k_X5_groups_95 (post : PO) : lk (T_X5_groups post) 95 = o_const 1 96 := rfl
theorem k_X5_groups_96 (post : PO) : lk (T_X5_groups post) 96 = o_bin (fun x y => x &&& y) 97 := rfl
theorem k_X5_groups_97 (post : PO) : lk (T_X5_groups post) 97 = o_if (fun x => x = 0) 100 104 := rfl
theorem k_X5_groups_100 (post : PO) : lk (T_X5_groups post) 100 = o_const 1 101 := rfl
theorem k_X5_groups_101 (post : PO) : lk (T_X5_groups post) 101 = o_goto 105 := rfl
theorem k_X5_groups_104 (post : PO) : lk (T_X5_groups post) 104 = o_const 0 105 := rfl
theorem k_X5_groups_105 (post : PO) : lk (T_X5_groups post) 105 = o_istore 6 107 := rfl
theorem k_X5_groups_107 (post : PO) : lk (T_X5_groups post) 107 = o_iinc 7 1 110 := rfl
theorem k_X5_groups_110 (post : PO) : lk (T_X5_groups post) 110 = o_goto 61 := rfl
theorem k_X5_groups_113 (post : PO) : lk (T_X5_groups post) 113 = o_iload 6 115 := rfl
theorem k_X5_groups_115 (post : PO) : lk (T_X5_groups post) 115 = o_if (fun x => x = 0) 128 118 := rfl
theorem k_X5_groups_118 (post : PO) : lk (T_X5_groups post) 118 = o_iload 3 119 := rfl
theorem k_X5_groups_119 (post : PO) : lk (T_X5_groups post) 119 = o_iload 2 120 := rfl
theorem k_X5_groups_120 (post : PO) : lk (T_X5_groups post) 120 = o_icmp (fun x y => x = y) 123 128 := rfl
theorem k_X5_groups_123 (post : PO) : lk (T_X5_groups post) 123 = o_iload 5 125 := rfl
theorem k_X5_groups_125 (post : PO) : lk (T_X5_groups post) 125 = o_goto 130 := rfl
theorem k_X5_groups_128 (post : PO) : lk (T_X5_groups post) 128 = o_iload 4 130 := rfl
theorem k_X5_groups_130 (post : PO) : lk (T_X5_groups post) 130 = o_istore 4 132 := rfl
theorem k_X5_groups_132 (post : PO) : lk (T_X5_groups post) 132 = o_iload 3 133 := rfl
theorem k_X5_groups_133 (post : PO) : lk (T_X5_groups post) 133 = o_iload 6 135 := rfl
theorem k_X5_groups_135 (post : PO) : lk (T_X5_groups post) 135 = o_if (fun x => x = 0) 142 138 := rfl
theorem k_X5_groups_138 (post : PO) : lk (T_X5_groups post) 138 = o_const 1 139 := rfl
theorem k_X5_groups_139 (post : PO) : lk (T_X5_groups post) 139 = o_goto 143 := rfl
theorem k_X5_groups_142 (post : PO) : lk (T_X5_groups post) 142 = o_const 0 143 := rfl
theorem k_X5_groups_143 (post : PO) : lk (T_X5_groups post) 143 = o_bin (fun x y => x + y) 144 := rfl
theorem k_X5_groups_144 (post : PO) : lk (T_X5_groups post) 144 = o_istore 3 145 := rfl
theorem k_X5_groups_145 (post : PO) : lk (T_X5_groups post) 145 = o_iinc 5 1 148 := rfl
theorem k_X5_groups_148 (post : PO) : lk (T_X5_groups post) 148 = o_goto 24 := rfl
theorem k_X5_groups_151 (post : PO) : lk (T_X5_groups post) 151 = o_iload 2 152 := rfl
theorem k_X5_groups_152 (post : PO) : lk (T_X5_groups post) 152 = o_const (-1) 153 := rfl
theorem k_X5_groups_153 (post : PO) : lk (T_X5_groups post) 153 = o_icmp (fun x y => x = y) 156 160 := rfl
theorem k_X5_groups_156 (post : PO) : lk (T_X5_groups post) 156 = o_iload 3 157 := rfl
theorem k_X5_groups_157 (post : PO) : lk (T_X5_groups post) 157 = o_goto 162 := rfl
theorem k_X5_groups_160 (post : PO) : lk (T_X5_groups post) 160 = o_iload 4 162 := rfl
theorem k_X5_groups_162 (post : PO) : lk (T_X5_groups post) 162 = o_iret post := rfl
set_option maxRecDepth 100000 in
theorem t_X5_groups {p : Program} {l : Launch} {e : Env} {s : State} {m : MethodId} {args : Array Value} {below : List Frame} {meth : Method} {c : Code} {D : va_G} {dA : Nat → ClassId} {ad : Nat → Nat} (post : PO) (C : CX p s m args meth c cX5_groups 8 yX5_groups.cls D dA ad (AA ad s.heap.size)) (hr : meth.sig.returnType = (some .int)) : SndL (WW p l e ({ frames := 3, cells := 0, slots := 0, locals := 66 } : Room) s m args below meth c 0 0 (MQ below (CQ D dA ad post (AA ad s.heap.size)) args s 0 0 (AA ad s.heap.size)) 8 D dA ad (AA ad s.heap.size)) (T_X5_groups post) := by
  refine snd_c (s_aload_n C rfl dX5_groups_0) ?_
  refine snd_c (s_iload_n C rfl dX5_groups_1) ?_
  refine snd_c (s_callV C (ci := 5) c_X5_isLock rfl cw_RX5_101 ⟨rfl, rfl⟩ ⟨by decide +kernel, by decide +kernel, by decide +kernel⟩ ⟨by decide, by decide⟩ ⟨Nat.zero_le _, Nat.zero_le _⟩ dX5_groups_2) ?_
  refine snd_c (s_if_eq C dX5_groups_5 (by decide)) ?_
  refine snd_c (s_iload_n C rfl dX5_groups_8) ?_
  refine snd_c (s_iconst C dX5_groups_9 rfl) ?_
  refine snd_c (s_icmp_ge C dX5_groups_10 (by decide)) ?_
  refine snd_c (s_iconst C dX5_groups_13 rfl) ?_
  refine snd_c (s_iret C hr dX5_groups_14) ?_
  refine snd_c (s_iconst C dX5_groups_15 rfl) ?_
  refine snd_c (s_istore_n C rfl (by decide) dX5_groups_16) ?_
  refine snd_c (s_bipush C dX5_groups_17 rfl) ?_
  refine snd_c (s_istore C (by decide) dX5_groups_19) ?_
  refine snd_c (s_iconst C dX5_groups_21 rfl) ?_
  refine snd_c (s_istore C (by decide) dX5_groups_22) ?_
  refine snd_c (s_aload_n C rfl dX5_groups_24) ?_
  refine snd_c (s_iload C dX5_groups_25) ?_
  refine snd_c (s_callV C (ci := 5) c_X5_isGroup rfl cw_RX5_134 ⟨rfl, rfl⟩ ⟨by decide +kernel, by decide +kernel, by decide +kernel⟩ ⟨by decide, by decide⟩ ⟨Nat.zero_le _, Nat.zero_le _⟩ dX5_groups_27) ?_
  refine snd_c (s_if_eq C dX5_groups_30 (by decide)) ?_
  refine snd_c (s_aload_n C rfl dX5_groups_33) ?_
  refine snd_c (s_aload_n C rfl dX5_groups_34) ?_
  refine snd_c (s_iload C dX5_groups_35) ?_
  refine snd_c (s_callV C (ci := 5) c_X5_heldBy rfl cw_RX5_137 ⟨rfl, rfl⟩ ⟨by decide +kernel, by decide +kernel, by decide +kernel⟩ ⟨by decide, by decide⟩ ⟨Nat.zero_le _, Nat.zero_le _⟩ dX5_groups_37) ?_
  refine snd_c (s_callV C (ci := 5) c_X5_opensBy rfl cw_RX5_140 ⟨rfl, rfl⟩ ⟨by decide +kernel, by decide +kernel, by decide +kernel⟩ ⟨by decide, by decide⟩ ⟨Nat.zero_le _, Nat.zero_le _⟩ dX5_groups_40) ?_
  refine snd_c (s_iload_n C rfl dX5_groups_43) ?_
  refine snd_c (s_ishr C dX5_groups_44) ?_
  refine snd_c (s_iconst C dX5_groups_45 rfl) ?_
  refine snd_c (s_iand C dX5_groups_46) ?_
  refine snd_c (s_iconst C dX5_groups_47 rfl) ?_
  refine snd_c (s_icmp_ne C dX5_groups_48 (by decide)) ?_
  refine snd_c (s_iconst C dX5_groups_51 rfl) ?_
  refine snd_c (s_goto C dX5_groups_52 (by decide)) ?_
  refine snd_c (s_iconst C dX5_groups_55 rfl) ?_
  refine snd_c (s_istore C (by decide) dX5_groups_56) ?_
  refine snd_c (s_iconst C dX5_groups_58 rfl) ?_
  refine snd_c (s_istore C (by decide) dX5_groups_59) ?_
  refine snd_c (s_iload C dX5_groups_61) ?_
  refine snd_c (s_iload C dX5_groups_63) ?_
  refine snd_c (s_icmp_ge C dX5_groups_65 (by decide)) ?_
  refine snd_c (s_iload C dX5_groups_68) ?_
  refine snd_c (s_if_eq C dX5_groups_70 (by decide)) ?_
  refine snd_c (s_iload C dX5_groups_73) ?_
  refine snd_c (s_iload C dX5_groups_75) ?_
  refine snd_c (s_iconst C dX5_groups_77 rfl) ?_
  refine snd_c (s_ixor C dX5_groups_78) ?_
  refine snd_c (s_iand C dX5_groups_79) ?_
  refine snd_c (s_if_ne C dX5_groups_80 (by decide)) ?_
  refine snd_c (s_aload_n C rfl dX5_groups_83) ?_
  refine snd_c (s_aload_n C rfl dX5_groups_84) ?_
  refine snd_c (s_iload C dX5_groups_85) ?_
  refine snd_c (s_callV C (ci := 5) c_X5_heldBy rfl cw_RX5_137 ⟨rfl, rfl⟩ ⟨by decide +kernel, by decide +kernel, by decide +kernel⟩ ⟨by decide, by decide⟩ ⟨Nat.zero_le _, Nat.zero_le _⟩ dX5_groups_87) ?_
  refine snd_c (s_callV C (ci := 5) c_X5_opensBy rfl cw_RX5_140 ⟨rfl, rfl⟩ ⟨by decide +kernel, by decide +kernel, by decide +kernel⟩ ⟨by decide, by decide⟩ ⟨Nat.zero_le _, Nat.zero_le _⟩ dX5_groups_90) ?_
  refine snd_c (s_iload_n C rfl dX5_groups_93) ?_
  refine snd_c (s_ishr C dX5_groups_94) ?_
  refine snd_c (s_iconst C dX5_groups_95 rfl) ?_
  refine snd_c (s_iand C dX5_groups_96) ?_
  refine snd_c (s_if_ne C dX5_groups_97 (by decide)) ?_
  refine snd_c (s_iconst C dX5_groups_100 rfl) ?_
  refine snd_c (s_goto C dX5_groups_101 (by decide)) ?_
  refine snd_c (s_iconst C dX5_groups_104 rfl) ?_
  refine snd_c (s_istore C (by decide) dX5_groups_105) ?_
  refine snd_c (s_iinc C (by decide) rfl dX5_groups_107) ?_
  refine snd_c (s_goto C dX5_groups_110 (by decide)) ?_
  refine snd_c (s_iload C dX5_groups_113) ?_
  refine snd_c (s_if_eq C dX5_groups_115 (by decide)) ?_
  refine snd_c (s_iload_n C rfl dX5_groups_118) ?_
  refine snd_c (s_iload_n C rfl dX5_groups_119) ?_
  refine snd_c (s_icmp_ne C dX5_groups_120 (by decide)) ?_
  refine snd_c (s_iload C dX5_groups_123) ?_
  refine snd_c (s_goto C dX5_groups_125 (by decide)) ?_
  refine snd_c (s_iload C dX5_groups_128) ?_
  refine snd_c (s_istore C (by decide) dX5_groups_130) ?_
  refine snd_c (s_iload_n C rfl dX5_groups_132) ?_
  refine snd_c (s_iload C dX5_groups_133) ?_
  refine snd_c (s_if_eq C dX5_groups_135 (by decide)) ?_
  refine snd_c (s_iconst C dX5_groups_138 rfl) ?_
  refine snd_c (s_goto C dX5_groups_139 (by decide)) ?_
  refine snd_c (s_iconst C dX5_groups_142 rfl) ?_
  refine snd_c (s_iadd C dX5_groups_143) ?_
  refine snd_c (s_istore_n C rfl (by decide) dX5_groups_144) ?_
  refine snd_c (s_iinc C (by decide) rfl dX5_groups_145) ?_
  refine snd_c (s_goto C dX5_groups_148 (by decide)) ?_
  refine snd_c (s_iload_n C rfl dX5_groups_151) ?_
  refine snd_c (s_iconst C dX5_groups_152 rfl) ?_
  refine snd_c (s_icmp_ne C dX5_groups_153 (by decide)) ?_
  refine snd_c (s_iload_n C rfl dX5_groups_156) ?_
  refine snd_c (s_goto C dX5_groups_157 (by decide)) ?_
  refine snd_c (s_iload C dX5_groups_160) ?_
  refine snd_c (s_iret C hr dX5_groups_162) ?_
  exact trivial
set_option maxRecDepth 100000 in
theorem v_X5_groups : ∀ as M post, S_X5_groups as M post → wsum as ≤ 8 ∧ RUN (T_X5_groups post) 0 (entL 8 as) [] M := by
  rintro as M post ⟨x, i, n, c, p, r, h0, lk, rfl, hX, hH, h1, h2, h3⟩
  have hX0 := hX
  obtain ⟨hn, hn8, hc, hc6, hp, hp4, hr, hhk, hl⟩ := hX
  have hrl : ∀ k, k < n → r k < 512 := fun k hk => (hr k hk).2
  have hpp := ev_lt hp4
  have hp1 := Nat.one_le_two_pow (n := p)
  have a0 : ∀ q : Nat, nI q + 0 = nI q := fun q => by rw [show (0 : Int32) = nI 0 from rfl, nI_add, Nat.add_zero]
  refine ⟨by show 3 ≤ 8; omega, run_of [24, 61] (fun μ pc lv st M' => st = [] ∧ ∃ l g f v, x = nI l ∧ l < c ∧ -1 ≤ i ∧ g ≤ 2 ^ p ∧ M' = sA 36 f M ∧ anS (flt (isLB r h0 n p lk c l) g) i v ∧ ((pc = 24 ∧ (100 - g) * 100 + 99 = μ ∧ lv = [some (VR 39), some (VI x), some (VI i), some (VI (nI (flt (isLB r h0 n p lk c l) g).length)), some (VI v), some (VI (nI g)), none, none]) ∨ (pc = 61 ∧ g < 2 ^ p ∧ ∃ k ok, k ≤ g ∧ ((ok = 1 ∧ noP r h0 n p lk c l g k) ∨ (ok = 0 ∧ ¬ isLst r h0 n p lk c g l)) ∧ (100 - g) * 100 + 98 - k = μ ∧ lv = [some (VR 39), some (VI x), some (VI i), some (VI (nI (flt (isLB r h0 n p lk c l) g).length)), some (VI v), some (VI (nI g)), some (VI ok), some (VI (nI k))]))) 80 20000 ?_ ?_⟩
  · rintro μ pc lv st M' ⟨rfl, l, g, f, v, rfl, hlc, hz, hg, rfl, hv, ⟨rfl, rfl, rfl⟩ | ⟨rfl, hg2, k, ok, hk, hok, rfl, rfl⟩⟩
    · dsimp only [k_X5_groups_0, k_X5_groups_1, k_X5_groups_2, k_X5_groups_5, k_X5_groups_8, k_X5_groups_9, k_X5_groups_10, k_X5_groups_13, k_X5_groups_14, k_X5_groups_15, k_X5_groups_16, k_X5_groups_17, k_X5_groups_19, k_X5_groups_21, k_X5_groups_22, k_X5_groups_24, k_X5_groups_25, k_X5_groups_27, k_X5_groups_30, k_X5_groups_33, k_X5_groups_34, k_X5_groups_35, k_X5_groups_37, k_X5_groups_40, k_X5_groups_43, k_X5_groups_44, k_X5_groups_45, k_X5_groups_46, k_X5_groups_47, k_X5_groups_48, k_X5_groups_51, k_X5_groups_52, k_X5_groups_55, k_X5_groups_56, k_X5_groups_58, k_X5_groups_59, k_X5_groups_61, k_X5_groups_63, k_X5_groups_65, k_X5_groups_68, k_X5_groups_70, k_X5_groups_73, k_X5_groups_75, k_X5_groups_77, k_X5_groups_78, k_X5_groups_79, k_X5_groups_80, k_X5_groups_83, k_X5_groups_84, k_X5_groups_85, k_X5_groups_87, k_X5_groups_90, k_X5_groups_93, k_X5_groups_94, k_X5_groups_95, k_X5_groups_96, k_X5_groups_97, k_X5_groups_100, k_X5_groups_101, k_X5_groups_104, k_X5_groups_105, k_X5_groups_107, k_X5_groups_110, k_X5_groups_113, k_X5_groups_115, k_X5_groups_118, k_X5_groups_119, k_X5_groups_120, k_X5_groups_123, k_X5_groups_125, k_X5_groups_128, k_X5_groups_130, k_X5_groups_132, k_X5_groups_133, k_X5_groups_135, k_X5_groups_138, k_X5_groups_139, k_X5_groups_142, k_X5_groups_143, k_X5_groups_144, k_X5_groups_145, k_X5_groups_148, k_X5_groups_151, k_X5_groups_152, k_X5_groups_153, k_X5_groups_156, k_X5_groups_157, k_X5_groups_160, k_X5_groups_162, wp1, wp_s, cutIn, kont, Nat.reduceSub, Nat.reduceAdd, nth, o_const, o_lconst, o_ref, o_iload, o_lload, o_aload, o_istore, o_lstore, o_astore, o_iinc, o_bin, o_div, o_un, o_lbin, o_lsh, o_lcmp, o_i2l, o_l2i, o_if, o_icmp, o_goto, o_dup, o_dup2, o_pop, fav, o_getf, o_putI, o_putZ, o_putL, o_ald, o_ast, o_alen, popn, rst, o_callV, o_callT, o_callS, swx, o_sw, o_ret, o_iret, o_zret, o_cret, o_lret, o_aret, lg, lput, lput2, ls1, isL, entL, wsum, rdI1, rdI2, rdA1, rdA21, rdA22, rdL1, rdL22, rdL21, upN_at, rep, sh_0, F_0_0, F_0_1, F_0_2, F_0_3, F_0_4, F_0_5, F_0_6, F_0_7, F_0_8, sh_1, F_1_0, F_1_1, F_1_2, F_1_3, F_1_4, F_1_5, sh_3, F_3_0, F_3_1, F_3_2, F_3_3, F_3_4, F_3_5, sh_5, F_5_0, F_5_1, F_5_2, F_5_3, F_5_4, F_5_5, F_5_6, F_5_7, F_5_8, sh_12, F_12_0, F_12_1, F_12_2, F_12_3, F_12_4, F_12_5, sh_14, F_14_0, F_14_1, F_14_2, F_14_3, F_14_4, F_14_5, F_14_6, F_14_7, F_14_8, sh_21, F_21_0, F_21_1, F_21_2, F_21_3, F_21_4, F_21_5, F_21_6, F_21_7, F_21_8, sh_28, F_28_0, F_28_1, F_28_2, F_28_3, F_28_4, F_28_5, F_28_6, F_28_7, F_28_8, sh_35, F_35_0, sh_39, F_39_0, F_39_1, F_39_2, F_39_3, F_39_4, F_39_5, F_39_6, F_39_7, F_39_8, F_39_9, F_39_10, F_39_11, F_39_12, F_39_13, A_2, A_4, A_6, A_7, A_8, A_9, A_10, A_11, A_13, A_15, A_16, A_17, A_18, A_19, A_20, A_22, A_23, A_24, A_25, A_26, A_27, A_29, A_30, A_31, A_32, A_33, A_34, A_36, A_37, A_38, A_40, A_41, A_42, A_43, A_44, A_45, A_46, A_47]
      refine ⟨nI g, n, c, p, r, h0, lk, rfl, MW_36 hX0 f, fun w1 => ?_, fun w1 => ?_⟩
      · have hg2 : g < 2 ^ p := by
          have := w1.2
          rwa [nI_ltI (by omega) (by omega)] at this
        dsimp only [k_X5_groups_0, k_X5_groups_1, k_X5_groups_2, k_X5_groups_5, k_X5_groups_8, k_X5_groups_9, k_X5_groups_10, k_X5_groups_13, k_X5_groups_14, k_X5_groups_15, k_X5_groups_16, k_X5_groups_17, k_X5_groups_19, k_X5_groups_21, k_X5_groups_22, k_X5_groups_24, k_X5_groups_25, k_X5_groups_27, k_X5_groups_30, k_X5_groups_33, k_X5_groups_34, k_X5_groups_35, k_X5_groups_37, k_X5_groups_40, k_X5_groups_43, k_X5_groups_44, k_X5_groups_45, k_X5_groups_46, k_X5_groups_47, k_X5_groups_48, k_X5_groups_51, k_X5_groups_52, k_X5_groups_55, k_X5_groups_56, k_X5_groups_58, k_X5_groups_59, k_X5_groups_61, k_X5_groups_63, k_X5_groups_65, k_X5_groups_68, k_X5_groups_70, k_X5_groups_73, k_X5_groups_75, k_X5_groups_77, k_X5_groups_78, k_X5_groups_79, k_X5_groups_80, k_X5_groups_83, k_X5_groups_84, k_X5_groups_85, k_X5_groups_87, k_X5_groups_90, k_X5_groups_93, k_X5_groups_94, k_X5_groups_95, k_X5_groups_96, k_X5_groups_97, k_X5_groups_100, k_X5_groups_101, k_X5_groups_104, k_X5_groups_105, k_X5_groups_107, k_X5_groups_110, k_X5_groups_113, k_X5_groups_115, k_X5_groups_118, k_X5_groups_119, k_X5_groups_120, k_X5_groups_123, k_X5_groups_125, k_X5_groups_128, k_X5_groups_130, k_X5_groups_132, k_X5_groups_133, k_X5_groups_135, k_X5_groups_138, k_X5_groups_139, k_X5_groups_142, k_X5_groups_143, k_X5_groups_144, k_X5_groups_145, k_X5_groups_148, k_X5_groups_151, k_X5_groups_152, k_X5_groups_153, k_X5_groups_156, k_X5_groups_157, k_X5_groups_160, k_X5_groups_162, wp1, wp_s, cutIn, kont, Nat.reduceSub, Nat.reduceAdd, nth, o_const, o_lconst, o_ref, o_iload, o_lload, o_aload, o_istore, o_lstore, o_astore, o_iinc, o_bin, o_div, o_un, o_lbin, o_lsh, o_lcmp, o_i2l, o_l2i, o_if, o_icmp, o_goto, o_dup, o_dup2, o_pop, fav, o_getf, o_putI, o_putZ, o_putL, o_ald, o_ast, o_alen, popn, rst, o_callV, o_callT, o_callS, swx, o_sw, o_ret, o_iret, o_zret, o_cret, o_lret, o_aret, lg, lput, lput2, ls1, isL, entL, wsum, rdI1, rdI2, rdA1, rdA21, rdA22, rdL1, rdL22, rdL21, upN_at, rep, sh_0, F_0_0, F_0_1, F_0_2, F_0_3, F_0_4, F_0_5, F_0_6, F_0_7, F_0_8, sh_1, F_1_0, F_1_1, F_1_2, F_1_3, F_1_4, F_1_5, sh_3, F_3_0, F_3_1, F_3_2, F_3_3, F_3_4, F_3_5, sh_5, F_5_0, F_5_1, F_5_2, F_5_3, F_5_4, F_5_5, F_5_6, F_5_7, F_5_8, sh_12, F_12_0, F_12_1, F_12_2, F_12_3, F_12_4, F_12_5, sh_14, F_14_0, F_14_1, F_14_2, F_14_3, F_14_4, F_14_5, F_14_6, F_14_7, F_14_8, sh_21, F_21_0, F_21_1, F_21_2, F_21_3, F_21_4, F_21_5, F_21_6, F_21_7, F_21_8, sh_28, F_28_0, F_28_1, F_28_2, F_28_3, F_28_4, F_28_5, F_28_6, F_28_7, F_28_8, sh_35, F_35_0, sh_39, F_39_0, F_39_1, F_39_2, F_39_3, F_39_4, F_39_5, F_39_6, F_39_7, F_39_8, F_39_9, F_39_10, F_39_11, F_39_12, F_39_13, A_2, A_4, A_6, A_7, A_8, A_9, A_10, A_11, A_13, A_15, A_16, A_17, A_18, A_19, A_20, A_22, A_23, A_24, A_25, A_26, A_27, A_29, A_30, A_31, A_32, A_33, A_34, A_36, A_37, A_38, A_40, A_41, A_42, A_43, A_44, A_45, A_46, A_47]
        simp (config := { decide := true }) only [true_implies, false_implies, and_true, true_and, not_true_eq_false, not_false_eq_true, forall_const, a0]
        refine ⟨g, n, c, p, r, h0, lk, rfl, MW_36 hX0 f, hH, by omega, ?_⟩
        dsimp only [k_X5_groups_0, k_X5_groups_1, k_X5_groups_2, k_X5_groups_5, k_X5_groups_8, k_X5_groups_9, k_X5_groups_10, k_X5_groups_13, k_X5_groups_14, k_X5_groups_15, k_X5_groups_16, k_X5_groups_17, k_X5_groups_19, k_X5_groups_21, k_X5_groups_22, k_X5_groups_24, k_X5_groups_25, k_X5_groups_27, k_X5_groups_30, k_X5_groups_33, k_X5_groups_34, k_X5_groups_35, k_X5_groups_37, k_X5_groups_40, k_X5_groups_43, k_X5_groups_44, k_X5_groups_45, k_X5_groups_46, k_X5_groups_47, k_X5_groups_48, k_X5_groups_51, k_X5_groups_52, k_X5_groups_55, k_X5_groups_56, k_X5_groups_58, k_X5_groups_59, k_X5_groups_61, k_X5_groups_63, k_X5_groups_65, k_X5_groups_68, k_X5_groups_70, k_X5_groups_73, k_X5_groups_75, k_X5_groups_77, k_X5_groups_78, k_X5_groups_79, k_X5_groups_80, k_X5_groups_83, k_X5_groups_84, k_X5_groups_85, k_X5_groups_87, k_X5_groups_90, k_X5_groups_93, k_X5_groups_94, k_X5_groups_95, k_X5_groups_96, k_X5_groups_97, k_X5_groups_100, k_X5_groups_101, k_X5_groups_104, k_X5_groups_105, k_X5_groups_107, k_X5_groups_110, k_X5_groups_113, k_X5_groups_115, k_X5_groups_118, k_X5_groups_119, k_X5_groups_120, k_X5_groups_123, k_X5_groups_125, k_X5_groups_128, k_X5_groups_130, k_X5_groups_132, k_X5_groups_133, k_X5_groups_135, k_X5_groups_138, k_X5_groups_139, k_X5_groups_142, k_X5_groups_143, k_X5_groups_144, k_X5_groups_145, k_X5_groups_148, k_X5_groups_151, k_X5_groups_152, k_X5_groups_153, k_X5_groups_156, k_X5_groups_157, k_X5_groups_160, k_X5_groups_162, wp1, wp_s, cutIn, kont, Nat.reduceSub, Nat.reduceAdd, nth, o_const, o_lconst, o_ref, o_iload, o_lload, o_aload, o_istore, o_lstore, o_astore, o_iinc, o_bin, o_div, o_un, o_lbin, o_lsh, o_lcmp, o_i2l, o_l2i, o_if, o_icmp, o_goto, o_dup, o_dup2, o_pop, fav, o_getf, o_putI, o_putZ, o_putL, o_ald, o_ast, o_alen, popn, rst, o_callV, o_callT, o_callS, swx, o_sw, o_ret, o_iret, o_zret, o_cret, o_lret, o_aret, lg, lput, lput2, ls1, isL, entL, wsum, rdI1, rdI2, rdA1, rdA21, rdA22, rdL1, rdL22, rdL21, upN_at, rep, sh_0, F_0_0, F_0_1, F_0_2, F_0_3, F_0_4, F_0_5, F_0_6, F_0_7, F_0_8, sh_1, F_1_0, F_1_1, F_1_2, F_1_3, F_1_4, F_1_5, sh_3, F_3_0, F_3_1, F_3_2, F_3_3, F_3_4, F_3_5, sh_5, F_5_0, F_5_1, F_5_2, F_5_3, F_5_4, F_5_5, F_5_6, F_5_7, F_5_8, sh_12, F_12_0, F_12_1, F_12_2, F_12_3, F_12_4, F_12_5, sh_14, F_14_0, F_14_1, F_14_2, F_14_3, F_14_4, F_14_5, F_14_6, F_14_7, F_14_8, sh_21, F_21_0, F_21_1, F_21_2, F_21_3, F_21_4, F_21_5, F_21_6, F_21_7, F_21_8, sh_28, F_28_0, F_28_1, F_28_2, F_28_3, F_28_4, F_28_5, F_28_6, F_28_7, F_28_8, sh_35, F_35_0, sh_39, F_39_0, F_39_1, F_39_2, F_39_3, F_39_4, F_39_5, F_39_6, F_39_7, F_39_8, F_39_9, F_39_10, F_39_11, F_39_12, F_39_13, A_2, A_4, A_6, A_7, A_8, A_9, A_10, A_11, A_13, A_15, A_16, A_17, A_18, A_19, A_20, A_22, A_23, A_24, A_25, A_26, A_27, A_29, A_30, A_31, A_32, A_33, A_34, A_36, A_37, A_38, A_40, A_41, A_42, A_43, A_44, A_45, A_46, A_47]
        refine ⟨_, n, c, p, r, h0, lk, rfl, mk_lt _ n, MW_36 hX0 f, fun f2 => ?_⟩
        have hol := opn_lt r n lk hc6 (hd h0 g p n)
        dsimp only [k_X5_groups_0, k_X5_groups_1, k_X5_groups_2, k_X5_groups_5, k_X5_groups_8, k_X5_groups_9, k_X5_groups_10, k_X5_groups_13, k_X5_groups_14, k_X5_groups_15, k_X5_groups_16, k_X5_groups_17, k_X5_groups_19, k_X5_groups_21, k_X5_groups_22, k_X5_groups_24, k_X5_groups_25, k_X5_groups_27, k_X5_groups_30, k_X5_groups_33, k_X5_groups_34, k_X5_groups_35, k_X5_groups_37, k_X5_groups_40, k_X5_groups_43, k_X5_groups_44, k_X5_groups_45, k_X5_groups_46, k_X5_groups_47, k_X5_groups_48, k_X5_groups_51, k_X5_groups_52, k_X5_groups_55, k_X5_groups_56, k_X5_groups_58, k_X5_groups_59, k_X5_groups_61, k_X5_groups_63, k_X5_groups_65, k_X5_groups_68, k_X5_groups_70, k_X5_groups_73, k_X5_groups_75, k_X5_groups_77, k_X5_groups_78, k_X5_groups_79, k_X5_groups_80, k_X5_groups_83, k_X5_groups_84, k_X5_groups_85, k_X5_groups_87, k_X5_groups_90, k_X5_groups_93, k_X5_groups_94, k_X5_groups_95, k_X5_groups_96, k_X5_groups_97, k_X5_groups_100, k_X5_groups_101, k_X5_groups_104, k_X5_groups_105, k_X5_groups_107, k_X5_groups_110, k_X5_groups_113, k_X5_groups_115, k_X5_groups_118, k_X5_groups_119, k_X5_groups_120, k_X5_groups_123, k_X5_groups_125, k_X5_groups_128, k_X5_groups_130, k_X5_groups_132, k_X5_groups_133, k_X5_groups_135, k_X5_groups_138, k_X5_groups_139, k_X5_groups_142, k_X5_groups_143, k_X5_groups_144, k_X5_groups_145, k_X5_groups_148, k_X5_groups_151, k_X5_groups_152, k_X5_groups_153, k_X5_groups_156, k_X5_groups_157, k_X5_groups_160, k_X5_groups_162, wp1, wp_s, cutIn, kont, Nat.reduceSub, Nat.reduceAdd, nth, o_const, o_lconst, o_ref, o_iload, o_lload, o_aload, o_istore, o_lstore, o_astore, o_iinc, o_bin, o_div, o_un, o_lbin, o_lsh, o_lcmp, o_i2l, o_l2i, o_if, o_icmp, o_goto, o_dup, o_dup2, o_pop, fav, o_getf, o_putI, o_putZ, o_putL, o_ald, o_ast, o_alen, popn, rst, o_callV, o_callT, o_callS, swx, o_sw, o_ret, o_iret, o_zret, o_cret, o_lret, o_aret, lg, lput, lput2, ls1, isL, entL, wsum, rdI1, rdI2, rdA1, rdA21, rdA22, rdL1, rdL22, rdL21, upN_at, rep, sh_0, F_0_0, F_0_1, F_0_2, F_0_3, F_0_4, F_0_5, F_0_6, F_0_7, F_0_8, sh_1, F_1_0, F_1_1, F_1_2, F_1_3, F_1_4, F_1_5, sh_3, F_3_0, F_3_1, F_3_2, F_3_3, F_3_4, F_3_5, sh_5, F_5_0, F_5_1, F_5_2, F_5_3, F_5_4, F_5_5, F_5_6, F_5_7, F_5_8, sh_12, F_12_0, F_12_1, F_12_2, F_12_3, F_12_4, F_12_5, sh_14, F_14_0, F_14_1, F_14_2, F_14_3, F_14_4, F_14_5, F_14_6, F_14_7, F_14_8, sh_21, F_21_0, F_21_1, F_21_2, F_21_3, F_21_4, F_21_5, F_21_6, F_21_7, F_21_8, sh_28, F_28_0, F_28_1, F_28_2, F_28_3, F_28_4, F_28_5, F_28_6, F_28_7, F_28_8, sh_35, F_35_0, sh_39, F_39_0, F_39_1, F_39_2, F_39_3, F_39_4, F_39_5, F_39_6, F_39_7, F_39_8, F_39_9, F_39_10, F_39_11, F_39_12, F_39_13, A_2, A_4, A_6, A_7, A_8, A_9, A_10, A_11, A_13, A_15, A_16, A_17, A_18, A_19, A_20, A_22, A_23, A_24, A_25, A_26, A_27, A_29, A_30, A_31, A_32, A_33, A_34, A_36, A_37, A_38, A_40, A_41, A_42, A_43, A_44, A_45, A_46, A_47]
        rw [bit_1 (by omega) (by omega)]
        refine ⟨fun w2 => ?_, fun w2 => ?_⟩
        · exact cut _ _ ⟨rfl, l, g, f2, v, rfl, hlc, hz, hg, by rw [sA_sA], hv, Or.inr ⟨rfl, hg2, 0, 1, by omega, Or.inl ⟨rfl, w2, fun u hu => absurd hu (by omega)⟩, rfl, rfl⟩⟩ (by omega) ⟨rfl, rfl, rfl, rfl, rfl, rfl, rfl, rfl, trivial⟩
        · exact cut _ _ ⟨rfl, l, g, f2, v, rfl, hlc, hz, hg, by rw [sA_sA], hv, Or.inr ⟨rfl, hg2, 0, 0, by omega, Or.inr ⟨rfl, fun e => w2 e.1⟩, rfl, rfl⟩⟩ (by omega) ⟨rfl, rfl, rfl, rfl, rfl, rfl, rfl, rfl, trivial⟩
      · have e : g = 2 ^ p := by
          rcases Nat.lt_or_ge g (2 ^ p) with u | u
          · exact absurd ⟨nI_pos' (by omega), (nI_ltI (by omega) (by omega)).mpr u⟩ w1
          · omega
        subst e
        dsimp only [k_X5_groups_0, k_X5_groups_1, k_X5_groups_2, k_X5_groups_5, k_X5_groups_8, k_X5_groups_9, k_X5_groups_10, k_X5_groups_13, k_X5_groups_14, k_X5_groups_15, k_X5_groups_16, k_X5_groups_17, k_X5_groups_19, k_X5_groups_21, k_X5_groups_22, k_X5_groups_24, k_X5_groups_25, k_X5_groups_27, k_X5_groups_30, k_X5_groups_33, k_X5_groups_34, k_X5_groups_35, k_X5_groups_37, k_X5_groups_40, k_X5_groups_43, k_X5_groups_44, k_X5_groups_45, k_X5_groups_46, k_X5_groups_47, k_X5_groups_48, k_X5_groups_51, k_X5_groups_52, k_X5_groups_55, k_X5_groups_56, k_X5_groups_58, k_X5_groups_59, k_X5_groups_61, k_X5_groups_63, k_X5_groups_65, k_X5_groups_68, k_X5_groups_70, k_X5_groups_73, k_X5_groups_75, k_X5_groups_77, k_X5_groups_78, k_X5_groups_79, k_X5_groups_80, k_X5_groups_83, k_X5_groups_84, k_X5_groups_85, k_X5_groups_87, k_X5_groups_90, k_X5_groups_93, k_X5_groups_94, k_X5_groups_95, k_X5_groups_96, k_X5_groups_97, k_X5_groups_100, k_X5_groups_101, k_X5_groups_104, k_X5_groups_105, k_X5_groups_107, k_X5_groups_110, k_X5_groups_113, k_X5_groups_115, k_X5_groups_118, k_X5_groups_119, k_X5_groups_120, k_X5_groups_123, k_X5_groups_125, k_X5_groups_128, k_X5_groups_130, k_X5_groups_132, k_X5_groups_133, k_X5_groups_135, k_X5_groups_138, k_X5_groups_139, k_X5_groups_142, k_X5_groups_143, k_X5_groups_144, k_X5_groups_145, k_X5_groups_148, k_X5_groups_151, k_X5_groups_152, k_X5_groups_153, k_X5_groups_156, k_X5_groups_157, k_X5_groups_160, k_X5_groups_162, wp1, wp_s, cutIn, kont, Nat.reduceSub, Nat.reduceAdd, nth, o_const, o_lconst, o_ref, o_iload, o_lload, o_aload, o_istore, o_lstore, o_astore, o_iinc, o_bin, o_div, o_un, o_lbin, o_lsh, o_lcmp, o_i2l, o_l2i, o_if, o_icmp, o_goto, o_dup, o_dup2, o_pop, fav, o_getf, o_putI, o_putZ, o_putL, o_ald, o_ast, o_alen, popn, rst, o_callV, o_callT, o_callS, swx, o_sw, o_ret, o_iret, o_zret, o_cret, o_lret, o_aret, lg, lput, lput2, ls1, isL, entL, wsum, rdI1, rdI2, rdA1, rdA21, rdA22, rdL1, rdL22, rdL21, upN_at, rep, sh_0, F_0_0, F_0_1, F_0_2, F_0_3, F_0_4, F_0_5, F_0_6, F_0_7, F_0_8, sh_1, F_1_0, F_1_1, F_1_2, F_1_3, F_1_4, F_1_5, sh_3, F_3_0, F_3_1, F_3_2, F_3_3, F_3_4, F_3_5, sh_5, F_5_0, F_5_1, F_5_2, F_5_3, F_5_4, F_5_5, F_5_6, F_5_7, F_5_8, sh_12, F_12_0, F_12_1, F_12_2, F_12_3, F_12_4, F_12_5, sh_14, F_14_0, F_14_1, F_14_2, F_14_3, F_14_4, F_14_5, F_14_6, F_14_7, F_14_8, sh_21, F_21_0, F_21_1, F_21_2, F_21_3, F_21_4, F_21_5, F_21_6, F_21_7, F_21_8, sh_28, F_28_0, F_28_1, F_28_2, F_28_3, F_28_4, F_28_5, F_28_6, F_28_7, F_28_8, sh_35, F_35_0, sh_39, F_39_0, F_39_1, F_39_2, F_39_3, F_39_4, F_39_5, F_39_6, F_39_7, F_39_8, F_39_9, F_39_10, F_39_11, F_39_12, F_39_13, A_2, A_4, A_6, A_7, A_8, A_9, A_10, A_11, A_13, A_15, A_16, A_17, A_18, A_19, A_20, A_22, A_23, A_24, A_25, A_26, A_27, A_29, A_30, A_31, A_32, A_33, A_34, A_36, A_37, A_38, A_40, A_41, A_42, A_43, A_44, A_45, A_46, A_47]
        simp (config := { decide := true }) only [true_implies, false_implies, and_true, true_and, not_true_eq_false, not_false_eq_true, forall_const, a0]
        refine ⟨fun w2 => h2 l rfl hlc w2 f, fun w2 => ?_⟩
        rcases hv with ⟨j, w, e1, e2, rfl⟩ | ⟨e1, rfl⟩
        · have hjl := (List.getElem?_eq_some_iff.mp e2).1
          have hfl := flt_le (isLB r h0 n p lk c l) (2 ^ p)
          exact (h3 l j rfl hlc e1 (by omega)).1 w e2 f
        · obtain ⟨j, e2, e3⟩ := ge_m1 hz w2
          exact (h3 l j rfl hlc e2 e3).2 (List.getElem?_eq_none (e1 j e2 e3)) f
    · rcases hok with ⟨rfl, hno⟩ | ⟨rfl, hno⟩
      · dsimp only [k_X5_groups_0, k_X5_groups_1, k_X5_groups_2, k_X5_groups_5, k_X5_groups_8, k_X5_groups_9, k_X5_groups_10, k_X5_groups_13, k_X5_groups_14, k_X5_groups_15, k_X5_groups_16, k_X5_groups_17, k_X5_groups_19, k_X5_groups_21, k_X5_groups_22, k_X5_groups_24, k_X5_groups_25, k_X5_groups_27, k_X5_groups_30, k_X5_groups_33, k_X5_groups_34, k_X5_groups_35, k_X5_groups_37, k_X5_groups_40, k_X5_groups_43, k_X5_groups_44, k_X5_groups_45, k_X5_groups_46, k_X5_groups_47, k_X5_groups_48, k_X5_groups_51, k_X5_groups_52, k_X5_groups_55, k_X5_groups_56, k_X5_groups_58, k_X5_groups_59, k_X5_groups_61, k_X5_groups_63, k_X5_groups_65, k_X5_groups_68, k_X5_groups_70, k_X5_groups_73, k_X5_groups_75, k_X5_groups_77, k_X5_groups_78, k_X5_groups_79, k_X5_groups_80, k_X5_groups_83, k_X5_groups_84, k_X5_groups_85, k_X5_groups_87, k_X5_groups_90, k_X5_groups_93, k_X5_groups_94, k_X5_groups_95, k_X5_groups_96, k_X5_groups_97, k_X5_groups_100, k_X5_groups_101, k_X5_groups_104, k_X5_groups_105, k_X5_groups_107, k_X5_groups_110, k_X5_groups_113, k_X5_groups_115, k_X5_groups_118, k_X5_groups_119, k_X5_groups_120, k_X5_groups_123, k_X5_groups_125, k_X5_groups_128, k_X5_groups_130, k_X5_groups_132, k_X5_groups_133, k_X5_groups_135, k_X5_groups_138, k_X5_groups_139, k_X5_groups_142, k_X5_groups_143, k_X5_groups_144, k_X5_groups_145, k_X5_groups_148, k_X5_groups_151, k_X5_groups_152, k_X5_groups_153, k_X5_groups_156, k_X5_groups_157, k_X5_groups_160, k_X5_groups_162, wp1, wp_s, cutIn, kont, Nat.reduceSub, Nat.reduceAdd, nth, o_const, o_lconst, o_ref, o_iload, o_lload, o_aload, o_istore, o_lstore, o_astore, o_iinc, o_bin, o_div, o_un, o_lbin, o_lsh, o_lcmp, o_i2l, o_l2i, o_if, o_icmp, o_goto, o_dup, o_dup2, o_pop, fav, o_getf, o_putI, o_putZ, o_putL, o_ald, o_ast, o_alen, popn, rst, o_callV, o_callT, o_callS, swx, o_sw, o_ret, o_iret, o_zret, o_cret, o_lret, o_aret, lg, lput, lput2, ls1, isL, entL, wsum, rdI1, rdI2, rdA1, rdA21, rdA22, rdL1, rdL22, rdL21, upN_at, rep, sh_0, F_0_0, F_0_1, F_0_2, F_0_3, F_0_4, F_0_5, F_0_6, F_0_7, F_0_8, sh_1, F_1_0, F_1_1, F_1_2, F_1_3, F_1_4, F_1_5, sh_3, F_3_0, F_3_1, F_3_2, F_3_3, F_3_4, F_3_5, sh_5, F_5_0, F_5_1, F_5_2, F_5_3, F_5_4, F_5_5, F_5_6, F_5_7, F_5_8, sh_12, F_12_0, F_12_1, F_12_2, F_12_3, F_12_4, F_12_5, sh_14, F_14_0, F_14_1, F_14_2, F_14_3, F_14_4, F_14_5, F_14_6, F_14_7, F_14_8, sh_21, F_21_0, F_21_1, F_21_2, F_21_3, F_21_4, F_21_5, F_21_6, F_21_7, F_21_8, sh_28, F_28_0, F_28_1, F_28_2, F_28_3, F_28_4, F_28_5, F_28_6, F_28_7, F_28_8, sh_35, F_35_0, sh_39, F_39_0, F_39_1, F_39_2, F_39_3, F_39_4, F_39_5, F_39_6, F_39_7, F_39_8, F_39_9, F_39_10, F_39_11, F_39_12, F_39_13, A_2, A_4, A_6, A_7, A_8, A_9, A_10, A_11, A_13, A_15, A_16, A_17, A_18, A_19, A_20, A_22, A_23, A_24, A_25, A_26, A_27, A_29, A_30, A_31, A_32, A_33, A_34, A_36, A_37, A_38, A_40, A_41, A_42, A_43, A_44, A_45, A_46, A_47]
        simp (disch := omega) only [nI_leI, nI_ltI, nI_eq, nI_1, nI_add, one_shl, nI_or, nI_xor, nI_and, bit_0, bit_1, true_or, or_true, true_and, and_true, eq_self, not_true_eq_false, not_false_eq_true, forall_const]
        simp (config := { decide := true }) only [true_implies, false_implies, and_true, true_and, not_true_eq_false, not_false_eq_true, forall_const, a0]
        refine ⟨fun w1 => ?_, fun w1 => ⟨fun w2 => ?_, fun w2 => ?_⟩⟩
        · have hL : isLB r h0 n p lk c l g = true := isLB_iff.mpr ((isLst_all hrl hg2).mpr ⟨hno.1, fun u hu => hno.2 u (by omega)⟩)
          have hk2 : flt (isLB r h0 n p lk c l) (g + 1) = flt (isLB r h0 n p lk c l) g ++ [g] := by rw [flt_s, if_pos hL]
          refine ⟨fun w2 => ?_, fun w2 => ?_⟩
          · refine cut _ _ ⟨rfl, l, g + 1, f, nI g, rfl, hlc, hz, by omega, rfl, Or.inl ⟨(flt (isLB r h0 n p lk c l) g).length, g, w2.symm, ?_, rfl⟩, Or.inl ⟨rfl, rfl, rfl⟩⟩ (by omega) ⟨rfl, rfl, rfl, vi_eq (by rw [hk2, List.length_append]; first | rfl | exact nI_1 _), rfl, by first | rfl | exact vi_eq (nI_1 _), trivial⟩
            rw [hk2, List.getElem?_append_right (Nat.le_refl _)]; simp
          · refine cut _ _ ⟨rfl, l, g + 1, f, v, rfl, hlc, hz, by omega, rfl, ?_, Or.inl ⟨rfl, rfl, rfl⟩⟩ (by omega) ⟨rfl, rfl, rfl, vi_eq (by rw [hk2, List.length_append]; first | rfl | exact nI_1 _), rfl, by first | rfl | exact vi_eq (nI_1 _), trivial⟩
            rcases hv with ⟨j, w, e1, e2, e3⟩ | ⟨e1, e2⟩
            · exact Or.inl ⟨j, w, e1, flt_pre _ g (g + 1) j w (by omega) e2, e3⟩
            · refine Or.inr ⟨fun j e3 e4 => ?_, e2⟩
              have e5 := e1 j e3 e4
              rw [hk2, List.length_append]
              show (flt (isLB r h0 n p lk c l) g).length + 1 ≤ j
              rcases Nat.lt_or_ge (flt (isLB r h0 n p lk c l) g).length j with u | u
              · exact u
              · exact absurd (by rw [e3, show (flt (isLB r h0 n p lk c l) g).length = j by omega]) w2
        · rw [In_iff, In_nI (by omega) (by omega)] at w2
          refine ⟨k, n, c, p, r, h0, lk, rfl, MW_36 hX0 f, hH, by omega, ?_⟩
          dsimp only [k_X5_groups_0, k_X5_groups_1, k_X5_groups_2, k_X5_groups_5, k_X5_groups_8, k_X5_groups_9, k_X5_groups_10, k_X5_groups_13, k_X5_groups_14, k_X5_groups_15, k_X5_groups_16, k_X5_groups_17, k_X5_groups_19, k_X5_groups_21, k_X5_groups_22, k_X5_groups_24, k_X5_groups_25, k_X5_groups_27, k_X5_groups_30, k_X5_groups_33, k_X5_groups_34, k_X5_groups_35, k_X5_groups_37, k_X5_groups_40, k_X5_groups_43, k_X5_groups_44, k_X5_groups_45, k_X5_groups_46, k_X5_groups_47, k_X5_groups_48, k_X5_groups_51, k_X5_groups_52, k_X5_groups_55, k_X5_groups_56, k_X5_groups_58, k_X5_groups_59, k_X5_groups_61, k_X5_groups_63, k_X5_groups_65, k_X5_groups_68, k_X5_groups_70, k_X5_groups_73, k_X5_groups_75, k_X5_groups_77, k_X5_groups_78, k_X5_groups_79, k_X5_groups_80, k_X5_groups_83, k_X5_groups_84, k_X5_groups_85, k_X5_groups_87, k_X5_groups_90, k_X5_groups_93, k_X5_groups_94, k_X5_groups_95, k_X5_groups_96, k_X5_groups_97, k_X5_groups_100, k_X5_groups_101, k_X5_groups_104, k_X5_groups_105, k_X5_groups_107, k_X5_groups_110, k_X5_groups_113, k_X5_groups_115, k_X5_groups_118, k_X5_groups_119, k_X5_groups_120, k_X5_groups_123, k_X5_groups_125, k_X5_groups_128, k_X5_groups_130, k_X5_groups_132, k_X5_groups_133, k_X5_groups_135, k_X5_groups_138, k_X5_groups_139, k_X5_groups_142, k_X5_groups_143, k_X5_groups_144, k_X5_groups_145, k_X5_groups_148, k_X5_groups_151, k_X5_groups_152, k_X5_groups_153, k_X5_groups_156, k_X5_groups_157, k_X5_groups_160, k_X5_groups_162, wp1, wp_s, cutIn, kont, Nat.reduceSub, Nat.reduceAdd, nth, o_const, o_lconst, o_ref, o_iload, o_lload, o_aload, o_istore, o_lstore, o_astore, o_iinc, o_bin, o_div, o_un, o_lbin, o_lsh, o_lcmp, o_i2l, o_l2i, o_if, o_icmp, o_goto, o_dup, o_dup2, o_pop, fav, o_getf, o_putI, o_putZ, o_putL, o_ald, o_ast, o_alen, popn, rst, o_callV, o_callT, o_callS, swx, o_sw, o_ret, o_iret, o_zret, o_cret, o_lret, o_aret, lg, lput, lput2, ls1, isL, entL, wsum, rdI1, rdI2, rdA1, rdA21, rdA22, rdL1, rdL22, rdL21, upN_at, rep, sh_0, F_0_0, F_0_1, F_0_2, F_0_3, F_0_4, F_0_5, F_0_6, F_0_7, F_0_8, sh_1, F_1_0, F_1_1, F_1_2, F_1_3, F_1_4, F_1_5, sh_3, F_3_0, F_3_1, F_3_2, F_3_3, F_3_4, F_3_5, sh_5, F_5_0, F_5_1, F_5_2, F_5_3, F_5_4, F_5_5, F_5_6, F_5_7, F_5_8, sh_12, F_12_0, F_12_1, F_12_2, F_12_3, F_12_4, F_12_5, sh_14, F_14_0, F_14_1, F_14_2, F_14_3, F_14_4, F_14_5, F_14_6, F_14_7, F_14_8, sh_21, F_21_0, F_21_1, F_21_2, F_21_3, F_21_4, F_21_5, F_21_6, F_21_7, F_21_8, sh_28, F_28_0, F_28_1, F_28_2, F_28_3, F_28_4, F_28_5, F_28_6, F_28_7, F_28_8, sh_35, F_35_0, sh_39, F_39_0, F_39_1, F_39_2, F_39_3, F_39_4, F_39_5, F_39_6, F_39_7, F_39_8, F_39_9, F_39_10, F_39_11, F_39_12, F_39_13, A_2, A_4, A_6, A_7, A_8, A_9, A_10, A_11, A_13, A_15, A_16, A_17, A_18, A_19, A_20, A_22, A_23, A_24, A_25, A_26, A_27, A_29, A_30, A_31, A_32, A_33, A_34, A_36, A_37, A_38, A_40, A_41, A_42, A_43, A_44, A_45, A_46, A_47]
          refine ⟨_, n, c, p, r, h0, lk, rfl, mk_lt _ n, MW_36 hX0 f, fun f2 => ?_⟩
          have hol := opn_lt r n lk hc6 (hd h0 k p n)
          dsimp only [k_X5_groups_0, k_X5_groups_1, k_X5_groups_2, k_X5_groups_5, k_X5_groups_8, k_X5_groups_9, k_X5_groups_10, k_X5_groups_13, k_X5_groups_14, k_X5_groups_15, k_X5_groups_16, k_X5_groups_17, k_X5_groups_19, k_X5_groups_21, k_X5_groups_22, k_X5_groups_24, k_X5_groups_25, k_X5_groups_27, k_X5_groups_30, k_X5_groups_33, k_X5_groups_34, k_X5_groups_35, k_X5_groups_37, k_X5_groups_40, k_X5_groups_43, k_X5_groups_44, k_X5_groups_45, k_X5_groups_46, k_X5_groups_47, k_X5_groups_48, k_X5_groups_51, k_X5_groups_52, k_X5_groups_55, k_X5_groups_56, k_X5_groups_58, k_X5_groups_59, k_X5_groups_61, k_X5_groups_63, k_X5_groups_65, k_X5_groups_68, k_X5_groups_70, k_X5_groups_73, k_X5_groups_75, k_X5_groups_77, k_X5_groups_78, k_X5_groups_79, k_X5_groups_80, k_X5_groups_83, k_X5_groups_84, k_X5_groups_85, k_X5_groups_87, k_X5_groups_90, k_X5_groups_93, k_X5_groups_94, k_X5_groups_95, k_X5_groups_96, k_X5_groups_97, k_X5_groups_100, k_X5_groups_101, k_X5_groups_104, k_X5_groups_105, k_X5_groups_107, k_X5_groups_110, k_X5_groups_113, k_X5_groups_115, k_X5_groups_118, k_X5_groups_119, k_X5_groups_120, k_X5_groups_123, k_X5_groups_125, k_X5_groups_128, k_X5_groups_130, k_X5_groups_132, k_X5_groups_133, k_X5_groups_135, k_X5_groups_138, k_X5_groups_139, k_X5_groups_142, k_X5_groups_143, k_X5_groups_144, k_X5_groups_145, k_X5_groups_148, k_X5_groups_151, k_X5_groups_152, k_X5_groups_153, k_X5_groups_156, k_X5_groups_157, k_X5_groups_160, k_X5_groups_162, wp1, wp_s, cutIn, kont, Nat.reduceSub, Nat.reduceAdd, nth, o_const, o_lconst, o_ref, o_iload, o_lload, o_aload, o_istore, o_lstore, o_astore, o_iinc, o_bin, o_div, o_un, o_lbin, o_lsh, o_lcmp, o_i2l, o_l2i, o_if, o_icmp, o_goto, o_dup, o_dup2, o_pop, fav, o_getf, o_putI, o_putZ, o_putL, o_ald, o_ast, o_alen, popn, rst, o_callV, o_callT, o_callS, swx, o_sw, o_ret, o_iret, o_zret, o_cret, o_lret, o_aret, lg, lput, lput2, ls1, isL, entL, wsum, rdI1, rdI2, rdA1, rdA21, rdA22, rdL1, rdL22, rdL21, upN_at, rep, sh_0, F_0_0, F_0_1, F_0_2, F_0_3, F_0_4, F_0_5, F_0_6, F_0_7, F_0_8, sh_1, F_1_0, F_1_1, F_1_2, F_1_3, F_1_4, F_1_5, sh_3, F_3_0, F_3_1, F_3_2, F_3_3, F_3_4, F_3_5, sh_5, F_5_0, F_5_1, F_5_2, F_5_3, F_5_4, F_5_5, F_5_6, F_5_7, F_5_8, sh_12, F_12_0, F_12_1, F_12_2, F_12_3, F_12_4, F_12_5, sh_14, F_14_0, F_14_1, F_14_2, F_14_3, F_14_4, F_14_5, F_14_6, F_14_7, F_14_8, sh_21, F_21_0, F_21_1, F_21_2, F_21_3, F_21_4, F_21_5, F_21_6, F_21_7, F_21_8, sh_28, F_28_0, F_28_1, F_28_2, F_28_3, F_28_4, F_28_5, F_28_6, F_28_7, F_28_8, sh_35, F_35_0, sh_39, F_39_0, F_39_1, F_39_2, F_39_3, F_39_4, F_39_5, F_39_6, F_39_7, F_39_8, F_39_9, F_39_10, F_39_11, F_39_12, F_39_13, A_2, A_4, A_6, A_7, A_8, A_9, A_10, A_11, A_13, A_15, A_16, A_17, A_18, A_19, A_20, A_22, A_23, A_24, A_25, A_26, A_27, A_29, A_30, A_31, A_32, A_33, A_34, A_36, A_37, A_38, A_40, A_41, A_42, A_43, A_44, A_45, A_46, A_47]
          rw [bit_0 (by omega) (by omega)]
          refine ⟨fun w3 => ?_, fun w3 => ?_⟩
          · refine cut _ _ ⟨rfl, l, g, f2, v, rfl, hlc, hz, hg, by rw [sA_sA], hv, Or.inr ⟨rfl, hg2, k + 1, 1, by omega, Or.inl ⟨rfl, hno.1, fun u hu hs => ?_⟩, rfl, rfl⟩⟩ (by omega) ⟨rfl, rfl, rfl, rfl, rfl, rfl, rfl, by first | rfl | exact vi_eq (nI_1 _), trivial⟩
            rcases Nat.lt_or_ge u k with u1 | u1
            · exact hno.2 u u1 hs
            · rw [show u = k by omega]
              intro e
              unfold gop at e
              rw [w3] at e; cases e
          · refine cut _ _ ⟨rfl, l, g, f2, v, rfl, hlc, hz, hg, by rw [sA_sA], hv, Or.inr ⟨rfl, hg2, k + 1, 0, by omega, Or.inr ⟨rfl, fun e => ?_⟩, rfl, rfl⟩⟩ (by omega) ⟨rfl, rfl, rfl, rfl, rfl, rfl, rfl, by first | rfl | exact vi_eq (nI_1 _), trivial⟩
            exact ((isLst_all hrl hg2).mp e).2 k (by omega) w2 (by unfold gop; simpa using w3)
        · rw [In_iff, In_nI (by omega) (by omega)] at w2
          refine cut _ _ ⟨rfl, l, g, f, v, rfl, hlc, hz, hg, rfl, hv, Or.inr ⟨rfl, hg2, k + 1, 1, by omega, Or.inl ⟨rfl, hno.1, fun u hu hs => ?_⟩, rfl, rfl⟩⟩ (by omega) ⟨rfl, rfl, rfl, rfl, rfl, rfl, rfl, by first | rfl | exact vi_eq (nI_1 _), trivial⟩
          rcases Nat.lt_or_ge u k with u1 | u1
          · exact hno.2 u u1 hs
          · exact absurd (by rw [← show u = k by omega]; exact hs) w2
      · have hL : isLB r h0 n p lk c l g = false := Bool.eq_false_iff.mpr fun e => hno (isLB_iff.mp e)
        have hk2 : flt (isLB r h0 n p lk c l) (g + 1) = flt (isLB r h0 n p lk c l) g := by rw [flt_s, if_neg (by rw [hL]; decide)]
        dsimp only [k_X5_groups_0, k_X5_groups_1, k_X5_groups_2, k_X5_groups_5, k_X5_groups_8, k_X5_groups_9, k_X5_groups_10, k_X5_groups_13, k_X5_groups_14, k_X5_groups_15, k_X5_groups_16, k_X5_groups_17, k_X5_groups_19, k_X5_groups_21, k_X5_groups_22, k_X5_groups_24, k_X5_groups_25, k_X5_groups_27, k_X5_groups_30, k_X5_groups_33, k_X5_groups_34, k_X5_groups_35, k_X5_groups_37, k_X5_groups_40, k_X5_groups_43, k_X5_groups_44, k_X5_groups_45, k_X5_groups_46, k_X5_groups_47, k_X5_groups_48, k_X5_groups_51, k_X5_groups_52, k_X5_groups_55, k_X5_groups_56, k_X5_groups_58, k_X5_groups_59, k_X5_groups_61, k_X5_groups_63, k_X5_groups_65, k_X5_groups_68, k_X5_groups_70, k_X5_groups_73, k_X5_groups_75, k_X5_groups_77, k_X5_groups_78, k_X5_groups_79, k_X5_groups_80, k_X5_groups_83, k_X5_groups_84, k_X5_groups_85, k_X5_groups_87, k_X5_groups_90, k_X5_groups_93, k_X5_groups_94, k_X5_groups_95, k_X5_groups_96, k_X5_groups_97, k_X5_groups_100, k_X5_groups_101, k_X5_groups_104, k_X5_groups_105, k_X5_groups_107, k_X5_groups_110, k_X5_groups_113, k_X5_groups_115, k_X5_groups_118, k_X5_groups_119, k_X5_groups_120, k_X5_groups_123, k_X5_groups_125, k_X5_groups_128, k_X5_groups_130, k_X5_groups_132, k_X5_groups_133, k_X5_groups_135, k_X5_groups_138, k_X5_groups_139, k_X5_groups_142, k_X5_groups_143, k_X5_groups_144, k_X5_groups_145, k_X5_groups_148, k_X5_groups_151, k_X5_groups_152, k_X5_groups_153, k_X5_groups_156, k_X5_groups_157, k_X5_groups_160, k_X5_groups_162, wp1, wp_s, cutIn, kont, Nat.reduceSub, Nat.reduceAdd, nth, o_const, o_lconst, o_ref, o_iload, o_lload, o_aload, o_istore, o_lstore, o_astore, o_iinc, o_bin, o_div, o_un, o_lbin, o_lsh, o_lcmp, o_i2l, o_l2i, o_if, o_icmp, o_goto, o_dup, o_dup2, o_pop, fav, o_getf, o_putI, o_putZ, o_putL, o_ald, o_ast, o_alen, popn, rst, o_callV, o_callT, o_callS, swx, o_sw, o_ret, o_iret, o_zret, o_cret, o_lret, o_aret, lg, lput, lput2, ls1, isL, entL, wsum, rdI1, rdI2, rdA1, rdA21, rdA22, rdL1, rdL22, rdL21, upN_at, rep, sh_0, F_0_0, F_0_1, F_0_2, F_0_3, F_0_4, F_0_5, F_0_6, F_0_7, F_0_8, sh_1, F_1_0, F_1_1, F_1_2, F_1_3, F_1_4, F_1_5, sh_3, F_3_0, F_3_1, F_3_2, F_3_3, F_3_4, F_3_5, sh_5, F_5_0, F_5_1, F_5_2, F_5_3, F_5_4, F_5_5, F_5_6, F_5_7, F_5_8, sh_12, F_12_0, F_12_1, F_12_2, F_12_3, F_12_4, F_12_5, sh_14, F_14_0, F_14_1, F_14_2, F_14_3, F_14_4, F_14_5, F_14_6, F_14_7, F_14_8, sh_21, F_21_0, F_21_1, F_21_2, F_21_3, F_21_4, F_21_5, F_21_6, F_21_7, F_21_8, sh_28, F_28_0, F_28_1, F_28_2, F_28_3, F_28_4, F_28_5, F_28_6, F_28_7, F_28_8, sh_35, F_35_0, sh_39, F_39_0, F_39_1, F_39_2, F_39_3, F_39_4, F_39_5, F_39_6, F_39_7, F_39_8, F_39_9, F_39_10, F_39_11, F_39_12, F_39_13, A_2, A_4, A_6, A_7, A_8, A_9, A_10, A_11, A_13, A_15, A_16, A_17, A_18, A_19, A_20, A_22, A_23, A_24, A_25, A_26, A_27, A_29, A_30, A_31, A_32, A_33, A_34, A_36, A_37, A_38, A_40, A_41, A_42, A_43, A_44, A_45, A_46, A_47]
        simp (disch := omega) only [nI_leI, nI_ltI, nI_eq, nI_1, nI_add, one_shl, nI_or, nI_xor, nI_and, bit_0, bit_1, true_or, or_true, true_and, and_true, eq_self, not_true_eq_false, not_false_eq_true, forall_const]
        simp (config := { decide := true }) only [true_implies, false_implies, and_true, true_and, not_true_eq_false, not_false_eq_true, forall_const, a0]
        refine ⟨fun w1 => ?_, fun w1 => ?_⟩
        all_goals exact cut _ _ ⟨rfl, l, g + 1, f, v, rfl, hlc, hz, by omega, rfl, by rw [hk2]; exact hv, Or.inl ⟨rfl, rfl, rfl⟩⟩ (by omega) ⟨rfl, rfl, rfl, vi_eq (by rw [hk2]), rfl, by first | rfl | exact vi_eq (nI_1 _), trivial⟩
  · dsimp only [k_X5_groups_0, k_X5_groups_1, k_X5_groups_2, k_X5_groups_5, k_X5_groups_8, k_X5_groups_9, k_X5_groups_10, k_X5_groups_13, k_X5_groups_14, k_X5_groups_15, k_X5_groups_16, k_X5_groups_17, k_X5_groups_19, k_X5_groups_21, k_X5_groups_22, k_X5_groups_24, k_X5_groups_25, k_X5_groups_27, k_X5_groups_30, k_X5_groups_33, k_X5_groups_34, k_X5_groups_35, k_X5_groups_37, k_X5_groups_40, k_X5_groups_43, k_X5_groups_44, k_X5_groups_45, k_X5_groups_46, k_X5_groups_47, k_X5_groups_48, k_X5_groups_51, k_X5_groups_52, k_X5_groups_55, k_X5_groups_56, k_X5_groups_58, k_X5_groups_59, k_X5_groups_61, k_X5_groups_63, k_X5_groups_65, k_X5_groups_68, k_X5_groups_70, k_X5_groups_73, k_X5_groups_75, k_X5_groups_77, k_X5_groups_78, k_X5_groups_79, k_X5_groups_80, k_X5_groups_83, k_X5_groups_84, k_X5_groups_85, k_X5_groups_87, k_X5_groups_90, k_X5_groups_93, k_X5_groups_94, k_X5_groups_95, k_X5_groups_96, k_X5_groups_97, k_X5_groups_100, k_X5_groups_101, k_X5_groups_104, k_X5_groups_105, k_X5_groups_107, k_X5_groups_110, k_X5_groups_113, k_X5_groups_115, k_X5_groups_118, k_X5_groups_119, k_X5_groups_120, k_X5_groups_123, k_X5_groups_125, k_X5_groups_128, k_X5_groups_130, k_X5_groups_132, k_X5_groups_133, k_X5_groups_135, k_X5_groups_138, k_X5_groups_139, k_X5_groups_142, k_X5_groups_143, k_X5_groups_144, k_X5_groups_145, k_X5_groups_148, k_X5_groups_151, k_X5_groups_152, k_X5_groups_153, k_X5_groups_156, k_X5_groups_157, k_X5_groups_160, k_X5_groups_162, wp1, wp_s, cutIn, kont, Nat.reduceSub, Nat.reduceAdd, nth, o_const, o_lconst, o_ref, o_iload, o_lload, o_aload, o_istore, o_lstore, o_astore, o_iinc, o_bin, o_div, o_un, o_lbin, o_lsh, o_lcmp, o_i2l, o_l2i, o_if, o_icmp, o_goto, o_dup, o_dup2, o_pop, fav, o_getf, o_putI, o_putZ, o_putL, o_ald, o_ast, o_alen, popn, rst, o_callV, o_callT, o_callS, swx, o_sw, o_ret, o_iret, o_zret, o_cret, o_lret, o_aret, lg, lput, lput2, ls1, isL, entL, wsum, rdI1, rdI2, rdA1, rdA21, rdA22, rdL1, rdL22, rdL21, upN_at, rep, sh_0, F_0_0, F_0_1, F_0_2, F_0_3, F_0_4, F_0_5, F_0_6, F_0_7, F_0_8, sh_1, F_1_0, F_1_1, F_1_2, F_1_3, F_1_4, F_1_5, sh_3, F_3_0, F_3_1, F_3_2, F_3_3, F_3_4, F_3_5, sh_5, F_5_0, F_5_1, F_5_2, F_5_3, F_5_4, F_5_5, F_5_6, F_5_7, F_5_8, sh_12, F_12_0, F_12_1, F_12_2, F_12_3, F_12_4, F_12_5, sh_14, F_14_0, F_14_1, F_14_2, F_14_3, F_14_4, F_14_5, F_14_6, F_14_7, F_14_8, sh_21, F_21_0, F_21_1, F_21_2, F_21_3, F_21_4, F_21_5, F_21_6, F_21_7, F_21_8, sh_28, F_28_0, F_28_1, F_28_2, F_28_3, F_28_4, F_28_5, F_28_6, F_28_7, F_28_8, sh_35, F_35_0, sh_39, F_39_0, F_39_1, F_39_2, F_39_3, F_39_4, F_39_5, F_39_6, F_39_7, F_39_8, F_39_9, F_39_10, F_39_11, F_39_12, F_39_13, A_2, A_4, A_6, A_7, A_8, A_9, A_10, A_11, A_13, A_15, A_16, A_17, A_18, A_19, A_20, A_22, A_23, A_24, A_25, A_26, A_27, A_29, A_30, A_31, A_32, A_33, A_34, A_36, A_37, A_38, A_40, A_41, A_42, A_43, A_44, A_45, A_46, A_47]
    refine ⟨x, n, c, p, r, h0, lk, rfl, hX0, fun w1 => ?_, fun w1 => ?_⟩
    · obtain ⟨l, rfl, hlc⟩ := rg (by omega) w1
      dsimp only [k_X5_groups_0, k_X5_groups_1, k_X5_groups_2, k_X5_groups_5, k_X5_groups_8, k_X5_groups_9, k_X5_groups_10, k_X5_groups_13, k_X5_groups_14, k_X5_groups_15, k_X5_groups_16, k_X5_groups_17, k_X5_groups_19, k_X5_groups_21, k_X5_groups_22, k_X5_groups_24, k_X5_groups_25, k_X5_groups_27, k_X5_groups_30, k_X5_groups_33, k_X5_groups_34, k_X5_groups_35, k_X5_groups_37, k_X5_groups_40, k_X5_groups_43, k_X5_groups_44, k_X5_groups_45, k_X5_groups_46, k_X5_groups_47, k_X5_groups_48, k_X5_groups_51, k_X5_groups_52, k_X5_groups_55, k_X5_groups_56, k_X5_groups_58, k_X5_groups_59, k_X5_groups_61, k_X5_groups_63, k_X5_groups_65, k_X5_groups_68, k_X5_groups_70, k_X5_groups_73, k_X5_groups_75, k_X5_groups_77, k_X5_groups_78, k_X5_groups_79, k_X5_groups_80, k_X5_groups_83, k_X5_groups_84, k_X5_groups_85, k_X5_groups_87, k_X5_groups_90, k_X5_groups_93, k_X5_groups_94, k_X5_groups_95, k_X5_groups_96, k_X5_groups_97, k_X5_groups_100, k_X5_groups_101, k_X5_groups_104, k_X5_groups_105, k_X5_groups_107, k_X5_groups_110, k_X5_groups_113, k_X5_groups_115, k_X5_groups_118, k_X5_groups_119, k_X5_groups_120, k_X5_groups_123, k_X5_groups_125, k_X5_groups_128, k_X5_groups_130, k_X5_groups_132, k_X5_groups_133, k_X5_groups_135, k_X5_groups_138, k_X5_groups_139, k_X5_groups_142, k_X5_groups_143, k_X5_groups_144, k_X5_groups_145, k_X5_groups_148, k_X5_groups_151, k_X5_groups_152, k_X5_groups_153, k_X5_groups_156, k_X5_groups_157, k_X5_groups_160, k_X5_groups_162, wp1, wp_s, cutIn, kont, Nat.reduceSub, Nat.reduceAdd, nth, o_const, o_lconst, o_ref, o_iload, o_lload, o_aload, o_istore, o_lstore, o_astore, o_iinc, o_bin, o_div, o_un, o_lbin, o_lsh, o_lcmp, o_i2l, o_l2i, o_if, o_icmp, o_goto, o_dup, o_dup2, o_pop, fav, o_getf, o_putI, o_putZ, o_putL, o_ald, o_ast, o_alen, popn, rst, o_callV, o_callT, o_callS, swx, o_sw, o_ret, o_iret, o_zret, o_cret, o_lret, o_aret, lg, lput, lput2, ls1, isL, entL, wsum, rdI1, rdI2, rdA1, rdA21, rdA22, rdL1, rdL22, rdL21, upN_at, rep, sh_0, F_0_0, F_0_1, F_0_2, F_0_3, F_0_4, F_0_5, F_0_6, F_0_7, F_0_8, sh_1, F_1_0, F_1_1, F_1_2, F_1_3, F_1_4, F_1_5, sh_3, F_3_0, F_3_1, F_3_2, F_3_3, F_3_4, F_3_5, sh_5, F_5_0, F_5_1, F_5_2, F_5_3, F_5_4, F_5_5, F_5_6, F_5_7, F_5_8, sh_12, F_12_0, F_12_1, F_12_2, F_12_3, F_12_4, F_12_5, sh_14, F_14_0, F_14_1, F_14_2, F_14_3, F_14_4, F_14_5, F_14_6, F_14_7, F_14_8, sh_21, F_21_0, F_21_1, F_21_2, F_21_3, F_21_4, F_21_5, F_21_6, F_21_7, F_21_8, sh_28, F_28_0, F_28_1, F_28_2, F_28_3, F_28_4, F_28_5, F_28_6, F_28_7, F_28_8, sh_35, F_35_0, sh_39, F_39_0, F_39_1, F_39_2, F_39_3, F_39_4, F_39_5, F_39_6, F_39_7, F_39_8, F_39_9, F_39_10, F_39_11, F_39_12, F_39_13, A_2, A_4, A_6, A_7, A_8, A_9, A_10, A_11, A_13, A_15, A_16, A_17, A_18, A_19, A_20, A_22, A_23, A_24, A_25, A_26, A_27, A_29, A_30, A_31, A_32, A_33, A_34, A_36, A_37, A_38, A_40, A_41, A_42, A_43, A_44, A_45, A_46, A_47]
      simp (config := { decide := true }) only [true_implies, false_implies, and_true, true_and, not_true_eq_false, not_false_eq_true, forall_const, a0]
      refine ⟨fun w2 => cut _ _ ⟨rfl, l, 0, M.2.2 36, -5, rfl, hlc, w2, by omega, (sA_self 36 M).symm, Or.inr ⟨fun j _ _ => Nat.zero_le j, rfl⟩, Or.inl ⟨rfl, rfl, rfl⟩⟩ (by omega) ⟨rfl, rfl, rfl, rfl, rfl, rfl, trivial⟩, fun w2 => h1 fun w => w2 w.2⟩
    · dsimp only [k_X5_groups_0, k_X5_groups_1, k_X5_groups_2, k_X5_groups_5, k_X5_groups_8, k_X5_groups_9, k_X5_groups_10, k_X5_groups_13, k_X5_groups_14, k_X5_groups_15, k_X5_groups_16, k_X5_groups_17, k_X5_groups_19, k_X5_groups_21, k_X5_groups_22, k_X5_groups_24, k_X5_groups_25, k_X5_groups_27, k_X5_groups_30, k_X5_groups_33, k_X5_groups_34, k_X5_groups_35, k_X5_groups_37, k_X5_groups_40, k_X5_groups_43, k_X5_groups_44, k_X5_groups_45, k_X5_groups_46, k_X5_groups_47, k_X5_groups_48, k_X5_groups_51, k_X5_groups_52, k_X5_groups_55, k_X5_groups_56, k_X5_groups_58, k_X5_groups_59, k_X5_groups_61, k_X5_groups_63, k_X5_groups_65, k_X5_groups_68, k_X5_groups_70, k_X5_groups_73, k_X5_groups_75, k_X5_groups_77, k_X5_groups_78, k_X5_groups_79, k_X5_groups_80, k_X5_groups_83, k_X5_groups_84, k_X5_groups_85, k_X5_groups_87, k_X5_groups_90, k_X5_groups_93, k_X5_groups_94, k_X5_groups_95, k_X5_groups_96, k_X5_groups_97, k_X5_groups_100, k_X5_groups_101, k_X5_groups_104, k_X5_groups_105, k_X5_groups_107, k_X5_groups_110, k_X5_groups_113, k_X5_groups_115, k_X5_groups_118, k_X5_groups_119, k_X5_groups_120, k_X5_groups_123, k_X5_groups_125, k_X5_groups_128, k_X5_groups_130, k_X5_groups_132, k_X5_groups_133, k_X5_groups_135, k_X5_groups_138, k_X5_groups_139, k_X5_groups_142, k_X5_groups_143, k_X5_groups_144, k_X5_groups_145, k_X5_groups_148, k_X5_groups_151, k_X5_groups_152, k_X5_groups_153, k_X5_groups_156, k_X5_groups_157, k_X5_groups_160, k_X5_groups_162, wp1, wp_s, cutIn, kont, Nat.reduceSub, Nat.reduceAdd, nth, o_const, o_lconst, o_ref, o_iload, o_lload, o_aload, o_istore, o_lstore, o_astore, o_iinc, o_bin, o_div, o_un, o_lbin, o_lsh, o_lcmp, o_i2l, o_l2i, o_if, o_icmp, o_goto, o_dup, o_dup2, o_pop, fav, o_getf, o_putI, o_putZ, o_putL, o_ald, o_ast, o_alen, popn, rst, o_callV, o_callT, o_callS, swx, o_sw, o_ret, o_iret, o_zret, o_cret, o_lret, o_aret, lg, lput, lput2, ls1, isL, entL, wsum, rdI1, rdI2, rdA1, rdA21, rdA22, rdL1, rdL22, rdL21, upN_at, rep, sh_0, F_0_0, F_0_1, F_0_2, F_0_3, F_0_4, F_0_5, F_0_6, F_0_7, F_0_8, sh_1, F_1_0, F_1_1, F_1_2, F_1_3, F_1_4, F_1_5, sh_3, F_3_0, F_3_1, F_3_2, F_3_3, F_3_4, F_3_5, sh_5, F_5_0, F_5_1, F_5_2, F_5_3, F_5_4, F_5_5, F_5_6, F_5_7, F_5_8, sh_12, F_12_0, F_12_1, F_12_2, F_12_3, F_12_4, F_12_5, sh_14, F_14_0, F_14_1, F_14_2, F_14_3, F_14_4, F_14_5, F_14_6, F_14_7, F_14_8, sh_21, F_21_0, F_21_1, F_21_2, F_21_3, F_21_4, F_21_5, F_21_6, F_21_7, F_21_8, sh_28, F_28_0, F_28_1, F_28_2, F_28_3, F_28_4, F_28_5, F_28_6, F_28_7, F_28_8, sh_35, F_35_0, sh_39, F_39_0, F_39_1, F_39_2, F_39_3, F_39_4, F_39_5, F_39_6, F_39_7, F_39_8, F_39_9, F_39_10, F_39_11, F_39_12, F_39_13, A_2, A_4, A_6, A_7, A_8, A_9, A_10, A_11, A_13, A_15, A_16, A_17, A_18, A_19, A_20, A_22, A_23, A_24, A_25, A_26, A_27, A_29, A_30, A_31, A_32, A_33, A_34, A_36, A_37, A_38, A_40, A_41, A_42, A_43, A_44, A_45, A_46, A_47]
      simp (config := { decide := true }) only [true_implies, false_implies, and_true, true_and, not_true_eq_false, not_false_eq_true, forall_const, a0]
      exact h1 fun w => w1 w.1
theorem c_X5_groups : Ctr yX5_groups cX5_groups 8 (some .int) ({ frames := 3, cells := 0, slots := 0, locals := 66 } : Room) S_X5_groups := ctr_of (T := T_X5_groups) (by decide +kernel) (fun post C hr => t_X5_groups post C hr) v_X5_groups
