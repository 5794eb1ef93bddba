/-! The model: what a row brings; slips. -/
def S_X5_brings : SP := fun as M post => ∃ z n c p r h lk, as = [VR 39, VI z] ∧ MW M n c p r h lk ∧ (¬ (z = 0 ∨ z = 1) → post (some (VI (-1))) M) ∧ (z = 0 → ∀ f, post (some (VI (nI (bmi (brF r h n lk c) 512)))) (sA 36 f M)) ∧ (z = 1 → ∀ f, post (some (VI (nI (brF r h n lk c (bmi (brF r h n lk c) 512))))) (sA 36 f M))
def brP (r : Nat → Nat) (h : Nat → Int32) (n : Nat) (lk : Nat → Nat) (row : Nat) (l : Nat) : Bool := rs (fsp r (us h n) n) (lk l) 9 == 0 || rs (fsp r (us h n) n) (lk l) 9 == rs (fsp r (us h n) n) row 9
/-- what slips: key and notch, as 10 k + notch -/
def slQ (T w : Nat) (i : Nat) : Bool := decide (i % 10 < 9) && (T.testBit (i / 10) && decide (w = 2 ^ (i % 10)))
def S_X5_slips : SP := fun as M post => ∃ x y z n c p r h lk, as = [VR 39, VI x, VI y, VI z] ∧ MW M n c p r h lk ∧ (¬ (In x (us h n) ∧ (0 ≤ y ∧ y < nI c) ∧ -1 ≤ z) → post (some (VI (-1))) M) ∧
  (∀ T l, x = nI T → T &&& us h n = T → y = nI l → l < c → ∀ w, w = xrN r T n ^^^ lk l → (z = -1 → post (some (VI (nI (flt (slQ T w) 80).length))) M) ∧ (∀ i v, z = nI i → (flt (slQ T w) 80)[i]? = some v → post (some (VI (nI v))) M) ∧ (∀ i, z = nI i → i < 2 ^ 31 → (flt (slQ T w) 80).length ≤ i → post (some (VI (-5))) M))
theorem dX5_brings_0 : decode cX5_brings 0 = .ok (.iload_n 1, 1) := by decide +kernel
theorem dX5_brings_1 : decode cX5_brings 1 = .ok (.iconst 0, 1) := by decide +kernel
theorem dX5_brings_2 : decode cX5_brings 2 = .ok (.iconst 1, 1) := by decide +kernel
theorem dX5_brings_3 : decode cX5_brings 3 = .ok (.invokestatic 35, 3) := by decide +kernel
theorem dX5_brings_6 : decode cX5_brings 6 = .ok (.ifCond .ne 5, 3) := by decide +kernel
theorem dX5_brings_9 : decode cX5_brings 9 = .ok (.iconst (-1), 1) := by decide +kernel
theorem dX5_brings_10 : decode cX5_brings 10 = .ok (.ireturn, 1) := by decide +kernel
theorem dX5_brings_11 : decode cX5_brings 11 = .ok (.aload_n 0, 1) := by decide +kernel
theorem dX5_brings_12 : decode cX5_brings 12 = .ok (.aload_n 0, 1) := by decide +kernel
theorem dX5_brings_13 : decode cX5_brings 13 = .ok (.invokevirtual 104, 3) := by decide +kernel
theorem dX5_brings_16 : decode cX5_brings 16 = .ok (.invokevirtual 124, 3) := by decide +kernel
theorem dX5_brings_19 : decode cX5_brings 19 = .ok (.iconst (-1), 1) := by decide +kernel
theorem dX5_brings_20 : decode cX5_brings 20 = .ok (.istore_n 2, 1) := by decide +kernel
theorem dX5_brings_21 : decode cX5_brings 21 = .ok (.iconst 0, 1) := by decide +kernel
theorem dX5_brings_22 : decode cX5_brings 22 = .ok (.istore_n 3, 1) := by decide +kernel
theorem dX5_brings_23 : decode cX5_brings 23 = .ok (.iconst 0, 1) := by decide +kernel
theorem dX5_brings_24 : decode cX5_brings 24 = .ok (.istore 4, 2) := by decide +kernel
theorem dX5_brings_26 : decode cX5_brings 26 = .ok (.iload 4, 2) := by decide +kernel
theorem dX5_brings_28 : decode cX5_brings 28 = .ok (.sipush 512, 3) := by decide +kernel
theorem dX5_brings_31 : decode cX5_brings 31 = .ok (.if_icmp .ge 105, 3) := by decide +kernel
theorem dX5_brings_34 : decode cX5_brings 34 = .ok (.iconst 0, 1) := by decide +kernel
theorem dX5_brings_35 : decode cX5_brings 35 = .ok (.istore 5, 2) := by decide +kernel
theorem dX5_brings_37 : decode cX5_brings 37 = .ok (.iconst 0, 1) := by decide +kernel
theorem dX5_brings_38 : decode cX5_brings 38 = .ok (.istore 6, 2) := by decide +kernel
theorem dX5_brings_40 : decode cX5_brings 40 = .ok (.iload 6, 2) := by decide +kernel
theorem dX5_brings_42 : decode cX5_brings 42 = .ok (.aload_n 0, 1) := by decide +kernel
theorem dX5_brings_43 : decode cX5_brings 43 = .ok (.getfield 13, 3) := by decide +kernel
theorem dX5_brings_46 : decode cX5_brings 46 = .ok (.iconst 0, 1) := by decide +kernel
theorem dX5_brings_47 : decode cX5_brings 47 = .ok (.iaload, 1) := by decide +kernel
theorem dX5_brings_48 : decode cX5_brings 48 = .ok (.if_icmp .ge 56, 3) := by decide +kernel
theorem dX5_brings_51 : decode cX5_brings 51 = .ok (.iload 5, 2) := by decide +kernel
theorem dX5_brings_53 : decode cX5_brings 53 = .ok (.aload_n 0, 1) := by decide +kernel
theorem dX5_brings_54 : decode cX5_brings 54 = .ok (.getfield 29, 3) := by decide +kernel
theorem dX5_brings_57 : decode cX5_brings 57 = .ok (.aload_n 0, 1) := by decide +kernel
theorem dX5_brings_58 : decode cX5_brings 58 = .ok (.getfield 13, 3) := by decide +kernel
theorem dX5_brings_61 : decode cX5_brings 61 = .ok (.iconst 4, 1) := by decide +kernel
theorem dX5_brings_62 : decode cX5_brings 62 = .ok (.iload 6, 2) := by decide +kernel
theorem dX5_brings_64 : decode cX5_brings 64 = .ok (.iadd, 1) := by decide +kernel
theorem dX5_brings_65 : decode cX5_brings 65 = .ok (.iaload, 1) := by decide +kernel
theorem dX5_brings_66 : decode cX5_brings 66 = .ok (.baload, 1) := by decide +kernel
theorem dX5_brings_67 : decode cX5_brings 67 = .ok (.ifCond .ne 23, 3) := by decide +kernel
theorem dX5_brings_70 : decode cX5_brings 70 = .ok (.aload_n 0, 1) := by decide +kernel
theorem dX5_brings_71 : decode cX5_brings 71 = .ok (.getfield 29, 3) := by decide +kernel
theorem dX5_brings_74 : decode cX5_brings 74 = .ok (.aload_n 0, 1) := by decide +kernel
theorem dX5_brings_75 : decode cX5_brings 75 = .ok (.getfield 13, 3) := by decide +kernel
theorem dX5_brings_78 : decode cX5_brings 78 = .ok (.iconst 4, 1) := by decide +kernel
theorem dX5_brings_79 : decode cX5_brings 79 = .ok (.iload 6, 2) := by decide +kernel
theorem dX5_brings_81 : decode cX5_brings 81 = .ok (.iadd, 1) := by decide +kernel
theorem dX5_brings_82 : decode cX5_brings 82 = .ok (.iaload, 1) := by decide +kernel
theorem dX5_brings_83 : decode cX5_brings 83 = .ok (.iload 4, 2) := by decide +kernel
theorem dX5_brings_85 : decode cX5_brings 85 = .ok (.ixor, 1) := by decide +kernel
theorem dX5_brings_86 : decode cX5_brings 86 = .ok (.baload, 1) := by decide +kernel
theorem dX5_brings_87 : decode cX5_brings 87 = .ok (.ifCond .eq 7, 3) := by decide +kernel
theorem dX5_brings_90 : decode cX5_brings 90 = .ok (.iconst 1, 1) := by decide +kernel
theorem dX5_brings_91 : decode cX5_brings 91 = .ok (.goto 4, 3) := by decide +kernel
theorem dX5_brings_94 : decode cX5_brings 94 = .ok (.iconst 0, 1) := by decide +kernel
theorem dX5_brings_95 : decode cX5_brings 95 = .ok (.iadd, 1) := by decide +kernel
theorem dX5_brings_96 : decode cX5_brings 96 = .ok (.istore 5, 2) := by decide +kernel
theorem dX5_brings_98 : decode cX5_brings 98 = .ok (.iinc 6 1, 3) := by decide +kernel
theorem dX5_brings_101 : decode cX5_brings 101 = .ok (.goto (-61), 3) := by decide +kernel
theorem dX5_brings_104 : decode cX5_brings 104 = .ok (.iload 5, 2) := by decide +kernel
theorem dX5_brings_106 : decode cX5_brings 106 = .ok (.iload_n 2, 1) := by decide +kernel
theorem dX5_brings_107 : decode cX5_brings 107 = .ok (.if_icmp .le 8, 3) := by decide +kernel
theorem dX5_brings_110 : decode cX5_brings 110 = .ok (.iload 4, 2) := by decide +kernel
theorem dX5_brings_112 : decode cX5_brings 112 = .ok (.goto 4, 3) := by decide +kernel
theorem dX5_brings_115 : decode cX5_brings 115 = .ok (.iload_n 3, 1) := by decide +kernel
theorem dX5_brings_116 : decode cX5_brings 116 = .ok (.istore_n 3, 1) := by decide +kernel
theorem dX5_brings_117 : decode cX5_brings 117 = .ok (.iload 5, 2) := by decide +kernel
theorem dX5_brings_119 : decode cX5_brings 119 = .ok (.iload_n 2, 1) := by decide +kernel
theorem dX5_brings_120 : decode cX5_brings 120 = .ok (.if_icmp .le 8, 3) := by decide +kernel
theorem dX5_brings_123 : decode cX5_brings 123 = .ok (.iload 5, 2) := by decide +kernel
theorem dX5_brings_125 : decode cX5_brings 125 = .ok (.goto 4, 3) := by decide +kernel
theorem dX5_brings_128 : decode cX5_brings 128 = .ok (.iload_n 2, 1) := by decide +kernel
theorem dX5_brings_129 : decode cX5_brings 129 = .ok (.istore_n 2, 1) := by decide +kernel
theorem dX5_brings_130 : decode cX5_brings 130 = .ok (.iinc 4 1, 3) := by decide +kernel
theorem dX5_brings_133 : decode cX5_brings 133 = .ok (.goto (-107), 3) := by decide +kernel
theorem dX5_brings_136 : decode cX5_brings 136 = .ok (.iload_n 1, 1) := by decide +kernel
theorem dX5_brings_137 : decode cX5_brings 137 = .ok (.ifCond .ne 7, 3) := by decide +kernel
theorem dX5_brings_140 : decode cX5_brings 140 = .ok (.iload_n 3, 1) := by decide +kernel
theorem dX5_brings_141 : decode cX5_brings 141 = .ok (.goto 4, 3) := by decide +kernel
theorem dX5_brings_144 : decode cX5_brings 144 = .ok (.iload_n 2, 1) := by decide +kernel
theorem dX5_brings_145 : decode cX5_brings 145 = .ok (.ireturn, 1) := by decide +kernel
def T_X5_brings (post : PO) : List (Nat × OP) := [(0, o_iload 1 1), (1, o_const 0 2), (2, o_const 1 3), (3, o_callS S_X5_in 3 6), (6, o_if (fun x => x = 0) 9 11), (9, o_const (-1) 10), (10, o_iret post), (11, o_aload 0 12), (12, o_aload 0 13), (13, o_callV 5 S_X5_all 0 16), (16, o_callV 5 S_X5_makes 1 19), (19, o_const (-1) 20), (20, o_istore 2 21), (21, o_const 0 22), (22, o_istore 3 23), (23, o_const 0 24), (24, o_istore 4 26), (26, o_iload 4 28), (28, o_const 512 31), (31, o_icmp (fun x y => y ≤ x) 136 34), (34, o_const 0 35), (35, o_istore 5 37), (37, o_const 0 38), (38, o_istore 6 40), (40, o_iload 6 42), (42, o_aload 0 43), (43, o_getf 5 3 46), (46, o_const 0 47), (47, o_ald 0 48), (48, o_icmp (fun x y => y ≤ x) 104 51), (51, o_iload 5 53), (53, o_aload 0 54), (54, o_getf 5 12 57), (57, o_aload 0 58), (58, o_getf 5 3 61), (61, o_const 4 62), (62, o_iload 6 64), (64, o_bin (fun x y => x + y) 65), (65, o_ald 0 66), (66, o_ald 2 67), (67, o_if (fun x => x = 0) 70 90), (70, o_aload 0 71), (71, o_getf 5 12 74), (74, o_aload 0 75), (75, o_getf 5 3 78), (78, o_const 4 79), (79, o_iload 6 81), (81, o_bin (fun x y => x + y) 82), (82, o_ald 0 83), (83, o_iload 4 85), (85, o_bin (fun x y => x ^^^ y) 86), (86, o_ald 2 87), (87, o_if (fun x => x = 0) 94 90), (90, o_const 1 91), (91, o_goto 95), (94, o_const 0 95), (95, o_bin (fun x y => x + y) 96), (96, o_istore 5 98), (98, o_iinc 6 1 101), (101, o_goto 40), (104, o_iload 5 106), (106, o_iload 2 107), (107, o_icmp (fun x y => x ≤ y) 115 110), (110, o_iload 4 112), (112, o_goto 116), (115, o_iload 3 116), (116, o_istore 3 117), (117, o_iload 5 119), (119, o_iload 2 120), (120, o_icmp (fun x y => x ≤ y) 128 123), (123, o_iload 5 125), (125, o_goto 129), (128, o_iload 2 129), (129, o_istore 2 130), (130, o_iinc 4 1 133), (133, o_goto 26), (136, o_iload 1 137), (137, o_if (fun x => x = 0) 140 144), (140, o_iload 3 141), (141, o_goto 145), (144, o_iload 2 145), (145, o_iret post)]
theorem k_X5_brings_0 (post : PO) : lk (T_X5_brings post) 0 = o_iload 1 1 := rfl
theorem k_X5_brings_1 (post : PO) : lk (T_X5_brings post) 1 = o_const 0 2 := rfl
theorem k_X5_brings_2 (post : PO) : lk (T_X5_brings post) 2 = o_const 1 3 := rfl
theorem k_X5_brings_3 (post : PO) : lk (T_X5_brings post) 3 = o_callS S_X5_in 3 6 := rfl
theorem k_X5_brings_6 (post : PO) : lk (T_X5_brings post) 6 = o_if (fun x => x = 0) 9 11 := rfl
theorem k_X5_brings_9 (post : PO) : lk (T_X5_brings post) 9 = o_const (-1) 10 := rfl
theorem k_X5_brings_10 (post : PO) : lk (T_X5_brings post) 10 = o_iret post := rfl
theorem k_X5_brings_11 (post : PO) : lk (T_X5_brings post) 11 = o_aload 0 12 := rfl
theorem k_X5_brings_12 (post : PO) : lk (T_X5_brings post) 12 = o_aload 0 13 := rfl
theorem k_X5_brings_13 (post : PO) : lk (T_X5_brings post) 13 = o_callV 5 S_X5_all 0 16 := rfl
theorem k_X5_brings_16 (post : PO) : lk (T_X5_brings post) 16 = o_callV 5 S_X5_makes 1 19 := rfl
theorem k_X5_brings_19 (post : PO) : lk (T_X5_brings post) 19 = o_const (-1) 20 := rfl
theorem k_X5_brings_20 (post : PO) : lk (T_X5_brings post) 20 = o_istore 2 21 := rfl
theorem k_X5_brings_21 (post : PO) : lk (T_X5_brings post) 21 = o_const 0 22 := rfl
theorem k_X5_brings_22 (post : PO) : lk (T_X5_brings post) 22 = o_istore 3 23 := rfl
theorem k_X5_brings_23 (post : PO) : lk (T_X5_brings post) 23 = o_const 0 24 := rfl
theorem k_X5_brings_24 (post : PO) : lk (T_X5_brings post) 24 = o_istore 4 26 := rfl
theorem k_X5_brings_26 (post : PO) : lk (T_X5_brings post) 26 = o_iload 4 28 := rfl
theorem k_X5_brings_28 (post : PO) : lk (T_X5_brings post) 28 = o_const 512 31 := rfl
theorem k_X5_brings_31 (post : PO) : lk (T_X5_brings post) 31 = o_icmp (fun x y => y ≤ x) 136 34 := rfl
theorem k_X5_brings_34 (post : PO) : lk (T_X5_brings post) 34 = o_const 0 35 := rfl
theorem k_X5_brings_35 (post : PO) : lk (T_X5_brings post) 35 = o_istore 5 37 := rfl
theorem k_X5_brings_37 (post : PO) : lk (T_X5_brings post) 37 = o_const 0 38 := rfl
theorem k_X5_brings_38 (post : PO) : lk (T_X5_brings post) 38 = o_istore 6 40 := rfl
theorem k_X5_brings_40 (post : PO) : lk (T_X5_brings post) 40 = o_iload 6 42 := rfl
theorem k_X5_brings_42 (post : PO) : lk (T_X5_brings post) 42 = o_aload 0 43 := rfl
theorem k_X5_brings_43 (post : PO) : lk (T_X5_brings post) 43 = o_getf 5 3 46 := rfl
theorem k_X5_brings_46 (post : PO) : lk (T_X5_brings post) 46 = o_const 0 47 := rfl
theorem k_X5_brings_47 (post : PO) : lk (T_X5_brings post) 47 = o_ald 0 48 := rfl
theorem k_X5_brings_48 (post : PO) : lk (T_X5_brings post) 48 = o_icmp (fun x y => y ≤ x) 104 51 := rfl
theorem k_X5_brings_51 (post : PO) : lk (T_X5_brings post) 51 = o_iload 5 53 := rfl
theorem k_X5_brings_53 (post : PO) : lk (T_X5_brings post) 53 = o_aload 0 54 := rfl
theorem k_X5_brings_54 (post : PO) : lk (T_X5_brings post) 54 = o_getf 5 12 57 := rfl
theorem k_X5_brings_57 (post : PO) : lk (T_X5_brings post) 57 = o_aload 0 58 := rfl
theorem k_X5_brings_58 (post : PO) : lk (T_X5_brings post) 58 = o_getf 5 3 61 := rfl
theorem k_X5_brings_61 (post : PO) : lk (T_X5_brings post) 61 = o_const 4 62 := rfl
theorem k_X5_brings_62 (post : PO) : lk (T_X5_brings post) 62 = o_iload 6 64 := rfl
theorem k_X5_brings_64 (post : PO) : lk (T_X5_brings post) 64 = o_bin (fun x y => x + y) 65 := rfl
theorem k_X5_brings_65 (post : PO) : lk (T_X5_brings post) 65 = o_ald 0 66 := rfl
theorem k_X5_brings_66 (post : PO) : lk (T_X5_brings post) 66 = o_ald 2 67 := rfl
theorem k_X5_brings_67 (post : PO) : lk (T_X5_brings post) 67 = o_if (fun x => x = 0) 70 90 := rfl
theorem k_X5_brings_70 (post : PO) : lk (T_X5_brings post) 70 = o_aload 0 71 := rfl
theorem k_X5_brings_71 (post : PO) : lk (T_X5_brings post) 71 = o_getf 5 12 74 := rfl
theorem k_X5_brings_74 (post : PO) : lk (T_X5_brings post) 74 = o_aload 0 75 := rfl
theorem k_X5_brings_75 (post : PO) : lk (T_X5_brings post) 75 = o_getf 5 3 78 := rfl
theorem k_X5_brings_78 (post : PO) : lk (T_X5_brings post) 78 = o_const 4 79 := rfl
theorem k_X5_brings_79 (post : PO) : lk (T_X5_brings post) 79 = o_iload 6 81 := rfl
theorem k_X5_brings_81 (post : PO) : lk (T_X5_brings post) 81 = o_bin (fun x y => x + y) 82 := rfl
theorem k_X5_brings_82 (post : PO) : lk (T_X5_brings post) 82 = o_ald 0 83 := rfl
theorem k_X5_brings_83 (post : PO) : lk (T_X5_brings post) 83 = o_iload 4 85 := rfl
theorem k_X5_brings_85 (post : PO) : lk (T_X5_brings post) 85 = o_bin (fun x y => x ^^^ y) 86 := rfl
theorem k_X5_brings_86 (post : PO) : lk (T_X5_brings post) 86 = o_ald 2 87 := rfl
theorem k_X5_brings_87 (post : PO) : lk (T_X5_brings post) 87 = o_if (fun x => x = 0) 94 90 := rfl
theorem k_X5_brings_90 (post : PO) : lk (T_X5_brings post) 90 = o_const 1 91 := rfl
theorem k_X5_brings_91 (post : PO) : lk (T_X5_brings post) 91 = o_goto 95 := rfl
theorem k_X5_brings_94 (post : PO) : lk (T_X5_brings post) 94 = o_const 0 95 := rfl
theorem k_X5_brings_95 (post : PO) : lk (T_X5_brings post) 95 = o_bin (fun x y => x + y) 96 := rfl
theorem k_X5_brings_96 (post : PO) : lk (T_X5_brings post) 96 = o_istore 5 98 := rfl
theorem k_X5_brings_98 (post : PO) : lk (T_X5_brings post) 98 = o_iinc 6 1 101 := rfl
theorem k_X5_brings_101 (post : PO) : lk (T_X5_brings post) 101 = o_goto 40 := rfl
theorem k_X5_brings_104 (post : PO) : lk (T_X5_brings post) 104 = o_iload 5 106 := rfl
theorem k_X5_brings_106 (post : PO) : lk (T_X5_brings post) 106 = o_iload 2 107 := rfl
theorem k_X5_brings_107 (post : PO) : lk (T_X5_brings post) 107 = o_icmp (fun x y => x ≤ y) 115 110 := rfl
theorem k_X5_brings_110 (post : PO) : lk (T_X5_brings post) 110 = o_iload 4 112 := rfl
theorem k_X5_brings_112 (post : PO) : lk (T_X5_brings post) 112 = o_goto 116 := rfl
theorem k_X5_brings_115 (post : PO) : lk (T_X5_brings post) 115 = o_iload 3 116 := rfl
theorem k_X5_brings_116 (post : PO) : lk (T_X5_brings post) 116 = o_istore 3 117 := rfl
theorem k_X5_brings_117 (post : PO) : lk (T_X5_brings post) 117 = o_iload 5 119 := rfl
theorem k_X5_brings_119 (post : PO) : lk (T_X5_brings post) 119 = o_iload 2 120 := rfl
theorem k_X5_brings_120 (post : PO) : lk (T_X5_brings post) 120 = o_icmp (fun x y => x ≤ y) 128 123 := rfl
theorem k_X5_brings_123 (post : PO) : lk (T_X5_brings post) 123 = o_iload 5 125 := rfl
theorem k_X5_brings_125 (post : PO) : lk (T_X5_brings post) 125 = o_goto 129 := rfl
theorem k_X5_brings_128 (post : PO) : lk (T_X5_brings post) 128 = o_iload 2 129 := rfl
theorem k_X5_brings_129 (post : PO) : lk (T_X5_brings post) 129 = o_istore 2 130 := rfl
theorem k_X5_brings_130 (post : PO) : lk (T_X5_brings post) 130 = o_iinc 4 1 133 := rfl
theorem k_X5_brings_133 (post : PO) : lk (T_X5_brings post) 133 = o_goto 26 := rfl
theorem k_X5_brings_136 (post : PO) : lk (T_X5_brings post) 136 = o_iload 1 137 := rfl
theorem k_X5_brings_137 (post : PO) : lk (T_X5_brings post) 137 = o_if (fun x => x = 0) 140 144 := rfl
theorem k_X5_brings_140 (post : PO) : lk (T_X5_brings post) 140 = o_iload 3 141 := rfl
theorem k_X5_brings_141 (post : PO) : lk (T_X5_brings post) 141 = o_goto 145 := rfl
theorem k_X5_brings_144 (post : PO) : lk (T_X5_brings post) 144 = o_iload 2 145 := rfl
theorem k_X5_brings_145 (post : PO) : lk (T_X5_brings post) 145 = o_iret post := rfl
set_option maxRecDepth 100000 in
theorem t_X5_brings {p : Program} {l : Launch} {e : Env} {s : State} {m : MethodId} {args : Array Value} {below : List Frame} {meth : Method} {c : Code} {D : va_G} {dA : Nat → ClassId} {ad : Nat → Nat} (post : PO) (C : CX p s m args meth c cX5_brings 7 yX5_brings.cls D dA ad (AA ad s.heap.size)) (hr : meth.sig.returnType = (some .int)) : SndL (WW p l e ({ frames := 2, cells := 0, slots := 0, locals := 45 } : Room) s m args below meth c 0 0 (MQ below (CQ D dA ad post (AA ad s.heap.size)) args s 0 0 (AA ad s.heap.size)) 7 D dA ad (AA ad s.heap.size)) (T_X5_brings post) := by
  refine snd_c (s_iload_n C rfl dX5_brings_0) ?_
  refine snd_c (s_iconst C dX5_brings_1 rfl) ?_
  refine snd_c (s_iconst C dX5_brings_2 rfl) ?_
  refine snd_c (s_callS C c_X5_in cw_RX5_35 ⟨rfl, rfl⟩ ⟨by decide +kernel, by decide +kernel, by decide +kernel⟩ ⟨by decide, by decide⟩ ⟨Nat.zero_le _, Nat.zero_le _⟩ dX5_brings_3) ?_
  refine snd_c (s_if_ne C dX5_brings_6 (by decide)) ?_
  refine snd_c (s_iconst C dX5_brings_9 rfl) ?_
  refine snd_c (s_iret C hr dX5_brings_10) ?_
  refine snd_c (s_aload_n C rfl dX5_brings_11) ?_
  refine snd_c (s_aload_n C rfl dX5_brings_12) ?_
  refine snd_c (s_callV C (ci := 5) c_X5_all rfl cw_RX5_104 ⟨rfl, rfl⟩ ⟨by decide +kernel, by decide +kernel, by decide +kernel⟩ ⟨by decide, by decide⟩ ⟨Nat.zero_le _, Nat.zero_le _⟩ dX5_brings_13) ?_
  refine snd_c (s_callV C (ci := 5) c_X5_makes rfl cw_RX5_124 ⟨rfl, rfl⟩ ⟨by decide +kernel, by decide +kernel, by decide +kernel⟩ ⟨by decide, by decide⟩ ⟨Nat.zero_le _, Nat.zero_le _⟩ dX5_brings_16) ?_
  refine snd_c (s_iconst C dX5_brings_19 rfl) ?_
  refine snd_c (s_istore_n C rfl (by decide) dX5_brings_20) ?_
  refine snd_c (s_iconst C dX5_brings_21 rfl) ?_
  refine snd_c (s_istore_n C rfl (by decide) dX5_brings_22) ?_
  refine snd_c (s_iconst C dX5_brings_23 rfl) ?_
  refine snd_c (s_istore C (by decide) dX5_brings_24) ?_
  refine snd_c (s_iload C dX5_brings_26) ?_
  refine snd_c (s_sipush C dX5_brings_28 rfl) ?_
  refine snd_c (s_icmp_ge C dX5_brings_31 (by decide)) ?_
  refine snd_c (s_iconst C dX5_brings_34 rfl) ?_
  refine snd_c (s_istore C (by decide) dX5_brings_35) ?_
  refine snd_c (s_iconst C dX5_brings_37 rfl) ?_
  refine snd_c (s_istore C (by decide) dX5_brings_38) ?_
  refine snd_c (s_iload C dX5_brings_40) ?_
  refine snd_c (s_aload_n C rfl dX5_brings_42) ?_
  refine snd_c (s_getf C (ci := 5) (j := 3) (T := TX5) rfl inX5 (by decide) fl_RX5_13 dX5_brings_43) ?_
  refine snd_c (s_iconst C dX5_brings_46 rfl) ?_
  refine snd_c (s_iald C dX5_brings_47) ?_
  refine snd_c (s_icmp_ge C dX5_brings_48 (by decide)) ?_
  refine snd_c (s_iload C dX5_brings_51) ?_
  refine snd_c (s_aload_n C rfl dX5_brings_53) ?_
  refine snd_c (s_getf C (ci := 5) (j := 12) (T := TX5) rfl inX5 (by decide) fl_RX5_29 dX5_brings_54) ?_
  refine snd_c (s_aload_n C rfl dX5_brings_57) ?_
  refine snd_c (s_getf C (ci := 5) (j := 3) (T := TX5) rfl inX5 (by decide) fl_RX5_13 dX5_brings_58) ?_
  refine snd_c (s_iconst C dX5_brings_61 rfl) ?_
  refine snd_c (s_iload C dX5_brings_62) ?_
  refine snd_c (s_iadd C dX5_brings_64) ?_
  refine snd_c (s_iald C dX5_brings_65) ?_
  refine snd_c (s_bald2 C dX5_brings_66) ?_
  refine snd_c (s_if_ne C dX5_brings_67 (by decide)) ?_
  refine snd_c (s_aload_n C rfl dX5_brings_70) ?_
  refine snd_c (s_getf C (ci := 5) (j := 12) (T := TX5) rfl inX5 (by decide) fl_RX5_29 dX5_brings_71) ?_
  refine snd_c (s_aload_n C rfl dX5_brings_74) ?_
  refine snd_c (s_getf C (ci := 5) (j := 3) (T := TX5) rfl inX5 (by decide) fl_RX5_13 dX5_brings_75) ?_
  refine snd_c (s_iconst C dX5_brings_78 rfl) ?_
  refine snd_c (s_iload C dX5_brings_79) ?_
  refine snd_c (s_iadd C dX5_brings_81) ?_
  refine snd_c (s_iald C dX5_brings_82) ?_
  refine snd_c (s_iload C dX5_brings_83) ?_
  refine snd_c (s_ixor C dX5_brings_85) ?_
  refine snd_c (s_bald2 C dX5_brings_86) ?_
  refine snd_c (s_if_eq C dX5_brings_87 (by decide)) ?_
  refine snd_c (s_iconst C dX5_brings_90 rfl) ?_
  refine snd_c (s_goto C dX5_brings_91 (by decide)) ?_
  refine snd_c (s_iconst C dX5_brings_94 rfl) ?_
  refine snd_c (s_iadd C dX5_brings_95) ?_
  refine snd_c (s_istore C (by decide) dX5_brings_96) ?_
  refine snd_c (s_iinc C (by decide) rfl dX5_brings_98) ?_
  refine snd_c (s_goto C dX5_brings_101 (by decide)) ?_
  refine snd_c (s_iload C dX5_brings_104) ?_
  refine snd_c (s_iload_n C rfl dX5_brings_106) ?_
  refine snd_c (s_icmp_le C dX5_brings_107 (by decide)) ?_
  refine snd_c (s_iload C dX5_brings_110) ?_
  refine snd_c (s_goto C dX5_brings_112 (by decide)) ?_
  refine snd_c (s_iload_n C rfl dX5_brings_115) ?_
  refine snd_c (s_istore_n C rfl (by decide) dX5_brings_116) ?_
  refine snd_c (s_iload C dX5_brings_117) ?_
  refine snd_c (s_iload_n C rfl dX5_brings_119) ?_
  refine snd_c (s_icmp_le C dX5_brings_120 (by decide)) ?_
  refine snd_c (s_iload C dX5_brings_123) ?_
  refine snd_c (s_goto C dX5_brings_125 (by decide)) ?_
  refine snd_c (s_iload_n C rfl dX5_brings_128) ?_
  refine snd_c (s_istore_n C rfl (by decide) dX5_brings_129) ?_
  refine snd_c (s_iinc C (by decide) rfl dX5_brings_130) ?_
  refine snd_c (s_goto C dX5_brings_133 (by decide)) ?_
  refine snd_c (s_iload_n C rfl dX5_brings_136) ?_
  refine snd_c (s_if_ne C dX5_brings_137 (by decide)) ?_
  refine snd_c (s_iload_n C rfl dX5_brings_140) ?_
  refine snd_c (s_goto C dX5_brings_141 (by decide)) ?_
  refine snd_c (s_iload_n C rfl dX5_brings_144) ?_
  refine snd_c (s_iret C hr dX5_brings_145) ?_
  exact trivial
theorem dX5_slips_0 : decode cX5_slips 0 = .ok (.aload_n 0, 1) := by decide +kernel
theorem dX5_slips_1 : decode cX5_slips 1 = .ok (.iload_n 1, 1) := by decide +kernel
theorem dX5_slips_2 : decode cX5_slips 2 = .ok (.invokevirtual 107, 3) := by decide +kernel
theorem dX5_slips_5 : decode cX5_slips 5 = .ok (.ifCond .eq 16, 3) := by decide +kernel
theorem dX5_slips_8 : decode cX5_slips 8 = .ok (.aload_n 0, 1) := by decide +kernel
theorem dX5_slips_9 : decode cX5_slips 9 = .ok (.iload_n 2, 1) := by decide +kernel
theorem dX5_slips_10 : decode cX5_slips 10 = .ok (.invokevirtual 101, 3) := by decide +kernel
theorem dX5_slips_13 : decode cX5_slips 13 = .ok (.ifCond .eq 8, 3) := by decide +kernel
theorem dX5_slips_16 : decode cX5_slips 16 = .ok (.iload_n 3, 1) := by decide +kernel
theorem dX5_slips_17 : decode cX5_slips 17 = .ok (.iconst (-1), 1) := by decide +kernel
theorem dX5_slips_18 : decode cX5_slips 18 = .ok (.if_icmp .ge 5, 3) := by decide +kernel
theorem dX5_slips_21 : decode cX5_slips 21 = .ok (.iconst (-1), 1) := by decide +kernel
theorem dX5_slips_22 : decode cX5_slips 22 = .ok (.ireturn, 1) := by decide +kernel
theorem dX5_slips_23 : decode cX5_slips 23 = .ok (.iconst 0, 1) := by decide +kernel
theorem dX5_slips_24 : decode cX5_slips 24 = .ok (.istore 4, 2) := by decide +kernel
theorem dX5_slips_26 : decode cX5_slips 26 = .ok (.bipush (-5), 2) := by decide +kernel
theorem dX5_slips_28 : decode cX5_slips 28 = .ok (.istore 5, 2) := by decide +kernel
theorem dX5_slips_30 : decode cX5_slips 30 = .ok (.iconst 0, 1) := by decide +kernel
theorem dX5_slips_31 : decode cX5_slips 31 = .ok (.istore 6, 2) := by decide +kernel
theorem dX5_slips_33 : decode cX5_slips 33 = .ok (.iload 6, 2) := by decide +kernel
theorem dX5_slips_35 : decode cX5_slips 35 = .ok (.bipush 80, 2) := by decide +kernel
theorem dX5_slips_37 : decode cX5_slips 37 = .ok (.if_icmp .ge 103, 3) := by decide +kernel
theorem dX5_slips_40 : decode cX5_slips 40 = .ok (.iload 6, 2) := by decide +kernel
theorem dX5_slips_42 : decode cX5_slips 42 = .ok (.bipush 10, 2) := by decide +kernel
theorem dX5_slips_44 : decode cX5_slips 44 = .ok (.idiv, 1) := by decide +kernel
theorem dX5_slips_45 : decode cX5_slips 45 = .ok (.istore 7, 2) := by decide +kernel
theorem dX5_slips_47 : decode cX5_slips 47 = .ok (.iload 6, 2) := by decide +kernel
theorem dX5_slips_49 : decode cX5_slips 49 = .ok (.bipush 10, 2) := by decide +kernel
theorem dX5_slips_51 : decode cX5_slips 51 = .ok (.irem, 1) := by decide +kernel
theorem dX5_slips_52 : decode cX5_slips 52 = .ok (.istore 8, 2) := by decide +kernel
theorem dX5_slips_54 : decode cX5_slips 54 = .ok (.iload 8, 2) := by decide +kernel
theorem dX5_slips_56 : decode cX5_slips 56 = .ok (.bipush 9, 2) := by decide +kernel
theorem dX5_slips_58 : decode cX5_slips 58 = .ok (.if_icmp .ge 38, 3) := by decide +kernel
theorem dX5_slips_61 : decode cX5_slips 61 = .ok (.iload_n 1, 1) := by decide +kernel
theorem dX5_slips_62 : decode cX5_slips 62 = .ok (.iload 7, 2) := by decide +kernel
theorem dX5_slips_64 : decode cX5_slips 64 = .ok (.ishr, 1) := by decide +kernel
theorem dX5_slips_65 : decode cX5_slips 65 = .ok (.iconst 1, 1) := by decide +kernel
theorem dX5_slips_66 : decode cX5_slips 66 = .ok (.iand, 1) := by decide +kernel
theorem dX5_slips_67 : decode cX5_slips 67 = .ok (.iconst 1, 1) := by decide +kernel
theorem dX5_slips_68 : decode cX5_slips 68 = .ok (.if_icmp .ne 28, 3) := by decide +kernel
theorem dX5_slips_71 : decode cX5_slips 71 = .ok (.aload_n 0, 1) := by decide +kernel
theorem dX5_slips_72 : decode cX5_slips 72 = .ok (.iload_n 1, 1) := by decide +kernel
theorem dX5_slips_73 : decode cX5_slips 73 = .ok (.invokevirtual 110, 3) := by decide +kernel
theorem dX5_slips_76 : decode cX5_slips 76 = .ok (.iconst 1, 1) := by decide +kernel
theorem dX5_slips_77 : decode cX5_slips 77 = .ok (.iload 8, 2) := by decide +kernel
theorem dX5_slips_79 : decode cX5_slips 79 = .ok (.ishl, 1) := by decide +kernel
theorem dX5_slips_80 : decode cX5_slips 80 = .ok (.ixor, 1) := by decide +kernel
theorem dX5_slips_81 : decode cX5_slips 81 = .ok (.aload_n 0, 1) := by decide +kernel
theorem dX5_slips_82 : decode cX5_slips 82 = .ok (.getfield 13, 3) := by decide +kernel
theorem dX5_slips_85 : decode cX5_slips 85 = .ok (.iconst 4, 1) := by decide +kernel
theorem dX5_slips_86 : decode cX5_slips 86 = .ok (.iload_n 2, 1) := by decide +kernel
theorem dX5_slips_87 : decode cX5_slips 87 = .ok (.iadd, 1) := by decide +kernel
theorem dX5_slips_88 : decode cX5_slips 88 = .ok (.iaload, 1) := by decide +kernel
theorem dX5_slips_89 : decode cX5_slips 89 = .ok (.if_icmp .ne 7, 3) := by decide +kernel
theorem dX5_slips_92 : decode cX5_slips 92 = .ok (.iconst 1, 1) := by decide +kernel
theorem dX5_slips_93 : decode cX5_slips 93 = .ok (.goto 4, 3) := by decide +kernel
theorem dX5_slips_96 : decode cX5_slips 96 = .ok (.iconst 0, 1) := by decide +kernel
theorem dX5_slips_97 : decode cX5_slips 97 = .ok (.istore 9, 2) := by decide +kernel
theorem dX5_slips_99 : decode cX5_slips 99 = .ok (.iload 9, 2) := by decide +kernel
theorem dX5_slips_101 : decode cX5_slips 101 = .ok (.ifCond .eq 14, 3) := by decide +kernel
theorem dX5_slips_104 : decode cX5_slips 104 = .ok (.iload 4, 2) := by decide +kernel
theorem dX5_slips_106 : decode cX5_slips 106 = .ok (.iload_n 3, 1) := by decide +kernel
theorem dX5_slips_107 : decode cX5_slips 107 = .ok (.if_icmp .ne 8, 3) := by decide +kernel
theorem dX5_slips_110 : decode cX5_slips 110 = .ok (.iload 6, 2) := by decide +kernel
theorem dX5_slips_112 : decode cX5_slips 112 = .ok (.goto 5, 3) := by decide +kernel
theorem dX5_slips_115 : decode cX5_slips 115 = .ok (.iload 5, 2) := by decide +kernel
theorem dX5_slips_117 : decode cX5_slips 117 = .ok (.istore 5, 2) := by decide +kernel
theorem dX5_slips_119 : decode cX5_slips 119 = .ok (.iload 4, 2) := by decide +kernel
theorem dX5_slips_121 : decode cX5_slips 121 = .ok (.iload 9, 2) := by decide +kernel
theorem dX5_slips_123 : decode cX5_slips 123 = .ok (.ifCond .eq 7, 3) := by decide +kernel
theorem dX5_slips_126 : decode cX5_slips 126 = .ok (.iconst 1, 1) := by decide +kernel
theorem dX5_slips_127 : decode cX5_slips 127 = .ok (.goto 4, 3) := by decide +kernel
theorem dX5_slips_130 : decode cX5_slips 130 = .ok (.iconst 0, 1) := by decide +kernel
theorem dX5_slips_131 : decode cX5_slips 131 = .ok (.iadd, 1) := by decide +kernel
theorem dX5_slips_132 : decode cX5_slips 132 = .ok (.istore 4, 2) := by decide +kernel
theorem dX5_slips_134 : decode cX5_slips 134 = .ok (.iinc 6 1, 3) := by decide +kernel
theorem dX5_slips_137 : decode cX5_slips 137 = .ok (.goto (-104), 3) := by decide +kernel
theorem dX5_slips_140 : decode cX5_slips 140 = .ok (.iload_n 3, 1) := by decide +kernel
theorem dX5_slips_141 : decode cX5_slips 141 = .ok (.iconst (-1), 1) := by decide +kernel
theorem dX5_slips_142 : decode cX5_slips 142 = .ok (.if_icmp .ne 8, 3) := by decide +kernel
theorem dX5_slips_145 : decode cX5_slips 145 = .ok (.iload 4, 2) := by decide +kernel
theorem dX5_slips_147 : decode cX5_slips 147 = .ok (.goto 5, 3) := by decide +kernel
theorem dX5_slips_150 : decode cX5_slips 150 = .ok (.iload 5, 2) := by decide +kernel
theorem dX5_slips_152 : decode cX5_slips 152 = .ok (.ireturn, 1) := by decide +kernel
def T_X5_slips (post : PO) : List (Nat × OP) := [(0, o_aload 0 1), (1, o_iload 1 2), (2, o_callV 5 S_X5_isSet 1 5), (5, o_if (fun x => x = 0) 21 8), (8, o_aload 0 9), (9, o_iload 2 10), (10, o_callV 5 S_X5_isLock 1 13), (13, o_if (fun x => x = 0) 21 16), (16, o_iload 3 17), (17, o_const (-1) 18), (18, o_icmp (fun x y => y ≤ x) 23 21), (21, o_const (-1) 22), (22, o_iret post), (23, o_const 0 24), (24, o_istore 4 26), (26, o_const (-5) 28), (28, o_istore 5 30), (30, o_const 0 31), (31, o_istore 6 33), (33, o_iload 6 35), (35, o_const 80 37), (37, o_icmp (fun x y => y ≤ x) 140 40), (40, o_iload 6 42), (42, o_const 10 44), (44, o_div (fun x y => x / y) 45), (45, o_istore 7 47), (47, o_iload 6 49), (49, o_const 10 51), (51, o_div (fun x y => x - x / y * y) 52), (52, o_istore 8 54), (54, o_iload 8 56), (56, o_const 9 58), (58, o_icmp (fun x y => y ≤ x) 96 61), (61, o_iload 1 62), (62, o_iload 7 64), (64, o_bin (fun x y => x >>> (y &&& 31)) 65), (65, o_const 1 66), (66, o_bin (fun x y => x &&& y) 67), (67, o_const 1 68), (68, o_icmp (fun x y => x = y) 71 96), (71, o_aload 0 72), (72, o_iload 1 73), (73, o_callV 5 S_X5_rowOf 1 76), (76, o_const 1 77), (77, o_iload 8 79), (79, o_bin (fun x y => x <<< (y &&& 31)) 80), (80, o_bin (fun x y => x ^^^ y) 81), (81, o_aload 0 82), (82, o_getf 5 3 85), (85, o_const 4 86), (86, o_iload 2 87), (87, o_bin (fun x y => x + y) 88), (88, o_ald 0 89), (89, o_icmp (fun x y => x = y) 92 96), (92, o_const 1 93), (93, o_goto 97), (96, o_const 0 97), (97, o_istore 9 99), (99, o_iload 9 101), (101, o_if (fun x => x = 0) 115 104), (104, o_iload 4 106), (106, o_iload 3 107), (107, o_icmp (fun x y => x = y) 110 115), (110, o_iload 6 112), (112, o_goto 117), (115, o_iload 5 117), (117, o_istore 5 119), (119, o_iload 4 121), (121, o_iload 9 123), (123, o_if (fun x => x = 0) 130 126), (126, o_const 1 127), (127, o_goto 131), (130, o_const 0 131), (131, o_bin (fun x y => x + y) 132), (132, o_istore 4 134), (134, o_iinc 6 1 137), (137, o_goto 33), (140, o_iload 3 141), (141, o_const (-1) 142), (142, o_icmp (fun x y => x = y) 145 150), (145, o_iload 4 147), (147, o_goto 152), (150, o_iload 5 152), (152, o_iret post)]
theorem k_X5_slips_0 (post : PO) : lk (T_X5_slips post) 0 = o_aload 0 1 := rfl
theorem k_X5_slips_1 (post : PO) : lk (T_X5_slips post) 1 = o_iload 1 2 := rfl
theorem k_X5_slips_2 (post : PO) : lk (T_X5_slips post) 2 = o_callV 5 S_X5_isSet 1 5 := rfl
theorem k_X5_slips_5 (post : PO) : lk (T_X5_slips post) 5 = o_if (fun x => x = 0) 21 8 := rfl
theorem k_X5_slips_8 (post : PO) : lk (T_X5_slips post) 8 = o_aload 0 9 := rfl
theorem k_X5_slips_9 (post : PO) : lk (T_X5_slips post) 9 = o_iload 2 10 := rfl
theorem k_X5_slips_10 (post : PO) : lk (T_X5_slips post) 10 = o_callV 5 S_X5_isLock 1 13 := rfl
theorem k_X5_slips_13 (post : PO) : lk (T_X5_slips post) 13 = o_if (fun x => x = 0) 21 16 := rfl
theorem k_X5_slips_16 (post : PO) : lk (T_X5_slips post) 16 = o_iload 3 17 := rfl
theorem k_X5_slips_17 (post : PO) : lk (T_X5_slips post) 17 = o_const (-1) 18 := rfl
theorem k_X5_slips_18 (post : PO) : lk (T_X5_slips post) 18 = o_icmp (fun x y => y ≤ x) 23 21 := rfl
theorem k_X5_slips_21 (post : PO) : lk (T_X5_slips post) 21 = o_const (-1) 22 := rfl
theorem k_X5_slips_22 (post : PO) : lk (T_X5_slips post) 22 = o_iret post := rfl
theorem k_X5_slips_23 (post : PO) : lk (T_X5_slips post) 23 = o_const 0 24 := rfl
theorem k_X5_slips_24 (post : PO) : lk (T_X5_slips post) 24 = o_istore 4 26 := rfl
theorem k_X5_slips_26 (post : PO) : lk (T_X5_slips post) 26 = o_const (-5) 28 := rfl
theorem k_X5_slips_28 (post : PO) : lk (T_X5_slips post) 28 = o_istore 5 30 := rfl
theorem k_X5_slips_30 (post : PO) : lk (T_X5_slips post) 30 = o_const 0 31 := rfl
theorem k_X5_slips_31 (post : PO) : lk (T_X5_slips post) 31 = o_istore 6 33 := rfl
theorem k_X5_slips_33 (post : PO) : lk (T_X5_slips post) 33 = o_iload 6 35 := rfl
theorem k_X5_slips_35 (post : PO) : lk (T_X5_slips post) 35 = o_const 80 37 := rfl
theorem k_X5_slips_37 (post : PO) : lk (T_X5_slips post) 37 = o_icmp (fun x y => y ≤ x) 140 40 := rfl
theorem k_X5_slips_40 (post : PO) : lk (T_X5_slips post) 40 = o_iload 6 42 := rfl
theorem k_X5_slips_42 (post : PO) : lk (T_X5_slips post) 42 = o_const 10 44 := rfl
theorem k_X5_slips_44 (post : PO) : lk (T_X5_slips post) 44 = o_div (fun x y => x / y) 45 := rfl
theorem k_X5_slips_45 (post : PO) : lk (T_X5_slips post) 45 = o_istore 7 47 := rfl
theorem k_X5_slips_47 (post : PO) : lk (T_X5_slips post) 47 = o_iload 6 49 := rfl
theorem k_X5_slips_49 (post : PO) : lk (T_X5_slips post) 49 = o_const 10 51 := rfl
theorem k_X5_slips_51 (post : PO) : lk (T_X5_slips post) 51 = o_div (fun x y => x - x / y * y) 52 := rfl
theorem k_X5_slips_52 (post : PO) : lk (T_X5_slips post) 52 = o_istore 8 54 := rfl
theorem k_X5_slips_54 (post : PO) : lk (T_X5_slips post) 54 = o_iload 8 56 := rfl
theorem k_X5_slips_56 (post : PO) : lk (T_X5_slips post) 56 = o_const 9 58 := rfl
theorem k_X5_slips_58 (post : PO) : lk (T_X5_slips post) 58 = o_icmp (fun x y => y ≤ x) 96 61 := rfl
theorem k_X5_slips_61 (post : PO) : lk (T_X5_slips post) 61 = o_iload 1 62 := rfl
theorem k_X5_slips_62 (post : PO) : lk (T_X5_slips post) 62 = o_iload 7 64 := rfl
theorem k_X5_slips_64 (post : PO) : lk (T_X5_slips post) 64 = o_bin (fun x y => x >>> (y &&& 31)) 65 := rfl
theorem k_X5_slips_65 (post : PO) : lk (T_X5_slips post) 65 = o_const 1 66 := rfl
theorem k_X5_slips_66 (post : PO) : lk (T_X5_slips post) 66 = o_bin (fun x y => x &&& y) 67 := rfl
theorem k_X5_slips_67 (post : PO) : lk (T_X5_slips post) 67 = o_const 1 68 := rfl
theorem k_X5_slips_68 (post : PO) : lk (T_X5_slips post) 68 = o_icmp (fun x y => x = y) 71 96 := rfl
theorem k_X5_slips_71 (post : PO) : lk (T_X5_slips post) 71 = o_aload 0 72 := rfl
theorem k_X5_slips_72 (post : PO) : lk (T_X5_slips post) 72 = o_iload 1 73 := rfl
theorem k_X5_slips_73 (post : PO) : lk (T_X5_slips post) 73 = o_callV 5 S_X5_rowOf 1 76 := rfl
theorem k_X5_slips_76 (post : PO) : lk (T_X5_slips post) 76 = o_const 1 77 := rfl
theorem k_X5_slips_77 (post : PO) : lk (T_X5_slips post) 77 = o_iload 8 79 := rfl
theorem k_X5_slips_79 (post : PO) : lk (T_X5_slips post) 79 = o_bin (fun x y => x <<< (y &&& 31)) 80 := rfl
theorem k_X5_slips_80 (post : PO) : lk (T_X5_slips post) 80 = o_bin (fun x y => x ^^^ y) 81 := rfl
theorem k_X5_slips_81 (post : PO) : lk (T_X5_slips post) 81 = o_aload 0 82 := rfl
theorem k_X5_slips_82 (post : PO) : lk (T_X5_slips post) 82 = o_getf 5 3 85 := rfl
theorem k_X5_slips_85 (post : PO) : lk (T_X5_slips post) 85 = o_const 4 86 := rfl
theorem k_X5_slips_86 (post : PO) : lk (T_X5_slips post) 86 = o_iload 2 87 := rfl
theorem k_X5_slips_87 (post : PO) : lk (T_X5_slips post) 87 = o_bin (fun x y => x + y) 88 := rfl
theorem k_X5_slips_88 (post : PO) : lk (T_X5_slips post) 88 = o_ald 0 89 := rfl
theorem k_X5_slips_89 (post : PO) : lk (T_X5_slips post) 89 = o_icmp (fun x y => x = y) 92 96 := rfl
theorem k_X5_slips_92 (post : PO) : lk (T_X5_slips post) 92 = o_const 1 93 := rfl
theorem k_X5_slips_93 (post : PO) : lk (T_X5_slips post) 93 = o_goto 97 := rfl
theorem k_X5_slips_96 (post : PO) : lk (T_X5_slips post) 96 = o_const 0 97 := rfl
theorem k_X5_slips_97 (post : PO) : lk (T_X5_slips post) 97 = o_istore 9 99 := rfl
theorem k_X5_slips_99 (post : PO) : lk (T_X5_slips post) 99 = o_iload 9 101 := rfl
theorem k_X5_slips_101 (post : PO) : lk (T_X5_slips post) 101 = o_if (fun x => x = 0) 115 104 := rfl
theorem k_X5_slips_104 (post : PO) : lk (T_X5_slips post) 104 = o_iload 4 106 := rfl
theorem k_X5_slips_106 (post : PO) : lk (T_X5_slips post) 106 = o_iload 3 107 := rfl
theorem k_X5_slips_107 (post : PO) : lk (T_X5_slips post) 107 = o_icmp (fun x y => x = y) 110 115 := rfl
theorem k_X5_slips_110 (post : PO) : lk (T_X5_slips post) 110 = o_iload 6 112 := rfl
theorem k_X5_slips_112 (post : PO) : lk (T_X5_slips post) 112 = o_goto 117 := rfl
theorem k_X5_slips_115 (post : PO) : lk (T_X5_slips post) 115 = o_iload 5 117 := rfl
theorem k_X5_slips_117 (post : PO) : lk (T_X5_slips post) 117 = o_istore 5 119 := rfl
theorem k_X5_slips_119 (post : PO) : lk (T_X5_slips post) 119 = o_iload 4 121 := rfl
theorem k_X5_slips_121 (post : PO) : lk (T_X5_slips post) 121 = o_iload 9 123 := rfl
theorem k_X5_slips_123 (post : PO) : lk (T_X5_slips post) 123 = o_if (fun x => x = 0) 130 126 := rfl
theorem k_X5_slips_126 (post : PO) : lk (T_X5_slips post) 126 = o_const 1 127 := rfl
theorem k_X5_slips_127 (post : PO) : lk (T_X5_slips post) 127 = o_goto 131 := rfl
theorem k_X5_slips_130 (post : PO) : lk (T_X5_slips post) 130 = o_const 0 131 := rfl
theorem k_X5_slips_131 (post : PO) : lk (T_X5_slips post) 131 = o_bin (fun x y => x + y) 132 := rfl
theorem k_X5_slips_132 (post : PO) : lk (T_X5_slips post) 132 = o_istore 4 134 := rfl
theorem k_X5_slips_134 (post : PO) : lk (T_X5_slips post) 134 = o_iinc 6 1 137 := rfl
theorem k_X5_slips_137 (post : PO) : lk (T_X5_slips post) 137 = o_goto 33 := rfl
theorem k_X5_slips_140 (post : PO) : lk (T_X5_slips post) 140 = o_iload 3 141 := rfl
theorem k_X5_slips_141 (post : PO) : lk (T_X5_slips post) 141 = o_const (-1) 142 := rfl
theorem k_X5_slips_142 (post : PO) : lk (T_X5_slips post) 142 = o_icmp (fun x y => x = y) 145 150 := rfl
theorem k_X5_slips_145 (post : PO) : lk (T_X5_slips post) 145 = o_iload 4 147 := rfl
theorem k_X5_slips_147 (post : PO) : lk (T_X5_slips post) 147 = o_goto 152 := rfl
theorem k_X5_slips_150 (post : PO) : lk (T_X5_slips post) 150 = o_iload 5 152 := rfl
theorem k_X5_slips_152 (post : PO) : lk (T_X5_slips post) 152 = o_iret post := rfl
set_option maxRecDepth 100000 in
theorem t_X5_slips {p : Program} {l : Launch} {e : Env} {s : State} {m : MethodId} {args : Array Value} {below : List Frame} {meth : Method} {c : Code} {D : va_G} {dA : Nat → ClassId} {ad : Nat → Nat} (post : PO) (C : CX p s m args meth c cX5_slips 10 yX5_slips.cls D dA ad (AA ad s.heap.size)) (hr : meth.sig.returnType = (some .int)) : SndL (WW p l e ({ frames := 2, cells := 0, slots := 0, locals := 43 } : Room) s m args below meth c 0 0 (MQ below (CQ D dA ad post (AA ad s.heap.size)) args s 0 0 (AA ad s.heap.size)) 10 D dA ad (AA ad s.heap.size)) (T_X5_slips post) := by
  refine snd_c (s_aload_n C rfl dX5_slips_0) ?_
  refine snd_c (s_iload_n C rfl dX5_slips_1) ?_
  refine snd_c (s_callV C (ci := 5) c_X5_isSet rfl cw_RX5_107 ⟨rfl, rfl⟩ ⟨by decide +kernel, by decide +kernel, by decide +kernel⟩ ⟨by decide, by decide⟩ ⟨Nat.zero_le _, Nat.zero_le _⟩ dX5_slips_2) ?_
  refine snd_c (s_if_eq C dX5_slips_5 (by decide)) ?_
  refine snd_c (s_aload_n C rfl dX5_slips_8) ?_
  refine snd_c (s_iload_n C rfl dX5_slips_9) ?_
  refine snd_c (s_callV C (ci := 5) c_X5_isLock rfl cw_RX5_101 ⟨rfl, rfl⟩ ⟨by decide +kernel, by decide +kernel, by decide +kernel⟩ ⟨by decide, by decide⟩ ⟨Nat.zero_le _, Nat.zero_le _⟩ dX5_slips_10) ?_
  refine snd_c (s_if_eq C dX5_slips_13 (by decide)) ?_
  refine snd_c (s_iload_n C rfl dX5_slips_16) ?_
  refine snd_c (s_iconst C dX5_slips_17 rfl) ?_
  refine snd_c (s_icmp_ge C dX5_slips_18 (by decide)) ?_
  refine snd_c (s_iconst C dX5_slips_21 rfl) ?_
  refine snd_c (s_iret C hr dX5_slips_22) ?_
  refine snd_c (s_iconst C dX5_slips_23 rfl) ?_
  refine snd_c (s_istore C (by decide) dX5_slips_24) ?_
  refine snd_c (s_bipush C dX5_slips_26 rfl) ?_
  refine snd_c (s_istore C (by decide) dX5_slips_28) ?_
  refine snd_c (s_iconst C dX5_slips_30 rfl) ?_
  refine snd_c (s_istore C (by decide) dX5_slips_31) ?_
  refine snd_c (s_iload C dX5_slips_33) ?_
  refine snd_c (s_bipush C dX5_slips_35 rfl) ?_
  refine snd_c (s_icmp_ge C dX5_slips_37 (by decide)) ?_
  refine snd_c (s_iload C dX5_slips_40) ?_
  refine snd_c (s_bipush C dX5_slips_42 rfl) ?_
  refine snd_c (s_idiv C dX5_slips_44) ?_
  refine snd_c (s_istore C (by decide) dX5_slips_45) ?_
  refine snd_c (s_iload C dX5_slips_47) ?_
  refine snd_c (s_bipush C dX5_slips_49 rfl) ?_
  refine snd_c (s_irem C dX5_slips_51) ?_
  refine snd_c (s_istore C (by decide) dX5_slips_52) ?_
  refine snd_c (s_iload C dX5_slips_54) ?_
  refine snd_c (s_bipush C dX5_slips_56 rfl) ?_
  refine snd_c (s_icmp_ge C dX5_slips_58 (by decide)) ?_
  refine snd_c (s_iload_n C rfl dX5_slips_61) ?_
  refine snd_c (s_iload C dX5_slips_62) ?_
  refine snd_c (s_ishr C dX5_slips_64) ?_
  refine snd_c (s_iconst C dX5_slips_65 rfl) ?_
  refine snd_c (s_iand C dX5_slips_66) ?_
  refine snd_c (s_iconst C dX5_slips_67 rfl) ?_
  refine snd_c (s_icmp_ne C dX5_slips_68 (by decide)) ?_
  refine snd_c (s_aload_n C rfl dX5_slips_71) ?_
  refine snd_c (s_iload_n C rfl dX5_slips_72) ?_
  refine snd_c (s_callV C (ci := 5) c_X5_rowOf rfl cw_RX5_110 ⟨rfl, rfl⟩ ⟨by decide +kernel, by decide +kernel, by decide +kernel⟩ ⟨by decide, by decide⟩ ⟨Nat.zero_le _, Nat.zero_le _⟩ dX5_slips_73) ?_
  refine snd_c (s_iconst C dX5_slips_76 rfl) ?_
  refine snd_c (s_iload C dX5_slips_77) ?_
  refine snd_c (s_ishl C dX5_slips_79) ?_
  refine snd_c (s_ixor C dX5_slips_80) ?_
  refine snd_c (s_aload_n C rfl dX5_slips_81) ?_
  refine snd_c (s_getf C (ci := 5) (j := 3) (T := TX5) rfl inX5 (by decide) fl_RX5_13 dX5_slips_82) ?_
  refine snd_c (s_iconst C dX5_slips_85 rfl) ?_
  refine snd_c (s_iload_n C rfl dX5_slips_86) ?_
  refine snd_c (s_iadd C dX5_slips_87) ?_
  refine snd_c (s_iald C dX5_slips_88) ?_
  refine snd_c (s_icmp_ne C dX5_slips_89 (by decide)) ?_
  refine snd_c (s_iconst C dX5_slips_92 rfl) ?_
  refine snd_c (s_goto C dX5_slips_93 (by decide)) ?_
  refine snd_c (s_iconst C dX5_slips_96 rfl) ?_
  refine snd_c (s_istore C (by decide) dX5_slips_97) ?_
  refine snd_c (s_iload C dX5_slips_99) ?_
  refine snd_c (s_if_eq C dX5_slips_101 (by decide)) ?_
  refine snd_c (s_iload C dX5_slips_104) ?_
  refine snd_c (s_iload_n C rfl dX5_slips_106) ?_
  refine snd_c (s_icmp_ne C dX5_slips_107 (by decide)) ?_
  refine snd_c (s_iload C dX5_slips_110) ?_
  refine snd_c (s_goto C dX5_slips_112 (by decide)) ?_
  refine snd_c (s_iload C dX5_slips_115) ?_
  refine snd_c (s_istore C (by decide) dX5_slips_117) ?_
  refine snd_c (s_iload C dX5_slips_119) ?_
  refine snd_c (s_iload C dX5_slips_121) ?_
  refine snd_c (s_if_eq C dX5_slips_123 (by decide)) ?_
  refine snd_c (s_iconst C dX5_slips_126 rfl) ?_
  refine snd_c (s_goto C dX5_slips_127 (by decide)) ?_
  refine snd_c (s_iconst C dX5_slips_130 rfl) ?_
  refine snd_c (s_iadd C dX5_slips_131) ?_
  refine snd_c (s_istore C (by decide) dX5_slips_132) ?_
  refine snd_c (s_iinc C (by decide) rfl dX5_slips_134) ?_
  refine snd_c (s_goto C dX5_slips_137 (by decide)) ?_
  refine snd_c (s_iload_n C rfl dX5_slips_140) ?_
  refine snd_c (s_iconst C dX5_slips_141 rfl) ?_
  refine snd_c (s_icmp_ne C dX5_slips_142 (by decide)) ?_
  refine snd_c (s_iload C dX5_slips_145) ?_
  refine snd_c (s_goto C dX5_slips_147 (by decide)) ?_
  refine snd_c (s_iload C dX5_slips_150) ?_
  refine snd_c (s_iret C hr dX5_slips_152) ?_
  exact trivial
set_option maxRecDepth 100000 in
theorem v_X5_brings : ∀ as M post, S_X5_brings as M post → wsum as ≤ 7 ∧ RUN (T_X5_brings post) 0 (entL 7 as) [] M := by
  rintro as M post ⟨z, n, c, p, r, h0, lk, rfl, hX, h1, h2, h3⟩
  have hX0 := hX
  obtain ⟨hn, hn8, hc, hc6, hp, hp4, hr, hhk, hl⟩ := hX
  have hul := us_lt h0 hn8
  have hrl : ∀ k, k < n → r k < 512 := fun k hk => (hr k hk).2
  have hF : ∀ i, brF r h0 n lk c i ≤ 6 := fun i => Nat.le_trans (ct_le _ c) hc6
  refine ⟨by show 2 ≤ 7; omega, run_of [26, 40] (fun μ pc lv st M' => st = [] ∧ (z = 0 ∨ z = 1) ∧ ∃ i f, isMk r n (us h0 n) f ∧ M' = sA 36 f M ∧ ((pc = 26 ∧ i ≤ 512 ∧ (600 - i) * 10 + 9 = μ ∧ lv = [some (VR 39), some (VI z), some (VI (mostI (brF r h0 n lk c) i)), some (VI (nI (bmi (brF r h0 n lk c) i))), some (VI (nI i)), none, none]) ∨ (pc = 40 ∧ i < 512 ∧ ∃ l, l ≤ c ∧ (600 - i) * 10 + 8 - l = μ ∧ lv = [some (VR 39), some (VI z), some (VI (mostI (brF r h0 n lk c) i)), some (VI (nI (bmi (brF r h0 n lk c) i))), some (VI (nI i)), some (VI (nI (ct (brP r h0 n lk i) l))), some (VI (nI l))]))) 80 8000 ?_ ?_⟩
  · rintro μ pc lv st M' ⟨rfl, hz, i, f, hf, rfl, ⟨rfl, hi, rfl, rfl⟩ | ⟨rfl, hi, l, hlc, rfl, rfl⟩⟩
    · have hbl := bmi_le (brF r h0 n lk c) i
      dsimp only [k_X5_brings_0, k_X5_brings_1, k_X5_brings_2, k_X5_brings_3, k_X5_brings_6, k_X5_brings_9, k_X5_brings_10, k_X5_brings_11, k_X5_brings_12, k_X5_brings_13, k_X5_brings_16, k_X5_brings_19, k_X5_brings_20, k_X5_brings_21, k_X5_brings_22, k_X5_brings_23, k_X5_brings_24, k_X5_brings_26, k_X5_brings_28, k_X5_brings_31, k_X5_brings_34, k_X5_brings_35, k_X5_brings_37, k_X5_brings_38, k_X5_brings_40, k_X5_brings_42, k_X5_brings_43, k_X5_brings_46, k_X5_brings_47, k_X5_brings_48, k_X5_brings_51, k_X5_brings_53, k_X5_brings_54, k_X5_brings_57, k_X5_brings_58, k_X5_brings_61, k_X5_brings_62, k_X5_brings_64, k_X5_brings_65, k_X5_brings_66, k_X5_brings_67, k_X5_brings_70, k_X5_brings_71, k_X5_brings_74, k_X5_brings_75, k_X5_brings_78, k_X5_brings_79, k_X5_brings_81, k_X5_brings_82, k_X5_brings_83, k_X5_brings_85, k_X5_brings_86, k_X5_brings_87, k_X5_brings_90, k_X5_brings_91, k_X5_brings_94, k_X5_brings_95, k_X5_brings_96, k_X5_brings_98, k_X5_brings_101, k_X5_brings_104, k_X5_brings_106, k_X5_brings_107, k_X5_brings_110, k_X5_brings_112, k_X5_brings_115, k_X5_brings_116, k_X5_brings_117, k_X5_brings_119, k_X5_brings_120, k_X5_brings_123, k_X5_brings_125, k_X5_brings_128, k_X5_brings_129, k_X5_brings_130, k_X5_brings_133, k_X5_brings_136, k_X5_brings_137, k_X5_brings_140, k_X5_brings_141, k_X5_brings_144, k_X5_brings_145, wp1, wp_s, cutIn, kont, Nat.reduceSub, Nat.reduceAdd, nth, o_const, o_lconst, o_ref, o_iload, o_lload, o_aload, o_istore, o_lstore, o_astore, o_iinc, o_bin, o_div, o_un, o_lbin, o_lsh, o_lcmp, o_i2l, o_l2i, o_if, o_icmp, o_goto, o_dup, o_dup2, o_pop, fav, o_getf, o_putI, o_putZ, o_putL, o_ald, o_ast, o_alen, popn, rst, o_callV, o_callT, o_callS, swx, o_sw, o_ret, o_iret, o_zret, o_cret, o_lret, o_aret, lg, lput, lput2, ls1, isL, entL, wsum, rdI1, rdI2, rdA1, rdA21, rdA22, rdL1, rdL22, rdL21, upN_at, rep, sh_0, F_0_0, F_0_1, F_0_2, F_0_3, F_0_4, F_0_5, F_0_6, F_0_7, F_0_8, sh_1, F_1_0, F_1_1, F_1_2, F_1_3, F_1_4, F_1_5, sh_3, F_3_0, F_3_1, F_3_2, F_3_3, F_3_4, F_3_5, sh_5, F_5_0, F_5_1, F_5_2, F_5_3, F_5_4, F_5_5, F_5_6, F_5_7, F_5_8, sh_12, F_12_0, F_12_1, F_12_2, F_12_3, F_12_4, F_12_5, sh_14, F_14_0, F_14_1, F_14_2, F_14_3, F_14_4, F_14_5, F_14_6, F_14_7, F_14_8, sh_21, F_21_0, F_21_1, F_21_2, F_21_3, F_21_4, F_21_5, F_21_6, F_21_7, F_21_8, sh_28, F_28_0, F_28_1, F_28_2, F_28_3, F_28_4, F_28_5, F_28_6, F_28_7, F_28_8, sh_35, F_35_0, sh_39, F_39_0, F_39_1, F_39_2, F_39_3, F_39_4, F_39_5, F_39_6, F_39_7, F_39_8, F_39_9, F_39_10, F_39_11, F_39_12, F_39_13, A_2, A_4, A_6, A_7, A_8, A_9, A_10, A_11, A_13, A_15, A_16, A_17, A_18, A_19, A_20, A_22, A_23, A_24, A_25, A_26, A_27, A_29, A_30, A_31, A_32, A_33, A_34, A_36, A_37, A_38, A_40, A_41, A_42, A_43, A_44, A_45, A_46, A_47]
      rw [show (512 : Int32) = nI 512 from rfl]
      simp (disch := omega) only [nI_leI, nI_ltI, nI_eq, nI_1, nI_add, one_shl, nI_or, nI_xor, nI_and, bit_0, bit_1, true_or, or_true, true_and, and_true, eq_self, not_true_eq_false, not_false_eq_true, forall_const]
      refine ⟨fun w1 => ?_, fun w1 => cut _ _ ⟨rfl, hz, i, f, hf, rfl, Or.inr ⟨rfl, by omega, 0, by omega, rfl, rfl⟩⟩ (by omega) ⟨rfl, rfl, rfl, rfl, rfl, rfl, rfl, trivial⟩⟩
      have e : i = 512 := by omega
      subst e
      refine ⟨fun w2 => h2 w2 f, fun w2 => ?_⟩
      have h4 := h3 (hz.elim (fun w => absurd w w2) id) f
      unfold mostI
      rw [if_neg (by omega)]; exact h4
    · have hcl := ct_le (brP r h0 n lk i) l
      have a0 : ∀ q : Nat, nI q + 0 = nI q := fun q => by rw [show (0 : Int32) = nI 0 from rfl, nI_add, Nat.add_zero]
      have hFi := hF i
      have hbl := bmi_le (brF r h0 n lk c) i
      dsimp only [k_X5_brings_0, k_X5_brings_1, k_X5_brings_2, k_X5_brings_3, k_X5_brings_6, k_X5_brings_9, k_X5_brings_10, k_X5_brings_11, k_X5_brings_12, k_X5_brings_13, k_X5_brings_16, k_X5_brings_19, k_X5_brings_20, k_X5_brings_21, k_X5_brings_22, k_X5_brings_23, k_X5_brings_24, k_X5_brings_26, k_X5_brings_28, k_X5_brings_31, k_X5_brings_34, k_X5_brings_35, k_X5_brings_37, k_X5_brings_38, k_X5_brings_40, k_X5_brings_42, k_X5_brings_43, k_X5_brings_46, k_X5_brings_47, k_X5_brings_48, k_X5_brings_51, k_X5_brings_53, k_X5_brings_54, k_X5_brings_57, k_X5_brings_58, k_X5_brings_61, k_X5_brings_62, k_X5_brings_64, k_X5_brings_65, k_X5_brings_66, k_X5_brings_67, k_X5_brings_70, k_X5_brings_71, k_X5_brings_74, k_X5_brings_75, k_X5_brings_78, k_X5_brings_79, k_X5_brings_81, k_X5_brings_82, k_X5_brings_83, k_X5_brings_85, k_X5_brings_86, k_X5_brings_87, k_X5_brings_90, k_X5_brings_91, k_X5_brings_94, k_X5_brings_95, k_X5_brings_96, k_X5_brings_98, k_X5_brings_101, k_X5_brings_104, k_X5_brings_106, k_X5_brings_107, k_X5_brings_110, k_X5_brings_112, k_X5_brings_115, k_X5_brings_116, k_X5_brings_117, k_X5_brings_119, k_X5_brings_120, k_X5_brings_123, k_X5_brings_125, k_X5_brings_128, k_X5_brings_129, k_X5_brings_130, k_X5_brings_133, k_X5_brings_136, k_X5_brings_137, k_X5_brings_140, k_X5_brings_141, k_X5_brings_144, k_X5_brings_145, wp1, wp_s, cutIn, kont, Nat.reduceSub, Nat.reduceAdd, nth, o_const, o_lconst, o_ref, o_iload, o_lload, o_aload, o_istore, o_lstore, o_astore, o_iinc, o_bin, o_div, o_un, o_lbin, o_lsh, o_lcmp, o_i2l, o_l2i, o_if, o_icmp, o_goto, o_dup, o_dup2, o_pop, fav, o_getf, o_putI, o_putZ, o_putL, o_ald, o_ast, o_alen, popn, rst, o_callV, o_callT, o_callS, swx, o_sw, o_ret, o_iret, o_zret, o_cret, o_lret, o_aret, lg, lput, lput2, ls1, isL, entL, wsum, rdI1, rdI2, rdA1, rdA21, rdA22, rdL1, rdL22, rdL21, upN_at, rep, sh_0, F_0_0, F_0_1, F_0_2, F_0_3, F_0_4, F_0_5, F_0_6, F_0_7, F_0_8, sh_1, F_1_0, F_1_1, F_1_2, F_1_3, F_1_4, F_1_5, sh_3, F_3_0, F_3_1, F_3_2, F_3_3, F_3_4, F_3_5, sh_5, F_5_0, F_5_1, F_5_2, F_5_3, F_5_4, F_5_5, F_5_6, F_5_7, F_5_8, sh_12, F_12_0, F_12_1, F_12_2, F_12_3, F_12_4, F_12_5, sh_14, F_14_0, F_14_1, F_14_2, F_14_3, F_14_4, F_14_5, F_14_6, F_14_7, F_14_8, sh_21, F_21_0, F_21_1, F_21_2, F_21_3, F_21_4, F_21_5, F_21_6, F_21_7, F_21_8, sh_28, F_28_0, F_28_1, F_28_2, F_28_3, F_28_4, F_28_5, F_28_6, F_28_7, F_28_8, sh_35, F_35_0, sh_39, F_39_0, F_39_1, F_39_2, F_39_3, F_39_4, F_39_5, F_39_6, F_39_7, F_39_8, F_39_9, F_39_10, F_39_11, F_39_12, F_39_13, A_2, A_4, A_6, A_7, A_8, A_9, A_10, A_11, A_13, A_15, A_16, A_17, A_18, A_19, A_20, A_22, A_23, A_24, A_25, A_26, A_27, A_29, A_30, A_31, A_32, A_33, A_34, A_36, A_37, A_38, A_40, A_41, A_42, A_43, A_44, A_45, A_46, A_47]
      refine ⟨0, by omega, rfl, ?_⟩
      rw [hc]
      simp (disch := omega) only [nI_leI, nI_ltI, nI_eq, nI_1, nI_add, one_shl, nI_or, nI_xor, nI_and, bit_0, bit_1, true_or, or_true, true_and, and_true, eq_self, not_true_eq_false, not_false_eq_true, forall_const]
      refine ⟨fun w1 => ?_, fun w1 => ⟨4 + l, by omega, nI_add 4 l, lk l, (hl l (by omega)).2, (hl l (by omega)).1, fun w2 => ⟨4 + l, by omega, nI_add 4 l, lk l ^^^ i, Nat.xor_lt_two_pow (n := 9) (hl l (by omega)).2 (by omega), by rw [(hl l (by omega)).1, nI_xor], fun w3 => ?_, fun w3 => ?_⟩, fun w2 => ?_⟩⟩
      · have e : l = c := by omega
        subst e
        rw [show ct (brP r h0 n lk i) l = brF r h0 n lk l i from rfl] at *
        have hms : mostI (brF r h0 n lk l) (i + 1) = nI (brF r h0 n lk l (bmi (brF r h0 n lk l) (i + 1))) := by unfold mostI; rw [if_neg (by omega)]
        by_cases hi0 : i = 0
        · subst hi0
          have e := bm_s1 (f := brF r h0 n lk l) (N := 0) (Or.inl rfl)
          refine ⟨fun w2 => absurd w2 (nm1 _ (by omega)), fun w2 => ⟨fun w3 => absurd w3 w2, fun _ => ?_⟩⟩
          exact cut _ _ ⟨rfl, hz, 0 + 1, f, hf, rfl, Or.inl ⟨rfl, by omega, rfl, rfl⟩⟩ (by omega) ⟨rfl, rfl, vi_eq (by rw [hms, e]), vi_eq (by rw [e]), by first | rfl | exact vi_eq (nI_1 _), trivial⟩
        · have hm0 : mostI (brF r h0 n lk l) i = nI (brF r h0 n lk l (bmi (brF r h0 n lk l) i)) := by unfold mostI; rw [if_neg hi0]
          have hFb := hF (bmi (brF r h0 n lk l) i)
          rw [hm0, nI_leI (by omega) (by omega)]
          refine ⟨fun w2 => ⟨fun _ => ?_, fun w3 => absurd w2 w3⟩, fun w2 => ⟨fun w3 => absurd w3 w2, fun _ => ?_⟩⟩
          · have e := bm_s0 hi0 w2
            exact cut _ _ ⟨rfl, hz, i + 1, f, hf, rfl, Or.inl ⟨rfl, by omega, rfl, rfl⟩⟩ (by omega) ⟨rfl, rfl, vi_eq (by rw [hms, e]), vi_eq (by rw [e]), by first | rfl | exact vi_eq (nI_1 _), trivial⟩
          · have e := bm_s1 (f := brF r h0 n lk l) (N := i) (Or.inr (by omega))
            exact cut _ _ ⟨rfl, hz, i + 1, f, hf, rfl, Or.inl ⟨rfl, by omega, rfl, rfl⟩⟩ (by omega) ⟨rfl, rfl, vi_eq (by rw [hms, e]), vi_eq (by rw [e]), by first | rfl | exact vi_eq (nI_1 _), trivial⟩
      · have hP : brP r h0 n lk i l = false := by
          have g1 : rs (fsp r (us h0 n) n) (lk l) 9 ≠ 0 := fun e => by rw [(hf _ (hl l (by omega)).2).1 e] at w2; exact absurd w2 (by decide)
          have g2 : rs (fsp r (us h0 n) n) (lk l) 9 ≠ rs (fsp r (us h0 n) n) i 9 := fun e => by rw [(hf _ (Nat.xor_lt_two_pow (n := 9) (hl l (by omega)).2 (by omega))).1 (rs_eq.mp e)] at w3; exact absurd w3 (by decide)
          simp [brP, g1, g2]
        exact cut _ _ ⟨rfl, hz, i, f, hf, rfl, Or.inr ⟨rfl, hi, l + 1, by omega, rfl, rfl⟩⟩ (by omega) ⟨rfl, rfl, rfl, rfl, rfl, vi_eq (by rw [ct, hP]; first | rfl | exact a0 _), by first | rfl | exact vi_eq (nI_1 _), trivial⟩
      · have hP : brP r h0 n lk i l = true := by
          have g2 : rs (fsp r (us h0 n) n) (lk l) 9 = rs (fsp r (us h0 n) n) i 9 := by
            by_cases e : rs (fsp r (us h0 n) n) (lk l) 9 = rs (fsp r (us h0 n) n) i 9
            · exact e
            · exact absurd ((hf _ (Nat.xor_lt_two_pow (n := 9) (hl l (by omega)).2 (by omega))).2 fun e2 => e (rs_eq.mpr e2)) w3
          simp [brP, g2]
        exact cut _ _ ⟨rfl, hz, i, f, hf, rfl, Or.inr ⟨rfl, hi, l + 1, by omega, rfl, rfl⟩⟩ (by omega) ⟨rfl, rfl, rfl, rfl, rfl, vi_eq (by rw [ct, hP]; first | rfl | exact nI_1 _), by first | rfl | exact vi_eq (nI_1 _), trivial⟩
      · have hP : brP r h0 n lk i l = true := by
          have g1 : rs (fsp r (us h0 n) n) (lk l) 9 = 0 := by
            by_cases e : rs (fsp r (us h0 n) n) (lk l) 9 = 0
            · exact e
            · exact absurd ((hf _ (hl l (by omega)).2).2 e) w2
          simp [brP, g1]
        exact cut _ _ ⟨rfl, hz, i, f, hf, rfl, Or.inr ⟨rfl, hi, l + 1, by omega, rfl, rfl⟩⟩ (by omega) ⟨rfl, rfl, rfl, rfl, rfl, vi_eq (by rw [ct, hP]; first | rfl | exact nI_1 _), by first | rfl | exact vi_eq (nI_1 _), trivial⟩
  · dsimp only [k_X5_brings_0, k_X5_brings_1, k_X5_brings_2, k_X5_brings_3, k_X5_brings_6, k_X5_brings_9, k_X5_brings_10, k_X5_brings_11, k_X5_brings_12, k_X5_brings_13, k_X5_brings_16, k_X5_brings_19, k_X5_brings_20, k_X5_brings_21, k_X5_brings_22, k_X5_brings_23, k_X5_brings_24, k_X5_brings_26, k_X5_brings_28, k_X5_brings_31, k_X5_brings_34, k_X5_brings_35, k_X5_brings_37, k_X5_brings_38, k_X5_brings_40, k_X5_brings_42, k_X5_brings_43, k_X5_brings_46, k_X5_brings_47, k_X5_brings_48, k_X5_brings_51, k_X5_brings_53, k_X5_brings_54, k_X5_brings_57, k_X5_brings_58, k_X5_brings_61, k_X5_brings_62, k_X5_brings_64, k_X5_brings_65, k_X5_brings_66, k_X5_brings_67, k_X5_brings_70, k_X5_brings_71, k_X5_brings_74, k_X5_brings_75, k_X5_brings_78, k_X5_brings_79, k_X5_brings_81, k_X5_brings_82, k_X5_brings_83, k_X5_brings_85, k_X5_brings_86, k_X5_brings_87, k_X5_brings_90, k_X5_brings_91, k_X5_brings_94, k_X5_brings_95, k_X5_brings_96, k_X5_brings_98, k_X5_brings_101, k_X5_brings_104, k_X5_brings_106, k_X5_brings_107, k_X5_brings_110, k_X5_brings_112, k_X5_brings_115, k_X5_brings_116, k_X5_brings_117, k_X5_brings_119, k_X5_brings_120, k_X5_brings_123, k_X5_brings_125, k_X5_brings_128, k_X5_brings_129, k_X5_brings_130, k_X5_brings_133, k_X5_brings_136, k_X5_brings_137, k_X5_brings_140, k_X5_brings_141, k_X5_brings_144, k_X5_brings_145, wp1, wp_s, cutIn, kont, Nat.reduceSub, Nat.reduceAdd, nth, o_const, o_lconst, o_ref, o_iload, o_lload, o_aload, o_istore, o_lstore, o_astore, o_iinc, o_bin, o_div, o_un, o_lbin, o_lsh, o_lcmp, o_i2l, o_l2i, o_if, o_icmp, o_goto, o_dup, o_dup2, o_pop, fav, o_getf, o_putI, o_putZ, o_putL, o_ald, o_ast, o_alen, popn, rst, o_callV, o_callT, o_callS, swx, o_sw, o_ret, o_iret, o_zret, o_cret, o_lret, o_aret, lg, lput, lput2, ls1, isL, entL, wsum, rdI1, rdI2, rdA1, rdA21, rdA22, rdL1, rdL22, rdL21, upN_at, rep, sh_0, F_0_0, F_0_1, F_0_2, F_0_3, F_0_4, F_0_5, F_0_6, F_0_7, F_0_8, sh_1, F_1_0, F_1_1, F_1_2, F_1_3, F_1_4, F_1_5, sh_3, F_3_0, F_3_1, F_3_2, F_3_3, F_3_4, F_3_5, sh_5, F_5_0, F_5_1, F_5_2, F_5_3, F_5_4, F_5_5, F_5_6, F_5_7, F_5_8, sh_12, F_12_0, F_12_1, F_12_2, F_12_3, F_12_4, F_12_5, sh_14, F_14_0, F_14_1, F_14_2, F_14_3, F_14_4, F_14_5, F_14_6, F_14_7, F_14_8, sh_21, F_21_0, F_21_1, F_21_2, F_21_3, F_21_4, F_21_5, F_21_6, F_21_7, F_21_8, sh_28, F_28_0, F_28_1, F_28_2, F_28_3, F_28_4, F_28_5, F_28_6, F_28_7, F_28_8, sh_35, F_35_0, sh_39, F_39_0, F_39_1, F_39_2, F_39_3, F_39_4, F_39_5, F_39_6, F_39_7, F_39_8, F_39_9, F_39_10, F_39_11, F_39_12, F_39_13, A_2, A_4, A_6, A_7, A_8, A_9, A_10, A_11, A_13, A_15, A_16, A_17, A_18, A_19, A_20, A_22, A_23, A_24, A_25, A_26, A_27, A_29, A_30, A_31, A_32, A_33, A_34, A_36, A_37, A_38, A_40, A_41, A_42, A_43, A_44, A_45, A_46, A_47]
    refine ⟨z, 0, 1, rfl, ?_⟩
    unfold pz
    rw [i01]
    refine ⟨fun w1 => ?_, fun w1 => ?_⟩
    · dsimp only [k_X5_brings_0, k_X5_brings_1, k_X5_brings_2, k_X5_brings_3, k_X5_brings_6, k_X5_brings_9, k_X5_brings_10, k_X5_brings_11, k_X5_brings_12, k_X5_brings_13, k_X5_brings_16, k_X5_brings_19, k_X5_brings_20, k_X5_brings_21, k_X5_brings_22, k_X5_brings_23, k_X5_brings_24, k_X5_brings_26, k_X5_brings_28, k_X5_brings_31, k_X5_brings_34, k_X5_brings_35, k_X5_brings_37, k_X5_brings_38, k_X5_brings_40, k_X5_brings_42, k_X5_brings_43, k_X5_brings_46, k_X5_brings_47, k_X5_brings_48, k_X5_brings_51, k_X5_brings_53, k_X5_brings_54, k_X5_brings_57, k_X5_brings_58, k_X5_brings_61, k_X5_brings_62, k_X5_brings_64, k_X5_brings_65, k_X5_brings_66, k_X5_brings_67, k_X5_brings_70, k_X5_brings_71, k_X5_brings_74, k_X5_brings_75, k_X5_brings_78, k_X5_brings_79, k_X5_brings_81, k_X5_brings_82, k_X5_brings_83, k_X5_brings_85, k_X5_brings_86, k_X5_brings_87, k_X5_brings_90, k_X5_brings_91, k_X5_brings_94, k_X5_brings_95, k_X5_brings_96, k_X5_brings_98, k_X5_brings_101, k_X5_brings_104, k_X5_brings_106, k_X5_brings_107, k_X5_brings_110, k_X5_brings_112, k_X5_brings_115, k_X5_brings_116, k_X5_brings_117, k_X5_brings_119, k_X5_brings_120, k_X5_brings_123, k_X5_brings_125, k_X5_brings_128, k_X5_brings_129, k_X5_brings_130, k_X5_brings_133, k_X5_brings_136, k_X5_brings_137, k_X5_brings_140, k_X5_brings_141, k_X5_brings_144, k_X5_brings_145, wp1, wp_s, cutIn, kont, Nat.reduceSub, Nat.reduceAdd, nth, o_const, o_lconst, o_ref, o_iload, o_lload, o_aload, o_istore, o_lstore, o_astore, o_iinc, o_bin, o_div, o_un, o_lbin, o_lsh, o_lcmp, o_i2l, o_l2i, o_if, o_icmp, o_goto, o_dup, o_dup2, o_pop, fav, o_getf, o_putI, o_putZ, o_putL, o_ald, o_ast, o_alen, popn, rst, o_callV, o_callT, o_callS, swx, o_sw, o_ret, o_iret, o_zret, o_cret, o_lret, o_aret, lg, lput, lput2, ls1, isL, entL, wsum, rdI1, rdI2, rdA1, rdA21, rdA22, rdL1, rdL22, rdL21, upN_at, rep, sh_0, F_0_0, F_0_1, F_0_2, F_0_3, F_0_4, F_0_5, F_0_6, F_0_7, F_0_8, sh_1, F_1_0, F_1_1, F_1_2, F_1_3, F_1_4, F_1_5, sh_3, F_3_0, F_3_1, F_3_2, F_3_3, F_3_4, F_3_5, sh_5, F_5_0, F_5_1, F_5_2, F_5_3, F_5_4, F_5_5, F_5_6, F_5_7, F_5_8, sh_12, F_12_0, F_12_1, F_12_2, F_12_3, F_12_4, F_12_5, sh_14, F_14_0, F_14_1, F_14_2, F_14_3, F_14_4, F_14_5, F_14_6, F_14_7, F_14_8, sh_21, F_21_0, F_21_1, F_21_2, F_21_3, F_21_4, F_21_5, F_21_6, F_21_7, F_21_8, sh_28, F_28_0, F_28_1, F_28_2, F_28_3, F_28_4, F_28_5, F_28_6, F_28_7, F_28_8, sh_35, F_35_0, sh_39, F_39_0, F_39_1, F_39_2, F_39_3, F_39_4, F_39_5, F_39_6, F_39_7, F_39_8, F_39_9, F_39_10, F_39_11, F_39_12, F_39_13, A_2, A_4, A_6, A_7, A_8, A_9, A_10, A_11, A_13, A_15, A_16, A_17, A_18, A_19, A_20, A_22, A_23, A_24, A_25, A_26, A_27, A_29, A_30, A_31, A_32, A_33, A_34, A_36, A_37, A_38, A_40, A_41, A_42, A_43, A_44, A_45, A_46, A_47]
      simp (config := { decide := true }) only [true_implies, false_implies, and_true, true_and, not_true_eq_false, not_false_eq_true, forall_const]
      refine ⟨n, c, p, r, h0, lk, rfl, hX0, ?_⟩
      dsimp only [k_X5_brings_0, k_X5_brings_1, k_X5_brings_2, k_X5_brings_3, k_X5_brings_6, k_X5_brings_9, k_X5_brings_10, k_X5_brings_11, k_X5_brings_12, k_X5_brings_13, k_X5_brings_16, k_X5_brings_19, k_X5_brings_20, k_X5_brings_21, k_X5_brings_22, k_X5_brings_23, k_X5_brings_24, k_X5_brings_26, k_X5_brings_28, k_X5_brings_31, k_X5_brings_34, k_X5_brings_35, k_X5_brings_37, k_X5_brings_38, k_X5_brings_40, k_X5_brings_42, k_X5_brings_43, k_X5_brings_46, k_X5_brings_47, k_X5_brings_48, k_X5_brings_51, k_X5_brings_53, k_X5_brings_54, k_X5_brings_57, k_X5_brings_58, k_X5_brings_61, k_X5_brings_62, k_X5_brings_64, k_X5_brings_65, k_X5_brings_66, k_X5_brings_67, k_X5_brings_70, k_X5_brings_71, k_X5_brings_74, k_X5_brings_75, k_X5_brings_78, k_X5_brings_79, k_X5_brings_81, k_X5_brings_82, k_X5_brings_83, k_X5_brings_85, k_X5_brings_86, k_X5_brings_87, k_X5_brings_90, k_X5_brings_91, k_X5_brings_94, k_X5_brings_95, k_X5_brings_96, k_X5_brings_98, k_X5_brings_101, k_X5_brings_104, k_X5_brings_106, k_X5_brings_107, k_X5_brings_110, k_X5_brings_112, k_X5_brings_115, k_X5_brings_116, k_X5_brings_117, k_X5_brings_119, k_X5_brings_120, k_X5_brings_123, k_X5_brings_125, k_X5_brings_128, k_X5_brings_129, k_X5_brings_130, k_X5_brings_133, k_X5_brings_136, k_X5_brings_137, k_X5_brings_140, k_X5_brings_141, k_X5_brings_144, k_X5_brings_145, wp1, wp_s, cutIn, kont, Nat.reduceSub, Nat.reduceAdd, nth, o_const, o_lconst, o_ref, o_iload, o_lload, o_aload, o_istore, o_lstore, o_astore, o_iinc, o_bin, o_div, o_un, o_lbin, o_lsh, o_lcmp, o_i2l, o_l2i, o_if, o_icmp, o_goto, o_dup, o_dup2, o_pop, fav, o_getf, o_putI, o_putZ, o_putL, o_ald, o_ast, o_alen, popn, rst, o_callV, o_callT, o_callS, swx, o_sw, o_ret, o_iret, o_zret, o_cret, o_lret, o_aret, lg, lput, lput2, ls1, isL, entL, wsum, rdI1, rdI2, rdA1, rdA21, rdA22, rdL1, rdL22, rdL21, upN_at, rep, sh_0, F_0_0, F_0_1, F_0_2, F_0_3, F_0_4, F_0_5, F_0_6, F_0_7, F_0_8, sh_1, F_1_0, F_1_1, F_1_2, F_1_3, F_1_4, F_1_5, sh_3, F_3_0, F_3_1, F_3_2, F_3_3, F_3_4, F_3_5, sh_5, F_5_0, F_5_1, F_5_2, F_5_3, F_5_4, F_5_5, F_5_6, F_5_7, F_5_8, sh_12, F_12_0, F_12_1, F_12_2, F_12_3, F_12_4, F_12_5, sh_14, F_14_0, F_14_1, F_14_2, F_14_3, F_14_4, F_14_5, F_14_6, F_14_7, F_14_8, sh_21, F_21_0, F_21_1, F_21_2, F_21_3, F_21_4, F_21_5, F_21_6, F_21_7, F_21_8, sh_28, F_28_0, F_28_1, F_28_2, F_28_3, F_28_4, F_28_5, F_28_6, F_28_7, F_28_8, sh_35, F_35_0, sh_39, F_39_0, F_39_1, F_39_2, F_39_3, F_39_4, F_39_5, F_39_6, F_39_7, F_39_8, F_39_9, F_39_10, F_39_11, F_39_12, F_39_13, A_2, A_4, A_6, A_7, A_8, A_9, A_10, A_11, A_13, A_15, A_16, A_17, A_18, A_19, A_20, A_22, A_23, A_24, A_25, A_26, A_27, A_29, A_30, A_31, A_32, A_33, A_34, A_36, A_37, A_38, A_40, A_41, A_42, A_43, A_44, A_45, A_46, A_47]
      refine ⟨_, n, c, p, r, h0, lk, rfl, us_lt2 h0 n, hX0, fun f hf => ?_⟩
      dsimp only [k_X5_brings_0, k_X5_brings_1, k_X5_brings_2, k_X5_brings_3, k_X5_brings_6, k_X5_brings_9, k_X5_brings_10, k_X5_brings_11, k_X5_brings_12, k_X5_brings_13, k_X5_brings_16, k_X5_brings_19, k_X5_brings_20, k_X5_brings_21, k_X5_brings_22, k_X5_brings_23, k_X5_brings_24, k_X5_brings_26, k_X5_brings_28, k_X5_brings_31, k_X5_brings_34, k_X5_brings_35, k_X5_brings_37, k_X5_brings_38, k_X5_brings_40, k_X5_brings_42, k_X5_brings_43, k_X5_brings_46, k_X5_brings_47, k_X5_brings_48, k_X5_brings_51, k_X5_brings_53, k_X5_brings_54, k_X5_brings_57, k_X5_brings_58, k_X5_brings_61, k_X5_brings_62, k_X5_brings_64, k_X5_brings_65, k_X5_brings_66, k_X5_brings_67, k_X5_brings_70, k_X5_brings_71, k_X5_brings_74, k_X5_brings_75, k_X5_brings_78, k_X5_brings_79, k_X5_brings_81, k_X5_brings_82, k_X5_brings_83, k_X5_brings_85, k_X5_brings_86, k_X5_brings_87, k_X5_brings_90, k_X5_brings_91, k_X5_brings_94, k_X5_brings_95, k_X5_brings_96, k_X5_brings_98, k_X5_brings_101, k_X5_brings_104, k_X5_brings_106, k_X5_brings_107, k_X5_brings_110, k_X5_brings_112, k_X5_brings_115, k_X5_brings_116, k_X5_brings_117, k_X5_brings_119, k_X5_brings_120, k_X5_brings_123, k_X5_brings_125, k_X5_brings_128, k_X5_brings_129, k_X5_brings_130, k_X5_brings_133, k_X5_brings_136, k_X5_brings_137, k_X5_brings_140, k_X5_brings_141, k_X5_brings_144, k_X5_brings_145, wp1, wp_s, cutIn, kont, Nat.reduceSub, Nat.reduceAdd, nth, o_const, o_lconst, o_ref, o_iload, o_lload, o_aload, o_istore, o_lstore, o_astore, o_iinc, o_bin, o_div, o_un, o_lbin, o_lsh, o_lcmp, o_i2l, o_l2i, o_if, o_icmp, o_goto, o_dup, o_dup2, o_pop, fav, o_getf, o_putI, o_putZ, o_putL, o_ald, o_ast, o_alen, popn, rst, o_callV, o_callT, o_callS, swx, o_sw, o_ret, o_iret, o_zret, o_cret, o_lret, o_aret, lg, lput, lput2, ls1, isL, entL, wsum, rdI1, rdI2, rdA1, rdA21, rdA22, rdL1, rdL22, rdL21, upN_at, rep, sh_0, F_0_0, F_0_1, F_0_2, F_0_3, F_0_4, F_0_5, F_0_6, F_0_7, F_0_8, sh_1, F_1_0, F_1_1, F_1_2, F_1_3, F_1_4, F_1_5, sh_3, F_3_0, F_3_1, F_3_2, F_3_3, F_3_4, F_3_5, sh_5, F_5_0, F_5_1, F_5_2, F_5_3, F_5_4, F_5_5, F_5_6, F_5_7, F_5_8, sh_12, F_12_0, F_12_1, F_12_2, F_12_3, F_12_4, F_12_5, sh_14, F_14_0, F_14_1, F_14_2, F_14_3, F_14_4, F_14_5, F_14_6, F_14_7, F_14_8, sh_21, F_21_0, F_21_1, F_21_2, F_21_3, F_21_4, F_21_5, F_21_6, F_21_7, F_21_8, sh_28, F_28_0, F_28_1, F_28_2, F_28_3, F_28_4, F_28_5, F_28_6, F_28_7, F_28_8, sh_35, F_35_0, sh_39, F_39_0, F_39_1, F_39_2, F_39_3, F_39_4, F_39_5, F_39_6, F_39_7, F_39_8, F_39_9, F_39_10, F_39_11, F_39_12, F_39_13, A_2, A_4, A_6, A_7, A_8, A_9, A_10, A_11, A_13, A_15, A_16, A_17, A_18, A_19, A_20, A_22, A_23, A_24, A_25, A_26, A_27, A_29, A_30, A_31, A_32, A_33, A_34, A_36, A_37, A_38, A_40, A_41, A_42, A_43, A_44, A_45, A_46, A_47]
      exact cut _ _ ⟨rfl, w1, 0, f, hf, rfl, Or.inl ⟨rfl, by omega, rfl, rfl⟩⟩ (by omega) ⟨rfl, rfl, rfl, rfl, rfl, trivial⟩
    · dsimp only [k_X5_brings_0, k_X5_brings_1, k_X5_brings_2, k_X5_brings_3, k_X5_brings_6, k_X5_brings_9, k_X5_brings_10, k_X5_brings_11, k_X5_brings_12, k_X5_brings_13, k_X5_brings_16, k_X5_brings_19, k_X5_brings_20, k_X5_brings_21, k_X5_brings_22, k_X5_brings_23, k_X5_brings_24, k_X5_brings_26, k_X5_brings_28, k_X5_brings_31, k_X5_brings_34, k_X5_brings_35, k_X5_brings_37, k_X5_brings_38, k_X5_brings_40, k_X5_brings_42, k_X5_brings_43, k_X5_brings_46, k_X5_brings_47, k_X5_brings_48, k_X5_brings_51, k_X5_brings_53, k_X5_brings_54, k_X5_brings_57, k_X5_brings_58, k_X5_brings_61, k_X5_brings_62, k_X5_brings_64, k_X5_brings_65, k_X5_brings_66, k_X5_brings_67, k_X5_brings_70, k_X5_brings_71, k_X5_brings_74, k_X5_brings_75, k_X5_brings_78, k_X5_brings_79, k_X5_brings_81, k_X5_brings_82, k_X5_brings_83, k_X5_brings_85, k_X5_brings_86, k_X5_brings_87, k_X5_brings_90, k_X5_brings_91, k_X5_brings_94, k_X5_brings_95, k_X5_brings_96, k_X5_brings_98, k_X5_brings_101, k_X5_brings_104, k_X5_brings_106, k_X5_brings_107, k_X5_brings_110, k_X5_brings_112, k_X5_brings_115, k_X5_brings_116, k_X5_brings_117, k_X5_brings_119, k_X5_brings_120, k_X5_brings_123, k_X5_brings_125, k_X5_brings_128, k_X5_brings_129, k_X5_brings_130, k_X5_brings_133, k_X5_brings_136, k_X5_brings_137, k_X5_brings_140, k_X5_brings_141, k_X5_brings_144, k_X5_brings_145, wp1, wp_s, cutIn, kont, Nat.reduceSub, Nat.reduceAdd, nth, o_const, o_lconst, o_ref, o_iload, o_lload, o_aload, o_istore, o_lstore, o_astore, o_iinc, o_bin, o_div, o_un, o_lbin, o_lsh, o_lcmp, o_i2l, o_l2i, o_if, o_icmp, o_goto, o_dup, o_dup2, o_pop, fav, o_getf, o_putI, o_putZ, o_putL, o_ald, o_ast, o_alen, popn, rst, o_callV, o_callT, o_callS, swx, o_sw, o_ret, o_iret, o_zret, o_cret, o_lret, o_aret, lg, lput, lput2, ls1, isL, entL, wsum, rdI1, rdI2, rdA1, rdA21, rdA22, rdL1, rdL22, rdL21, upN_at, rep, sh_0, F_0_0, F_0_1, F_0_2, F_0_3, F_0_4, F_0_5, F_0_6, F_0_7, F_0_8, sh_1, F_1_0, F_1_1, F_1_2, F_1_3, F_1_4, F_1_5, sh_3, F_3_0, F_3_1, F_3_2, F_3_3, F_3_4, F_3_5, sh_5, F_5_0, F_5_1, F_5_2, F_5_3, F_5_4, F_5_5, F_5_6, F_5_7, F_5_8, sh_12, F_12_0, F_12_1, F_12_2, F_12_3, F_12_4, F_12_5, sh_14, F_14_0, F_14_1, F_14_2, F_14_3, F_14_4, F_14_5, F_14_6, F_14_7, F_14_8, sh_21, F_21_0, F_21_1, F_21_2, F_21_3, F_21_4, F_21_5, F_21_6, F_21_7, F_21_8, sh_28, F_28_0, F_28_1, F_28_2, F_28_3, F_28_4, F_28_5, F_28_6, F_28_7, F_28_8, sh_35, F_35_0, sh_39, F_39_0, F_39_1, F_39_2, F_39_3, F_39_4, F_39_5, F_39_6, F_39_7, F_39_8, F_39_9, F_39_10, F_39_11, F_39_12, F_39_13, A_2, A_4, A_6, A_7, A_8, A_9, A_10, A_11, A_13, A_15, A_16, A_17, A_18, A_19, A_20, A_22, A_23, A_24, A_25, A_26, A_27, A_29, A_30, A_31, A_32, A_33, A_34, A_36, A_37, A_38, A_40, A_41, A_42, A_43, A_44, A_45, A_46, A_47]
      simp (config := { decide := true }) only [true_implies, false_implies, and_true, true_and, not_true_eq_false, not_false_eq_true, forall_const]
      exact h1 w1
set_option maxRecDepth 100000 in
theorem v_X5_slips : ∀ as M post, S_X5_slips as M post → wsum as ≤ 10 ∧ RUN (T_X5_slips post) 0 (entL 10 as) [] M := by
  rintro as M post ⟨x, y, z, n, c, p, r, h0, lk, rfl, hX, h1, h2⟩
  have hX0 := hX
  obtain ⟨hn, hn8, hc, hc6, hp, hp4, hr, hhk, hl⟩ := hX
  have hul := us_lt h0 hn8
  have hrl : ∀ k, k < n → r k < 512 := fun k hk => (hr k hk).2
  refine ⟨by show 4 ≤ 10; omega, run_of [33] (fun μ pc lv st M' => st = [] ∧ pc = 33 ∧ M' = M ∧ ∃ T l i v, x = nI T ∧ T &&& us h0 n = T ∧ y = nI l ∧ l < c ∧ -1 ≤ z ∧ i ≤ 80 ∧ ((∃ j w, z = nI j ∧ (flt (slQ T (xrN r T n ^^^ lk l)) i)[j]? = some w ∧ v = nI w) ∨ ((∀ j, z = nI j → j < 2 ^ 31 → (flt (slQ T (xrN r T n ^^^ lk l)) i).length ≤ j) ∧ v = -5)) ∧ 1000 - i = μ ∧ lv = [some (VR 39), some (VI x), some (VI y), some (VI z), some (VI (nI (flt (slQ T (xrN r T n ^^^ lk l)) i).length)), some (VI v), some (VI (nI i)), none, none, none]) 80 2000 ?_ ?_⟩
  · rintro μ pc lv st M' ⟨rfl, rfl, rfl, T, l, i, v, rfl, hT, rfl, hlc, hz, hi, hv, rfl, rfl⟩
    have hfl := flt_le (slQ T (xrN r T n ^^^ lk l)) i
    have h10 : nI i / 10 = nI (i / 10) := pk_div (d := 10) (by omega) (by omega) (by omega)
    have hm10 : nI i - nI i / 10 * 10 = nI (i % 10) := pk_rem (d := 10) (by omega) (by omega) (by omega)
    dsimp only [k_X5_slips_0, k_X5_slips_1, k_X5_slips_2, k_X5_slips_5, k_X5_slips_8, k_X5_slips_9, k_X5_slips_10, k_X5_slips_13, k_X5_slips_16, k_X5_slips_17, k_X5_slips_18, k_X5_slips_21, k_X5_slips_22, k_X5_slips_23, k_X5_slips_24, k_X5_slips_26, k_X5_slips_28, k_X5_slips_30, k_X5_slips_31, k_X5_slips_33, k_X5_slips_35, k_X5_slips_37, k_X5_slips_40, k_X5_slips_42, k_X5_slips_44, k_X5_slips_45, k_X5_slips_47, k_X5_slips_49, k_X5_slips_51, k_X5_slips_52, k_X5_slips_54, k_X5_slips_56, k_X5_slips_58, k_X5_slips_61, k_X5_slips_62, k_X5_slips_64, k_X5_slips_65, k_X5_slips_66, k_X5_slips_67, k_X5_slips_68, k_X5_slips_71, k_X5_slips_72, k_X5_slips_73, k_X5_slips_76, k_X5_slips_77, k_X5_slips_79, k_X5_slips_80, k_X5_slips_81, k_X5_slips_82, k_X5_slips_85, k_X5_slips_86, k_X5_slips_87, k_X5_slips_88, k_X5_slips_89, k_X5_slips_92, k_X5_slips_93, k_X5_slips_96, k_X5_slips_97, k_X5_slips_99, k_X5_slips_101, k_X5_slips_104, k_X5_slips_106, k_X5_slips_107, k_X5_slips_110, k_X5_slips_112, k_X5_slips_115, k_X5_slips_117, k_X5_slips_119, k_X5_slips_121, k_X5_slips_123, k_X5_slips_126, k_X5_slips_127, k_X5_slips_130, k_X5_slips_131, k_X5_slips_132, k_X5_slips_134, k_X5_slips_137, k_X5_slips_140, k_X5_slips_141, k_X5_slips_142, k_X5_slips_145, k_X5_slips_147, k_X5_slips_150, k_X5_slips_152, wp1, wp_s, cutIn, kont, Nat.reduceSub, Nat.reduceAdd, nth, o_const, o_lconst, o_ref, o_iload, o_lload, o_aload, o_istore, o_lstore, o_astore, o_iinc, o_bin, o_div, o_un, o_lbin, o_lsh, o_lcmp, o_i2l, o_l2i, o_if, o_icmp, o_goto, o_dup, o_dup2, o_pop, fav, o_getf, o_putI, o_putZ, o_putL, o_ald, o_ast, o_alen, popn, rst, o_callV, o_callT, o_callS, swx, o_sw, o_ret, o_iret, o_zret, o_cret, o_lret, o_aret, lg, lput, lput2, ls1, isL, entL, wsum, rdI1, rdI2, rdA1, rdA21, rdA22, rdL1, rdL22, rdL21, upN_at, rep, sh_0, F_0_0, F_0_1, F_0_2, F_0_3, F_0_4, F_0_5, F_0_6, F_0_7, F_0_8, sh_1, F_1_0, F_1_1, F_1_2, F_1_3, F_1_4, F_1_5, sh_3, F_3_0, F_3_1, F_3_2, F_3_3, F_3_4, F_3_5, sh_5, F_5_0, F_5_1, F_5_2, F_5_3, F_5_4, F_5_5, F_5_6, F_5_7, F_5_8, sh_12, F_12_0, F_12_1, F_12_2, F_12_3, F_12_4, F_12_5, sh_14, F_14_0, F_14_1, F_14_2, F_14_3, F_14_4, F_14_5, F_14_6, F_14_7, F_14_8, sh_21, F_21_0, F_21_1, F_21_2, F_21_3, F_21_4, F_21_5, F_21_6, F_21_7, F_21_8, sh_28, F_28_0, F_28_1, F_28_2, F_28_3, F_28_4, F_28_5, F_28_6, F_28_7, F_28_8, sh_35, F_35_0, sh_39, F_39_0, F_39_1, F_39_2, F_39_3, F_39_4, F_39_5, F_39_6, F_39_7, F_39_8, F_39_9, F_39_10, F_39_11, F_39_12, F_39_13, A_2, A_4, A_6, A_7, A_8, A_9, A_10, A_11, A_13, A_15, A_16, A_17, A_18, A_19, A_20, A_22, A_23, A_24, A_25, A_26, A_27, A_29, A_30, A_31, A_32, A_33, A_34, A_36, A_37, A_38, A_40, A_41, A_42, A_43, A_44, A_45, A_46, A_47]
    rw [show (80 : Int32) = nI 80 from rfl, hm10, h10, show (9 : Int32) = nI 9 from rfl]
    have hm := Nat.mod_lt i (show 0 < 10 by omega)
    have hd8 : i / 10 ≤ 8 := by omega
    have a0 : ∀ q : Nat, nI q + 0 = nI q := fun q => by rw [show (0 : Int32) = nI 0 from rfl, nI_add, Nat.add_zero]
    simp (disch := omega) only [nI_leI, nI_ltI, nI_eq, nI_1, nI_add, one_shl, nI_or, nI_xor, nI_and, bit_0, bit_1, true_or, or_true, true_and, and_true, eq_self, not_true_eq_false, not_false_eq_true, forall_const]
    simp (config := { decide := true }) only [true_implies, false_implies, and_true, true_and, not_true_eq_false, not_false_eq_true, forall_const, a0]
    obtain ⟨h3, h4, h5⟩ := h2 T l rfl hT rfl hlc _ rfl
    have hTl : T < 256 := sub_lt hT hul
    have hxl := xr_lt (f := r) (T := T) n hrl
    have kp : slQ T (xrN r T n ^^^ lk l) i = false → flt (slQ T (xrN r T n ^^^ lk l)) (i + 1) = flt (slQ T (xrN r T n ^^^ lk l)) i := fun w => by rw [flt_s, if_neg (by rw [w]; decide)]
    refine ⟨fun w1 => ⟨fun w2 => ?_, fun w2 => ?_⟩, fun w1 => ⟨fun w2 => ?_, fun w2 => ⟨fun w3 => ?_, fun w3 => ?_⟩⟩⟩
    · have e : i = 80 := by omega
      subst e
      exact h3 w2
    · have e : i = 80 := by omega
      subst e
      rcases hv with ⟨j, w, e1, e2, rfl⟩ | ⟨e1, rfl⟩
      · exact h4 j w e1 e2
      · obtain ⟨j, e2, e3⟩ := ge_m1 hz w2
        exact h5 j e2 e3 (e1 j e2 e3)
    · have hk := kp (by unfold slQ; rw [decide_eq_false (by omega)]; rfl)
      exact cut _ _ ⟨rfl, rfl, rfl, T, l, i + 1, v, rfl, hT, rfl, hlc, hz, by omega, by rw [hk]; exact hv, rfl, rfl⟩ (by omega) ⟨rfl, rfl, rfl, rfl, vi_eq (by rw [hk]), rfl, by first | rfl | exact vi_eq (nI_1 _), trivial⟩
    · rw [bit_1 (by omega) (by omega)] at w3
      have h2p : 2 ^ (i % 10) < 512 := Nat.pow_lt_pow_right (a := 2) (m := i % 10) (n := 9) (by omega) (by omega)
      refine ⟨T, n, c, p, r, h0, lk, rfl, sub_lt hT (us_lt2 h0 n), hX0, ?_⟩
      dsimp only [k_X5_slips_0, k_X5_slips_1, k_X5_slips_2, k_X5_slips_5, k_X5_slips_8, k_X5_slips_9, k_X5_slips_10, k_X5_slips_13, k_X5_slips_16, k_X5_slips_17, k_X5_slips_18, k_X5_slips_21, k_X5_slips_22, k_X5_slips_23, k_X5_slips_24, k_X5_slips_26, k_X5_slips_28, k_X5_slips_30, k_X5_slips_31, k_X5_slips_33, k_X5_slips_35, k_X5_slips_37, k_X5_slips_40, k_X5_slips_42, k_X5_slips_44, k_X5_slips_45, k_X5_slips_47, k_X5_slips_49, k_X5_slips_51, k_X5_slips_52, k_X5_slips_54, k_X5_slips_56, k_X5_slips_58, k_X5_slips_61, k_X5_slips_62, k_X5_slips_64, k_X5_slips_65, k_X5_slips_66, k_X5_slips_67, k_X5_slips_68, k_X5_slips_71, k_X5_slips_72, k_X5_slips_73, k_X5_slips_76, k_X5_slips_77, k_X5_slips_79, k_X5_slips_80, k_X5_slips_81, k_X5_slips_82, k_X5_slips_85, k_X5_slips_86, k_X5_slips_87, k_X5_slips_88, k_X5_slips_89, k_X5_slips_92, k_X5_slips_93, k_X5_slips_96, k_X5_slips_97, k_X5_slips_99, k_X5_slips_101, k_X5_slips_104, k_X5_slips_106, k_X5_slips_107, k_X5_slips_110, k_X5_slips_112, k_X5_slips_115, k_X5_slips_117, k_X5_slips_119, k_X5_slips_121, k_X5_slips_123, k_X5_slips_126, k_X5_slips_127, k_X5_slips_130, k_X5_slips_131, k_X5_slips_132, k_X5_slips_134, k_X5_slips_137, k_X5_slips_140, k_X5_slips_141, k_X5_slips_142, k_X5_slips_145, k_X5_slips_147, k_X5_slips_150, k_X5_slips_152, wp1, wp_s, cutIn, kont, Nat.reduceSub, Nat.reduceAdd, nth, o_const, o_lconst, o_ref, o_iload, o_lload, o_aload, o_istore, o_lstore, o_astore, o_iinc, o_bin, o_div, o_un, o_lbin, o_lsh, o_lcmp, o_i2l, o_l2i, o_if, o_icmp, o_goto, o_dup, o_dup2, o_pop, fav, o_getf, o_putI, o_putZ, o_putL, o_ald, o_ast, o_alen, popn, rst, o_callV, o_callT, o_callS, swx, o_sw, o_ret, o_iret, o_zret, o_cret, o_lret, o_aret, lg, lput, lput2, ls1, isL, entL, wsum, rdI1, rdI2, rdA1, rdA21, rdA22, rdL1, rdL22, rdL21, upN_at, rep, sh_0, F_0_0, F_0_1, F_0_2, F_0_3, F_0_4, F_0_5, F_0_6, F_0_7, F_0_8, sh_1, F_1_0, F_1_1, F_1_2, F_1_3, F_1_4, F_1_5, sh_3, F_3_0, F_3_1, F_3_2, F_3_3, F_3_4, F_3_5, sh_5, F_5_0, F_5_1, F_5_2, F_5_3, F_5_4, F_5_5, F_5_6, F_5_7, F_5_8, sh_12, F_12_0, F_12_1, F_12_2, F_12_3, F_12_4, F_12_5, sh_14, F_14_0, F_14_1, F_14_2, F_14_3, F_14_4, F_14_5, F_14_6, F_14_7, F_14_8, sh_21, F_21_0, F_21_1, F_21_2, F_21_3, F_21_4, F_21_5, F_21_6, F_21_7, F_21_8, sh_28, F_28_0, F_28_1, F_28_2, F_28_3, F_28_4, F_28_5, F_28_6, F_28_7, F_28_8, sh_35, F_35_0, sh_39, F_39_0, F_39_1, F_39_2, F_39_3, F_39_4, F_39_5, F_39_6, F_39_7, F_39_8, F_39_9, F_39_10, F_39_11, F_39_12, F_39_13, A_2, A_4, A_6, A_7, A_8, A_9, A_10, A_11, A_13, A_15, A_16, A_17, A_18, A_19, A_20, A_22, A_23, A_24, A_25, A_26, A_27, A_29, A_30, A_31, A_32, A_33, A_34, A_36, A_37, A_38, A_40, A_41, A_42, A_43, A_44, A_45, A_46, A_47]
      refine ⟨4 + l, by omega, nI_add 4 l, ?_⟩
      have hxx : xrN r T n ^^^ 2 ^ (i % 10) < 512 := Nat.xor_lt_two_pow (n := 9) hxl h2p
      have hlk := (hl l hlc).2
      rw [(hl l hlc).1, one_shl (by omega), nI_xor, nI_eq (by omega) (by omega)]
      have hxe : xrN r T n ^^^ 2 ^ (i % 10) = lk l ↔ xrN r T n ^^^ lk l = 2 ^ (i % 10) := by
        constructor
        · intro e; rw [← e, ← Nat.xor_assoc, Nat.xor_self, Nat.zero_xor]
        · intro e; rw [← e, ← Nat.xor_assoc, Nat.xor_self, Nat.zero_xor]
      rw [hxe]
      simp (config := { decide := true }) only [true_implies, false_implies, and_true, true_and, not_true_eq_false, not_false_eq_true, forall_const]
      refine ⟨fun w4 => ⟨fun w5 => ?_, fun w5 => ?_⟩, fun w4 => ?_⟩
      · have hP : slQ T (xrN r T n ^^^ lk l) i = true := by unfold slQ; rw [decide_eq_true (by omega), w3, decide_eq_true w4]; rfl
        have hk : flt (slQ T (xrN r T n ^^^ lk l)) (i + 1) = flt (slQ T (xrN r T n ^^^ lk l)) i ++ [i] := by rw [flt_s, if_pos hP]
        refine cut _ _ ⟨rfl, rfl, rfl, T, l, i + 1, nI i, rfl, hT, rfl, hlc, hz, by omega, Or.inl ⟨(flt (slQ T (xrN r T n ^^^ lk l)) i).length, i, w5.symm, ?_, rfl⟩, rfl, rfl⟩ (by omega) ⟨rfl, rfl, rfl, rfl, vi_eq (by rw [hk, List.length_append]; first | rfl | exact nI_1 _), rfl, by first | rfl | exact vi_eq (nI_1 _), trivial⟩
        rw [hk, List.getElem?_append_right (Nat.le_refl _)]; simp
      · have hP : slQ T (xrN r T n ^^^ lk l) i = true := by unfold slQ; rw [decide_eq_true (by omega), w3, decide_eq_true w4]; rfl
        have hk : flt (slQ T (xrN r T n ^^^ lk l)) (i + 1) = flt (slQ T (xrN r T n ^^^ lk l)) i ++ [i] := by rw [flt_s, if_pos hP]
        refine cut _ _ ⟨rfl, rfl, rfl, T, l, i + 1, v, rfl, hT, rfl, hlc, hz, by omega, ?_, rfl, rfl⟩ (by omega) ⟨rfl, rfl, rfl, rfl, vi_eq (by rw [hk, List.length_append]; first | rfl | exact nI_1 _), rfl, by first | rfl | exact vi_eq (nI_1 _), trivial⟩
        rcases hv with ⟨j, w, e1, e2, e3⟩ | ⟨e1, e2⟩
        · exact Or.inl ⟨j, w, e1, flt_pre _ i (i + 1) j w (by omega) e2, e3⟩
        · refine Or.inr ⟨fun j e3 e4 => ?_, e2⟩
          have e5 := e1 j e3 e4
          rw [hk, List.length_append]
          show (flt (slQ T (xrN r T n ^^^ lk l)) i).length + 1 ≤ j
          rcases Nat.lt_or_ge (flt (slQ T (xrN r T n ^^^ lk l)) i).length j with g | g
          · exact g
          · exact absurd (by rw [e3, show (flt (slQ T (xrN r T n ^^^ lk l)) i).length = j by omega]) w5
      · have hk := kp (by unfold slQ; rw [decide_eq_false (p := xrN r T n ^^^ lk l = 2 ^ (i % 10)) w4]; simp)
        exact cut _ _ ⟨rfl, rfl, rfl, T, l, i + 1, v, rfl, hT, rfl, hlc, hz, by omega, by rw [hk]; exact hv, rfl, rfl⟩ (by omega) ⟨rfl, rfl, rfl, rfl, vi_eq (by rw [hk]; first | rfl | exact a0 _), rfl, by first | rfl | exact vi_eq (nI_1 _), trivial⟩
    · rw [bit_1 (by omega) (by omega)] at w3
      have hk := kp (by unfold slQ; rw [show T.testBit (i / 10) = false by simpa using w3]; simp)
      exact cut _ _ ⟨rfl, rfl, rfl, T, l, i + 1, v, rfl, hT, rfl, hlc, hz, by omega, by rw [hk]; exact hv, rfl, rfl⟩ (by omega) ⟨rfl, rfl, rfl, rfl, vi_eq (by rw [hk]), rfl, by first | rfl | exact vi_eq (nI_1 _), trivial⟩
  · dsimp only [k_X5_slips_0, k_X5_slips_1, k_X5_slips_2, k_X5_slips_5, k_X5_slips_8, k_X5_slips_9, k_X5_slips_10, k_X5_slips_13, k_X5_slips_16, k_X5_slips_17, k_X5_slips_18, k_X5_slips_21, k_X5_slips_22, k_X5_slips_23, k_X5_slips_24, k_X5_slips_26, k_X5_slips_28, k_X5_slips_30, k_X5_slips_31, k_X5_slips_33, k_X5_slips_35, k_X5_slips_37, k_X5_slips_40, k_X5_slips_42, k_X5_slips_44, k_X5_slips_45, k_X5_slips_47, k_X5_slips_49, k_X5_slips_51, k_X5_slips_52, k_X5_slips_54, k_X5_slips_56, k_X5_slips_58, k_X5_slips_61, k_X5_slips_62, k_X5_slips_64, k_X5_slips_65, k_X5_slips_66, k_X5_slips_67, k_X5_slips_68, k_X5_slips_71, k_X5_slips_72, k_X5_slips_73, k_X5_slips_76, k_X5_slips_77, k_X5_slips_79, k_X5_slips_80, k_X5_slips_81, k_X5_slips_82, k_X5_slips_85, k_X5_slips_86, k_X5_slips_87, k_X5_slips_88, k_X5_slips_89, k_X5_slips_92, k_X5_slips_93, k_X5_slips_96, k_X5_slips_97, k_X5_slips_99, k_X5_slips_101, k_X5_slips_104, k_X5_slips_106, k_X5_slips_107, k_X5_slips_110, k_X5_slips_112, k_X5_slips_115, k_X5_slips_117, k_X5_slips_119, k_X5_slips_121, k_X5_slips_123, k_X5_slips_126, k_X5_slips_127, k_X5_slips_130, k_X5_slips_131, k_X5_slips_132, k_X5_slips_134, k_X5_slips_137, k_X5_slips_140, k_X5_slips_141, k_X5_slips_142, k_X5_slips_145, k_X5_slips_147, k_X5_slips_150, k_X5_slips_152, wp1, wp_s, cutIn, kont, Nat.reduceSub, Nat.reduceAdd, nth, o_const, o_lconst, o_ref, o_iload, o_lload, o_aload, o_istore, o_lstore, o_astore, o_iinc, o_bin, o_div, o_un, o_lbin, o_lsh, o_lcmp, o_i2l, o_l2i, o_if, o_icmp, o_goto, o_dup, o_dup2, o_pop, fav, o_getf, o_putI, o_putZ, o_putL, o_ald, o_ast, o_alen, popn, rst, o_callV, o_callT, o_callS, swx, o_sw, o_ret, o_iret, o_zret, o_cret, o_lret, o_aret, lg, lput, lput2, ls1, isL, entL, wsum, rdI1, rdI2, rdA1, rdA21, rdA22, rdL1, rdL22, rdL21, upN_at, rep, sh_0, F_0_0, F_0_1, F_0_2, F_0_3, F_0_4, F_0_5, F_0_6, F_0_7, F_0_8, sh_1, F_1_0, F_1_1, F_1_2, F_1_3, F_1_4, F_1_5, sh_3, F_3_0, F_3_1, F_3_2, F_3_3, F_3_4, F_3_5, sh_5, F_5_0, F_5_1, F_5_2, F_5_3, F_5_4, F_5_5, F_5_6, F_5_7, F_5_8, sh_12, F_12_0, F_12_1, F_12_2, F_12_3, F_12_4, F_12_5, sh_14, F_14_0, F_14_1, F_14_2, F_14_3, F_14_4, F_14_5, F_14_6, F_14_7, F_14_8, sh_21, F_21_0, F_21_1, F_21_2, F_21_3, F_21_4, F_21_5, F_21_6, F_21_7, F_21_8, sh_28, F_28_0, F_28_1, F_28_2, F_28_3, F_28_4, F_28_5, F_28_6, F_28_7, F_28_8, sh_35, F_35_0, sh_39, F_39_0, F_39_1, F_39_2, F_39_3, F_39_4, F_39_5, F_39_6, F_39_7, F_39_8, F_39_9, F_39_10, F_39_11, F_39_12, F_39_13, A_2, A_4, A_6, A_7, A_8, A_9, A_10, A_11, A_13, A_15, A_16, A_17, A_18, A_19, A_20, A_22, A_23, A_24, A_25, A_26, A_27, A_29, A_30, A_31, A_32, A_33, A_34, A_36, A_37, A_38, A_40, A_41, A_42, A_43, A_44, A_45, A_46, A_47]
    refine ⟨x, n, c, p, r, h0, lk, rfl, hX0, fun w1 => ?_, fun w1 => ?_⟩
    · obtain ⟨T, rfl, hT, hTl⟩ := In_at (by omega) w1
      dsimp only [k_X5_slips_0, k_X5_slips_1, k_X5_slips_2, k_X5_slips_5, k_X5_slips_8, k_X5_slips_9, k_X5_slips_10, k_X5_slips_13, k_X5_slips_16, k_X5_slips_17, k_X5_slips_18, k_X5_slips_21, k_X5_slips_22, k_X5_slips_23, k_X5_slips_24, k_X5_slips_26, k_X5_slips_28, k_X5_slips_30, k_X5_slips_31, k_X5_slips_33, k_X5_slips_35, k_X5_slips_37, k_X5_slips_40, k_X5_slips_42, k_X5_slips_44, k_X5_slips_45, k_X5_slips_47, k_X5_slips_49, k_X5_slips_51, k_X5_slips_52, k_X5_slips_54, k_X5_slips_56, k_X5_slips_58, k_X5_slips_61, k_X5_slips_62, k_X5_slips_64, k_X5_slips_65, k_X5_slips_66, k_X5_slips_67, k_X5_slips_68, k_X5_slips_71, k_X5_slips_72, k_X5_slips_73, k_X5_slips_76, k_X5_slips_77, k_X5_slips_79, k_X5_slips_80, k_X5_slips_81, k_X5_slips_82, k_X5_slips_85, k_X5_slips_86, k_X5_slips_87, k_X5_slips_88, k_X5_slips_89, k_X5_slips_92, k_X5_slips_93, k_X5_slips_96, k_X5_slips_97, k_X5_slips_99, k_X5_slips_101, k_X5_slips_104, k_X5_slips_106, k_X5_slips_107, k_X5_slips_110, k_X5_slips_112, k_X5_slips_115, k_X5_slips_117, k_X5_slips_119, k_X5_slips_121, k_X5_slips_123, k_X5_slips_126, k_X5_slips_127, k_X5_slips_130, k_X5_slips_131, k_X5_slips_132, k_X5_slips_134, k_X5_slips_137, k_X5_slips_140, k_X5_slips_141, k_X5_slips_142, k_X5_slips_145, k_X5_slips_147, k_X5_slips_150, k_X5_slips_152, wp1, wp_s, cutIn, kont, Nat.reduceSub, Nat.reduceAdd, nth, o_const, o_lconst, o_ref, o_iload, o_lload, o_aload, o_istore, o_lstore, o_astore, o_iinc, o_bin, o_div, o_un, o_lbin, o_lsh, o_lcmp, o_i2l, o_l2i, o_if, o_icmp, o_goto, o_dup, o_dup2, o_pop, fav, o_getf, o_putI, o_putZ, o_putL, o_ald, o_ast, o_alen, popn, rst, o_callV, o_callT, o_callS, swx, o_sw, o_ret, o_iret, o_zret, o_cret, o_lret, o_aret, lg, lput, lput2, ls1, isL, entL, wsum, rdI1, rdI2, rdA1, rdA21, rdA22, rdL1, rdL22, rdL21, upN_at, rep, sh_0, F_0_0, F_0_1, F_0_2, F_0_3, F_0_4, F_0_5, F_0_6, F_0_7, F_0_8, sh_1, F_1_0, F_1_1, F_1_2, F_1_3, F_1_4, F_1_5, sh_3, F_3_0, F_3_1, F_3_2, F_3_3, F_3_4, F_3_5, sh_5, F_5_0, F_5_1, F_5_2, F_5_3, F_5_4, F_5_5, F_5_6, F_5_7, F_5_8, sh_12, F_12_0, F_12_1, F_12_2, F_12_3, F_12_4, F_12_5, sh_14, F_14_0, F_14_1, F_14_2, F_14_3, F_14_4, F_14_5, F_14_6, F_14_7, F_14_8, sh_21, F_21_0, F_21_1, F_21_2, F_21_3, F_21_4, F_21_5, F_21_6, F_21_7, F_21_8, sh_28, F_28_0, F_28_1, F_28_2, F_28_3, F_28_4, F_28_5, F_28_6, F_28_7, F_28_8, sh_35, F_35_0, sh_39, F_39_0, F_39_1, F_39_2, F_39_3, F_39_4, F_39_5, F_39_6, F_39_7, F_39_8, F_39_9, F_39_10, F_39_11, F_39_12, F_39_13, A_2, A_4, A_6, A_7, A_8, A_9, A_10, A_11, A_13, A_15, A_16, A_17, A_18, A_19, A_20, A_22, A_23, A_24, A_25, A_26, A_27, A_29, A_30, A_31, A_32, A_33, A_34, A_36, A_37, A_38, A_40, A_41, A_42, A_43, A_44, A_45, A_46, A_47]
      simp (config := { decide := true }) only [true_implies, false_implies, and_true, true_and, not_true_eq_false, not_false_eq_true, forall_const]
      refine ⟨y, n, c, p, r, h0, lk, rfl, hX0, fun w2 => ?_, fun w2 => ?_⟩
      · obtain ⟨l, rfl, hlc⟩ := rg (by omega) w2
        dsimp only [k_X5_slips_0, k_X5_slips_1, k_X5_slips_2, k_X5_slips_5, k_X5_slips_8, k_X5_slips_9, k_X5_slips_10, k_X5_slips_13, k_X5_slips_16, k_X5_slips_17, k_X5_slips_18, k_X5_slips_21, k_X5_slips_22, k_X5_slips_23, k_X5_slips_24, k_X5_slips_26, k_X5_slips_28, k_X5_slips_30, k_X5_slips_31, k_X5_slips_33, k_X5_slips_35, k_X5_slips_37, k_X5_slips_40, k_X5_slips_42, k_X5_slips_44, k_X5_slips_45, k_X5_slips_47, k_X5_slips_49, k_X5_slips_51, k_X5_slips_52, k_X5_slips_54, k_X5_slips_56, k_X5_slips_58, k_X5_slips_61, k_X5_slips_62, k_X5_slips_64, k_X5_slips_65, k_X5_slips_66, k_X5_slips_67, k_X5_slips_68, k_X5_slips_71, k_X5_slips_72, k_X5_slips_73, k_X5_slips_76, k_X5_slips_77, k_X5_slips_79, k_X5_slips_80, k_X5_slips_81, k_X5_slips_82, k_X5_slips_85, k_X5_slips_86, k_X5_slips_87, k_X5_slips_88, k_X5_slips_89, k_X5_slips_92, k_X5_slips_93, k_X5_slips_96, k_X5_slips_97, k_X5_slips_99, k_X5_slips_101, k_X5_slips_104, k_X5_slips_106, k_X5_slips_107, k_X5_slips_110, k_X5_slips_112, k_X5_slips_115, k_X5_slips_117, k_X5_slips_119, k_X5_slips_121, k_X5_slips_123, k_X5_slips_126, k_X5_slips_127, k_X5_slips_130, k_X5_slips_131, k_X5_slips_132, k_X5_slips_134, k_X5_slips_137, k_X5_slips_140, k_X5_slips_141, k_X5_slips_142, k_X5_slips_145, k_X5_slips_147, k_X5_slips_150, k_X5_slips_152, wp1, wp_s, cutIn, kont, Nat.reduceSub, Nat.reduceAdd, nth, o_const, o_lconst, o_ref, o_iload, o_lload, o_aload, o_istore, o_lstore, o_astore, o_iinc, o_bin, o_div, o_un, o_lbin, o_lsh, o_lcmp, o_i2l, o_l2i, o_if, o_icmp, o_goto, o_dup, o_dup2, o_pop, fav, o_getf, o_putI, o_putZ, o_putL, o_ald, o_ast, o_alen, popn, rst, o_callV, o_callT, o_callS, swx, o_sw, o_ret, o_iret, o_zret, o_cret, o_lret, o_aret, lg, lput, lput2, ls1, isL, entL, wsum, rdI1, rdI2, rdA1, rdA21, rdA22, rdL1, rdL22, rdL21, upN_at, rep, sh_0, F_0_0, F_0_1, F_0_2, F_0_3, F_0_4, F_0_5, F_0_6, F_0_7, F_0_8, sh_1, F_1_0, F_1_1, F_1_2, F_1_3, F_1_4, F_1_5, sh_3, F_3_0, F_3_1, F_3_2, F_3_3, F_3_4, F_3_5, sh_5, F_5_0, F_5_1, F_5_2, F_5_3, F_5_4, F_5_5, F_5_6, F_5_7, F_5_8, sh_12, F_12_0, F_12_1, F_12_2, F_12_3, F_12_4, F_12_5, sh_14, F_14_0, F_14_1, F_14_2, F_14_3, F_14_4, F_14_5, F_14_6, F_14_7, F_14_8, sh_21, F_21_0, F_21_1, F_21_2, F_21_3, F_21_4, F_21_5, F_21_6, F_21_7, F_21_8, sh_28, F_28_0, F_28_1, F_28_2, F_28_3, F_28_4, F_28_5, F_28_6, F_28_7, F_28_8, sh_35, F_35_0, sh_39, F_39_0, F_39_1, F_39_2, F_39_3, F_39_4, F_39_5, F_39_6, F_39_7, F_39_8, F_39_9, F_39_10, F_39_11, F_39_12, F_39_13, A_2, A_4, A_6, A_7, A_8, A_9, A_10, A_11, A_13, A_15, A_16, A_17, A_18, A_19, A_20, A_22, A_23, A_24, A_25, A_26, A_27, A_29, A_30, A_31, A_32, A_33, A_34, A_36, A_37, A_38, A_40, A_41, A_42, A_43, A_44, A_45, A_46, A_47]
        simp (config := { decide := true }) only [true_implies, false_implies, and_true, true_and, not_true_eq_false, not_false_eq_true, forall_const]
        refine ⟨fun w3 => cut _ _ ⟨rfl, rfl, rfl, T, l, 0, -5, rfl, hT, rfl, hlc, w3, by omega, Or.inr ⟨fun j _ _ => Nat.zero_le j, rfl⟩, rfl, rfl⟩ (by omega) ⟨rfl, rfl, rfl, rfl, rfl, rfl, rfl, trivial⟩, fun w3 => h1 fun w => w3 w.2.2⟩
      · dsimp only [k_X5_slips_0, k_X5_slips_1, k_X5_slips_2, k_X5_slips_5, k_X5_slips_8, k_X5_slips_9, k_X5_slips_10, k_X5_slips_13, k_X5_slips_16, k_X5_slips_17, k_X5_slips_18, k_X5_slips_21, k_X5_slips_22, k_X5_slips_23, k_X5_slips_24, k_X5_slips_26, k_X5_slips_28, k_X5_slips_30, k_X5_slips_31, k_X5_slips_33, k_X5_slips_35, k_X5_slips_37, k_X5_slips_40, k_X5_slips_42, k_X5_slips_44, k_X5_slips_45, k_X5_slips_47, k_X5_slips_49, k_X5_slips_51, k_X5_slips_52, k_X5_slips_54, k_X5_slips_56, k_X5_slips_58, k_X5_slips_61, k_X5_slips_62, k_X5_slips_64, k_X5_slips_65, k_X5_slips_66, k_X5_slips_67, k_X5_slips_68, k_X5_slips_71, k_X5_slips_72, k_X5_slips_73, k_X5_slips_76, k_X5_slips_77, k_X5_slips_79, k_X5_slips_80, k_X5_slips_81, k_X5_slips_82, k_X5_slips_85, k_X5_slips_86, k_X5_slips_87, k_X5_slips_88, k_X5_slips_89, k_X5_slips_92, k_X5_slips_93, k_X5_slips_96, k_X5_slips_97, k_X5_slips_99, k_X5_slips_101, k_X5_slips_104, k_X5_slips_106, k_X5_slips_107, k_X5_slips_110, k_X5_slips_112, k_X5_slips_115, k_X5_slips_117, k_X5_slips_119, k_X5_slips_121, k_X5_slips_123, k_X5_slips_126, k_X5_slips_127, k_X5_slips_130, k_X5_slips_131, k_X5_slips_132, k_X5_slips_134, k_X5_slips_137, k_X5_slips_140, k_X5_slips_141, k_X5_slips_142, k_X5_slips_145, k_X5_slips_147, k_X5_slips_150, k_X5_slips_152, wp1, wp_s, cutIn, kont, Nat.reduceSub, Nat.reduceAdd, nth, o_const, o_lconst, o_ref, o_iload, o_lload, o_aload, o_istore, o_lstore, o_astore, o_iinc, o_bin, o_div, o_un, o_lbin, o_lsh, o_lcmp, o_i2l, o_l2i, o_if, o_icmp, o_goto, o_dup, o_dup2, o_pop, fav, o_getf, o_putI, o_putZ, o_putL, o_ald, o_ast, o_alen, popn, rst, o_callV, o_callT, o_callS, swx, o_sw, o_ret, o_iret, o_zret, o_cret, o_lret, o_aret, lg, lput, lput2, ls1, isL, entL, wsum, rdI1, rdI2, rdA1, rdA21, rdA22, rdL1, rdL22, rdL21, upN_at, rep, sh_0, F_0_0, F_0_1, F_0_2, F_0_3, F_0_4, F_0_5, F_0_6, F_0_7, F_0_8, sh_1, F_1_0, F_1_1, F_1_2, F_1_3, F_1_4, F_1_5, sh_3, F_3_0, F_3_1, F_3_2, F_3_3, F_3_4, F_3_5, sh_5, F_5_0, F_5_1, F_5_2, F_5_3, F_5_4, F_5_5, F_5_6, F_5_7, F_5_8, sh_12, F_12_0, F_12_1, F_12_2, F_12_3, F_12_4, F_12_5, sh_14, F_14_0, F_14_1, F_14_2, F_14_3, F_14_4, F_14_5, F_14_6, F_14_7, F_14_8, sh_21, F_21_0, F_21_1, F_21_2, F_21_3, F_21_4, F_21_5, F_21_6, F_21_7, F_21_8, sh_28, F_28_0, F_28_1, F_28_2, F_28_3, F_28_4, F_28_5, F_28_6, F_28_7, F_28_8, sh_35, F_35_0, sh_39, F_39_0, F_39_1, F_39_2, F_39_3, F_39_4, F_39_5, F_39_6, F_39_7, F_39_8, F_39_9, F_39_10, F_39_11, F_39_12, F_39_13, A_2, A_4, A_6, A_7, A_8, A_9, A_10, A_11, A_13, A_15, A_16, A_17, A_18, A_19, A_20, A_22, A_23, A_24, A_25, A_26, A_27, A_29, A_30, A_31, A_32, A_33, A_34, A_36, A_37, A_38, A_40, A_41, A_42, A_43, A_44, A_45, A_46, A_47]
        simp (config := { decide := true }) only [true_implies, false_implies, and_true, true_and, not_true_eq_false, not_false_eq_true, forall_const]
        exact h1 fun w => w2 w.2.1
    · dsimp only [k_X5_slips_0, k_X5_slips_1, k_X5_slips_2, k_X5_slips_5, k_X5_slips_8, k_X5_slips_9, k_X5_slips_10, k_X5_slips_13, k_X5_slips_16, k_X5_slips_17, k_X5_slips_18, k_X5_slips_21, k_X5_slips_22, k_X5_slips_23, k_X5_slips_24, k_X5_slips_26, k_X5_slips_28, k_X5_slips_30, k_X5_slips_31, k_X5_slips_33, k_X5_slips_35, k_X5_slips_37, k_X5_slips_40, k_X5_slips_42, k_X5_slips_44, k_X5_slips_45, k_X5_slips_47, k_X5_slips_49, k_X5_slips_51, k_X5_slips_52, k_X5_slips_54, k_X5_slips_56, k_X5_slips_58, k_X5_slips_61, k_X5_slips_62, k_X5_slips_64, k_X5_slips_65, k_X5_slips_66, k_X5_slips_67, k_X5_slips_68, k_X5_slips_71, k_X5_slips_72, k_X5_slips_73, k_X5_slips_76, k_X5_slips_77, k_X5_slips_79, k_X5_slips_80, k_X5_slips_81, k_X5_slips_82, k_X5_slips_85, k_X5_slips_86, k_X5_slips_87, k_X5_slips_88, k_X5_slips_89, k_X5_slips_92, k_X5_slips_93, k_X5_slips_96, k_X5_slips_97, k_X5_slips_99, k_X5_slips_101, k_X5_slips_104, k_X5_slips_106, k_X5_slips_107, k_X5_slips_110, k_X5_slips_112, k_X5_slips_115, k_X5_slips_117, k_X5_slips_119, k_X5_slips_121, k_X5_slips_123, k_X5_slips_126, k_X5_slips_127, k_X5_slips_130, k_X5_slips_131, k_X5_slips_132, k_X5_slips_134, k_X5_slips_137, k_X5_slips_140, k_X5_slips_141, k_X5_slips_142, k_X5_slips_145, k_X5_slips_147, k_X5_slips_150, k_X5_slips_152, wp1, wp_s, cutIn, kont, Nat.reduceSub, Nat.reduceAdd, nth, o_const, o_lconst, o_ref, o_iload, o_lload, o_aload, o_istore, o_lstore, o_astore, o_iinc, o_bin, o_div, o_un, o_lbin, o_lsh, o_lcmp, o_i2l, o_l2i, o_if, o_icmp, o_goto, o_dup, o_dup2, o_pop, fav, o_getf, o_putI, o_putZ, o_putL, o_ald, o_ast, o_alen, popn, rst, o_callV, o_callT, o_callS, swx, o_sw, o_ret, o_iret, o_zret, o_cret, o_lret, o_aret, lg, lput, lput2, ls1, isL, entL, wsum, rdI1, rdI2, rdA1, rdA21, rdA22, rdL1, rdL22, rdL21, upN_at, rep, sh_0, F_0_0, F_0_1, F_0_2, F_0_3, F_0_4, F_0_5, F_0_6, F_0_7, F_0_8, sh_1, F_1_0, F_1_1, F_1_2, F_1_3, F_1_4, F_1_5, sh_3, F_3_0, F_3_1, F_3_2, F_3_3, F_3_4, F_3_5, sh_5, F_5_0, F_5_1, F_5_2, F_5_3, F_5_4, F_5_5, F_5_6, F_5_7, F_5_8, sh_12, F_12_0, F_12_1, F_12_2, F_12_3, F_12_4, F_12_5, sh_14, F_14_0, F_14_1, F_14_2, F_14_3, F_14_4, F_14_5, F_14_6, F_14_7, F_14_8, sh_21, F_21_0, F_21_1, F_21_2, F_21_3, F_21_4, F_21_5, F_21_6, F_21_7, F_21_8, sh_28, F_28_0, F_28_1, F_28_2, F_28_3, F_28_4, F_28_5, F_28_6, F_28_7, F_28_8, sh_35, F_35_0, sh_39, F_39_0, F_39_1, F_39_2, F_39_3, F_39_4, F_39_5, F_39_6, F_39_7, F_39_8, F_39_9, F_39_10, F_39_11, F_39_12, F_39_13, A_2, A_4, A_6, A_7, A_8, A_9, A_10, A_11, A_13, A_15, A_16, A_17, A_18, A_19, A_20, A_22, A_23, A_24, A_25, A_26, A_27, A_29, A_30, A_31, A_32, A_33, A_34, A_36, A_37, A_38, A_40, A_41, A_42, A_43, A_44, A_45, A_46, A_47]
      simp (config := { decide := true }) only [true_implies, false_implies, and_true, true_and, not_true_eq_false, not_false_eq_true, forall_const]
      exact h1 fun w => w1 w.1
theorem c_X5_brings : Ctr yX5_brings cX5_brings 7 (some .int) ({ frames := 2, cells := 0, slots := 0, locals := 45 } : Room) S_X5_brings := ctr_of (T := T_X5_brings) (by decide +kernel) (fun post C hr => t_X5_brings post C hr) v_X5_brings
theorem c_X5_slips : Ctr yX5_slips cX5_slips 10 (some .int) ({ frames := 2, cells := 0, slots := 0, locals := 43 } : Room) S_X5_slips := ctr_of (T := T_X5_slips) (by decide +kernel) (fun post C hr => t_X5_slips post C hr) v_X5_slips
