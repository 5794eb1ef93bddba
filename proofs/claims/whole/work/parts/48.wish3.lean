/-! The model's wishes: all rows. -/
def S_X5_wish : SP := fun as M post => ∃ x y z n c p r h lk, as = [VR 39, VI x, VI y, VI z] ∧ MW M n c p r h lk ∧ HH h n p ∧
  ((∀ pp g l, x = nI pp → pp < p → y = nI g → g &&& (2 ^ p - 1) = g → z = nI l → l < c → g.testBit pp = false) → post (some (VI (-1))) M) ∧
  (∀ pp g l, x = nI pp → pp < p → y = nI g → g &&& (2 ^ p - 1) = g → z = nI l → l < c → g.testBit pp = true →
    (∀ row, row < 512 → GR r h n p g pp (lk l) row → (∀ j, j < row → ¬ GR r h n p g pp (lk l) j) → ∀ f b, post (some (VI (nI row))) (sA 37 b (sA 36 f M))) ∧
    ((∀ row, row < 512 → ¬ GR r h n p g pp (lk l) row) → ∀ f b, post (some (VI (-9))) (sA 37 b (sA 36 f M))))
theorem cw_RX5_143 : ∀ w ∈ ([.methodLink RX5 143 yX5_grants, .instanceMethod yX5_grants, .selects yX5_grants.cls yX5_grants yX5_grants, .initialized yX5_grants.cls, .code yX5_grants cX5_grants 8 (some .boolean)] : List Cond), w ∈ tb := tb_all [839, 841, 51, 59, 842] (by decide +kernel) (by decide +kernel)
theorem dX5_wish_0 : decode cX5_wish 0 = .ok (.aload_n 0, 1) := by decide +kernel
theorem dX5_wish_1 : decode cX5_wish 1 = .ok (.iload_n 1, 1) := by decide +kernel
theorem dX5_wish_2 : decode cX5_wish 2 = .ok (.invokevirtual 117, 3) := by decide +kernel
theorem dX5_wish_5 : decode cX5_wish 5 = .ok (.ifCond .eq 27, 3) := by decide +kernel
theorem dX5_wish_8 : decode cX5_wish 8 = .ok (.aload_n 0, 1) := by decide +kernel
theorem dX5_wish_9 : decode cX5_wish 9 = .ok (.iload_n 2, 1) := by decide +kernel
theorem dX5_wish_10 : decode cX5_wish 10 = .ok (.invokevirtual 134, 3) := by decide +kernel
theorem dX5_wish_13 : decode cX5_wish 13 = .ok (.ifCond .eq 19, 3) := by decide +kernel
theorem dX5_wish_16 : decode cX5_wish 16 = .ok (.iload_n 2, 1) := by decide +kernel
theorem dX5_wish_17 : decode cX5_wish 17 = .ok (.iload_n 1, 1) := by decide +kernel
theorem dX5_wish_18 : decode cX5_wish 18 = .ok (.ishr, 1) := by decide +kernel
theorem dX5_wish_19 : decode cX5_wish 19 = .ok (.iconst 1, 1) := by decide +kernel
theorem dX5_wish_20 : decode cX5_wish 20 = .ok (.iand, 1) := by decide +kernel
theorem dX5_wish_21 : decode cX5_wish 21 = .ok (.ifCond .eq 11, 3) := by decide +kernel
theorem dX5_wish_24 : decode cX5_wish 24 = .ok (.aload_n 0, 1) := by decide +kernel
theorem dX5_wish_25 : decode cX5_wish 25 = .ok (.iload_n 3, 1) := by decide +kernel
theorem dX5_wish_26 : decode cX5_wish 26 = .ok (.invokevirtual 101, 3) := by decide +kernel
theorem dX5_wish_29 : decode cX5_wish 29 = .ok (.ifCond .ne 5, 3) := by decide +kernel
theorem dX5_wish_32 : decode cX5_wish 32 = .ok (.iconst (-1), 1) := by decide +kernel
theorem dX5_wish_33 : decode cX5_wish 33 = .ok (.ireturn, 1) := by decide +kernel
theorem dX5_wish_34 : decode cX5_wish 34 = .ok (.iconst 0, 1) := by decide +kernel
theorem dX5_wish_35 : decode cX5_wish 35 = .ok (.istore 4, 2) := by decide +kernel
theorem dX5_wish_37 : decode cX5_wish 37 = .ok (.aload_n 0, 1) := by decide +kernel
theorem dX5_wish_38 : decode cX5_wish 38 = .ok (.iload 4, 2) := by decide +kernel
theorem dX5_wish_40 : decode cX5_wish 40 = .ok (.invokevirtual 134, 3) := by decide +kernel
theorem dX5_wish_43 : decode cX5_wish 43 = .ok (.ifCond .eq 57, 3) := by decide +kernel
theorem dX5_wish_46 : decode cX5_wish 46 = .ok (.aload_n 0, 1) := by decide +kernel
theorem dX5_wish_47 : decode cX5_wish 47 = .ok (.aload_n 0, 1) := by decide +kernel
theorem dX5_wish_48 : decode cX5_wish 48 = .ok (.iload 4, 2) := by decide +kernel
theorem dX5_wish_50 : decode cX5_wish 50 = .ok (.invokevirtual 137, 3) := by decide +kernel
theorem dX5_wish_53 : decode cX5_wish 53 = .ok (.invokevirtual 124, 3) := by decide +kernel
theorem dX5_wish_56 : decode cX5_wish 56 = .ok (.iconst 0, 1) := by decide +kernel
theorem dX5_wish_57 : decode cX5_wish 57 = .ok (.istore 5, 2) := by decide +kernel
theorem dX5_wish_59 : decode cX5_wish 59 = .ok (.iload 5, 2) := by decide +kernel
theorem dX5_wish_61 : decode cX5_wish 61 = .ok (.sipush 512, 3) := by decide +kernel
theorem dX5_wish_64 : decode cX5_wish 64 = .ok (.if_icmp .ge 30, 3) := by decide +kernel
theorem dX5_wish_67 : decode cX5_wish 67 = .ok (.aload_n 0, 1) := by decide +kernel
theorem dX5_wish_68 : decode cX5_wish 68 = .ok (.getfield 32, 3) := by decide +kernel
theorem dX5_wish_71 : decode cX5_wish 71 = .ok (.sipush 512, 3) := by decide +kernel
theorem dX5_wish_74 : decode cX5_wish 74 = .ok (.iload 4, 2) := by decide +kernel
theorem dX5_wish_76 : decode cX5_wish 76 = .ok (.imul, 1) := by decide +kernel
theorem dX5_wish_77 : decode cX5_wish 77 = .ok (.iload 5, 2) := by decide +kernel
theorem dX5_wish_79 : decode cX5_wish 79 = .ok (.iadd, 1) := by decide +kernel
theorem dX5_wish_80 : decode cX5_wish 80 = .ok (.aload_n 0, 1) := by decide +kernel
theorem dX5_wish_81 : decode cX5_wish 81 = .ok (.getfield 29, 3) := by decide +kernel
theorem dX5_wish_84 : decode cX5_wish 84 = .ok (.iload 5, 2) := by decide +kernel
theorem dX5_wish_86 : decode cX5_wish 86 = .ok (.baload, 1) := by decide +kernel
theorem dX5_wish_87 : decode cX5_wish 87 = .ok (.bastore, 1) := by decide +kernel
theorem dX5_wish_88 : decode cX5_wish 88 = .ok (.iinc 5 1, 3) := by decide +kernel
theorem dX5_wish_91 : decode cX5_wish 91 = .ok (.goto (-32), 3) := by decide +kernel
theorem dX5_wish_94 : decode cX5_wish 94 = .ok (.iinc 4 1, 3) := by decide +kernel
theorem dX5_wish_97 : decode cX5_wish 97 = .ok (.goto (-60), 3) := by decide +kernel
theorem dX5_wish_100 : decode cX5_wish 100 = .ok (.iconst 0, 1) := by decide +kernel
theorem dX5_wish_101 : decode cX5_wish 101 = .ok (.istore 4, 2) := by decide +kernel
theorem dX5_wish_103 : decode cX5_wish 103 = .ok (.iload 4, 2) := by decide +kernel
theorem dX5_wish_105 : decode cX5_wish 105 = .ok (.sipush 512, 3) := by decide +kernel
theorem dX5_wish_108 : decode cX5_wish 108 = .ok (.if_icmp .ge 31, 3) := by decide +kernel
theorem dX5_wish_111 : decode cX5_wish 111 = .ok (.aload_n 0, 1) := by decide +kernel
theorem dX5_wish_112 : decode cX5_wish 112 = .ok (.iload_n 1, 1) := by decide +kernel
theorem dX5_wish_113 : decode cX5_wish 113 = .ok (.iload_n 2, 1) := by decide +kernel
theorem dX5_wish_114 : decode cX5_wish 114 = .ok (.aload_n 0, 1) := by decide +kernel
theorem dX5_wish_115 : decode cX5_wish 115 = .ok (.getfield 13, 3) := by decide +kernel
theorem dX5_wish_118 : decode cX5_wish 118 = .ok (.iconst 4, 1) := by decide +kernel
theorem dX5_wish_119 : decode cX5_wish 119 = .ok (.iload_n 3, 1) := by decide +kernel
theorem dX5_wish_120 : decode cX5_wish 120 = .ok (.iadd, 1) := by decide +kernel
theorem dX5_wish_121 : decode cX5_wish 121 = .ok (.iaload, 1) := by decide +kernel
theorem dX5_wish_122 : decode cX5_wish 122 = .ok (.iload 4, 2) := by decide +kernel
theorem dX5_wish_124 : decode cX5_wish 124 = .ok (.invokevirtual 143, 3) := by decide +kernel
theorem dX5_wish_127 : decode cX5_wish 127 = .ok (.ifCond .eq 6, 3) := by decide +kernel
theorem dX5_wish_130 : decode cX5_wish 130 = .ok (.iload 4, 2) := by decide +kernel
theorem dX5_wish_132 : decode cX5_wish 132 = .ok (.ireturn, 1) := by decide +kernel
theorem dX5_wish_133 : decode cX5_wish 133 = .ok (.iinc 4 1, 3) := by decide +kernel
theorem dX5_wish_136 : decode cX5_wish 136 = .ok (.goto (-33), 3) := by decide +kernel
theorem dX5_wish_139 : decode cX5_wish 139 = .ok (.bipush (-9), 2) := by decide +kernel
theorem dX5_wish_141 : decode cX5_wish 141 = .ok (.ireturn, 1) := by decide +kernel
def T_X5_wish (post : PO) : List (Nat × OP) := [(0, o_aload 0 1), (1, o_iload 1 2), (2, o_callV 5 S_X5_isPerson 1 5), (5, o_if (fun x => x = 0) 32 8), (8, o_aload 0 9), (9, o_iload 2 10), (10, o_callV 5 S_X5_isGroup 1 13), (13, o_if (fun x => x = 0) 32 16), (16, o_iload 2 17), (17, o_iload 1 18), (18, o_bin (fun x y => x >>> (y &&& 31)) 19), (19, o_const 1 20), (20, o_bin (fun x y => x &&& y) 21), (21, o_if (fun x => x = 0) 32 24), (24, o_aload 0 25), (25, o_iload 3 26), (26, o_callV 5 S_X5_isLock 1 29), (29, o_if (fun x => x = 0) 32 34), (32, o_const (-1) 33), (33, o_iret post), (34, o_const 0 35), (35, o_istore 4 37), (37, o_aload 0 38), (38, o_iload 4 40), (40, o_callV 5 S_X5_isGroup 1 43), (43, o_if (fun x => x = 0) 100 46), (46, o_aload 0 47), (47, o_aload 0 48), (48, o_iload 4 50), (50, o_callV 5 S_X5_heldBy 1 53), (53, o_callV 5 S_X5_makes 1 56), (56, o_const 0 57), (57, o_istore 5 59), (59, o_iload 5 61), (61, o_const 512 64), (64, o_icmp (fun x y => y ≤ x) 94 67), (67, o_aload 0 68), (68, o_getf 5 13 71), (71, o_const 512 74), (74, o_iload 4 76), (76, o_bin (fun x y => x * y) 77), (77, o_iload 5 79), (79, o_bin (fun x y => x + y) 80), (80, o_aload 0 81), (81, o_getf 5 12 84), (84, o_iload 5 86), (86, o_ald 2 87), (87, o_ast 2 (vp_nar .boolean) 88), (88, o_iinc 5 1 91), (91, o_goto 59), (94, o_iinc 4 1 97), (97, o_goto 37), (100, o_const 0 101), (101, o_istore 4 103), (103, o_iload 4 105), (105, o_const 512 108), (108, o_icmp (fun x y => y ≤ x) 139 111), (111, o_aload 0 112), (112, o_iload 1 113), (113, o_iload 2 114), (114, o_aload 0 115), (115, o_getf 5 3 118), (118, o_const 4 119), (119, o_iload 3 120), (120, o_bin (fun x y => x + y) 121), (121, o_ald 0 122), (122, o_iload 4 124), (124, o_callV 5 S_X5_grants 4 127), (127, o_if (fun x => x = 0) 133 130), (130, o_iload 4 132), (132, o_iret post), (133, o_iinc 4 1 136), (136, o_goto 103), (139, o_const (-9) 141), (141, o_iret post)]
theorem k_X5_wish_0 (post : PO) : lk (T_X5_wish post) 0 = o_aload 0 1 := rfl
theorem k_X5_wish_1 (post : PO) : lk (T_X5_wish post) 1 = o_iload 1 2 := rfl
theorem k_X5_wish_2 (post : PO) : lk (T_X5_wish post) 2 = o_callV 5 S_X5_isPerson 1 5 := rfl
theorem k_X5_wish_5 (post : PO) : lk (T_X5_wish post) 5 = o_if (fun x => x = 0) 32 8 := rfl
theorem k_X5_wish_8 (post : PO) : lk (T_X5_wish post) 8 = o_aload 0 9 := rfl
theorem k_X5_wish_9 (post : PO) : lk (T_X5_wish post) 9 = o_iload 2 10 := rfl
theorem k_X5_wish_10 (post : PO) : lk (T_X5_wish post) 10 = o_callV 5 S_X5_isGroup 1 13 := rfl
theorem k_X5_wish_13 (post : PO) : lk (T_X5_wish post) 13 = o_if (fun x => x = 0) 32 16 := rfl
theorem k_X5_wish_16 (post : PO) : lk (T_X5_wish post) 16 = o_iload 2 17 := rfl
theorem k_X5_wish_17 (post : PO) : lk (T_X5_wish post) 17 = o_iload 1 18 := rfl
theorem k_X5_wish_18 (post : PO) : lk (T_X5_wish post) 18 = o_bin (fun x y => x >>> (y &&& 31)) 19 := rfl
theorem k_X5_wish_19 (post : PO) : lk (T_X5_wish post) 19 = o_const 1 20 := rfl
theorem k_X5_wish_20 (post : PO) : lk (T_X5_wish post) 20 = o_bin (fun x y => x &&& y) 21 := rfl
theorem k_X5_wish_21 (post : PO) : lk (T_X5_wish post) 21 = o_if (fun x => x = 0) 32 24 := rfl
theorem k_X5_wish_24 (post : PO) : lk (T_X5_wish post) 24 = o_aload 0 25 := rfl
theorem k_X5_wish_25 (post : PO) : lk (T_X5_wish post) 25 = o_iload 3 26 := rfl
theorem k_X5_wish_26 (post : PO) : lk (T_X5_wish post) 26 = o_callV 5 S_X5_isLock 1 29 := rfl
theorem k_X5_wish_29 (post : PO) : lk (T_X5_wish post) 29 = o_if (fun x => x = 0) 32 34 := rfl
theorem k_X5_wish_32 (post : PO) : lk (T_X5_wish post) 32 = o_const (-1) 33 := rfl
theorem k_X5_wish_33 (post : PO) : lk (T_X5_wish post) 33 = o_iret post := rfl
theorem k_X5_wish_34 (post : PO) : lk (T_X5_wish post) 34 = o_const 0 35 := rfl
theorem k_X5_wish_35 (post : PO) : lk (T_X5_wish post) 35 = o_istore 4 37 := rfl
theorem k_X5_wish_37 (post : PO) : lk (T_X5_wish post) 37 = o_aload 0 38 := rfl
theorem k_X5_wish_38 (post : PO) : lk (T_X5_wish post) 38 = o_iload 4 40 := rfl
theorem k_X5_wish_40 (post : PO) : lk (T_X5_wish post) 40 = o_callV 5 S_X5_isGroup 1 43 := rfl
theorem k_X5_wish_43 (post : PO) : lk (T_X5_wish post) 43 = o_if (fun x => x = 0) 100 46 := rfl
theorem k_X5_wish_46 (post : PO) : lk (T_X5_wish post) 46 = o_aload 0 47 := rfl
theorem k_X5_wish_47 (post : PO) : lk (T_X5_wish post) 47 = o_aload 0 48 := rfl
theorem k_X5_wish_48 (post : PO) : lk (T_X5_wish post) 48 = o_iload 4 50 := rfl
theorem k_X5_wish_50 (post : PO) : lk (T_X5_wish post) 50 = o_callV 5 S_X5_heldBy 1 53 := rfl
theorem k_X5_wish_53 (post : PO) : lk (T_X5_wish post) 53 = o_callV 5 S_X5_makes 1 56 := rfl
theorem k_X5_wish_56 (post : PO) : lk (T_X5_wish post) 56 = o_const 0 57 := rfl
theorem k_X5_wish_57 (post : PO) : lk (T_X5_wish post) 57 = o_istore 5 59 := rfl
theorem k_X5_wish_59 (post : PO) : lk (T_X5_wish post) 59 = o_iload 5 61 := rfl
theorem k_X5_wish_61 (post : PO) : lk (T_X5_wish post) 61 = o_const 512 64 := rfl
theorem k_X5_wish_64 (post : PO) : lk (T_X5_wish post) 64 = o_icmp (fun x y => y ≤ x) 94 67 := rfl
theorem k_X5_wish_67 (post : PO) : lk (T_X5_wish post) 67 = o_aload 0 68 := rfl
theorem k_X5_wish_68 (post : PO) : lk (T_X5_wish post) 68 = o_getf 5 13 71 := rfl
theorem k_X5_wish_71 (post : PO) : lk (T_X5_wish post) 71 = o_const 512 74 := rfl
theorem k_X5_wish_74 (post : PO) : lk (T_X5_wish post) 74 = o_iload 4 76 := rfl
theorem k_X5_wish_76 (post : PO) : lk (T_X5_wish post) 76 = o_bin (fun x y => x * y) 77 := rfl
theorem k_X5_wish_77 (post : PO) : lk (T_X5_wish post) 77 = o_iload 5 79 := rfl
theorem k_X5_wish_79 (post : PO) : lk (T_X5_wish post) 79 = o_bin (fun x y => x + y) 80 := rfl
theorem k_X5_wish_80 (post : PO) : lk (T_X5_wish post) 80 = o_aload 0 81 := rfl
theorem k_X5_wish_81 (post : PO) : lk (T_X5_wish post) 81 = o_getf 5 12 84 := rfl
theorem k_X5_wish_84 (post : PO) : lk (T_X5_wish post) 84 = o_iload 5 86 := rfl
theorem k_X5_wish_86 (post : PO) : lk (T_X5_wish post) 86 = o_ald 2 87 := rfl
theorem k_X5_wish_87 (post : PO) : lk (T_X5_wish post) 87 = o_ast 2 (vp_nar .boolean) 88 := rfl
theorem k_X5_wish_88 (post : PO) : lk (T_X5_wish post) 88 = o_iinc 5 1 91 := rfl
theorem k_X5_wish_91 (post : PO) : lk (T_X5_wish post) 91 = o_goto 59 := rfl
theorem k_X5_wish_94 (post : PO) : lk (T_X5_wish post) 94 = o_iinc 4 1 97 := rfl
theorem k_X5_wish_97 (post : PO) : lk (T_X5_wish post) 97 = o_goto 37 := rfl
theorem k_X5_wish_100 (post : PO) : lk (T_X5_wish post) 100 = o_const 0 101 := rfl
theorem k_X5_wish_101 (post : PO) : lk (T_X5_wish post) 101 = o_istore 4 103 := rfl
theorem k_X5_wish_103 (post : PO) : lk (T_X5_wish post) 103 = o_iload 4 105 := rfl
theorem k_X5_wish_105 (post : PO) : lk (T_X5_wish post) 105 = o_const 512 108 := rfl
theorem k_X5_wish_108 (post : PO) : lk (T_X5_wish post) 108 = o_icmp (fun x y => y ≤ x) 139 111 := rfl
theorem k_X5_wish_111 (post : PO) : lk (T_X5_wish post) 111 = o_aload 0 112 := rfl
theorem k_X5_wish_112 (post : PO) : lk (T_X5_wish post) 112 = o_iload 1 113 := rfl
theorem k_X5_wish_113 (post : PO) : lk (T_X5_wish post) 113 = o_iload 2 114 := rfl
theorem k_X5_wish_114 (post : PO) : lk (T_X5_wish post) 114 = o_aload 0 115 := rfl
theorem k_X5_wish_115 (post : PO) : lk (T_X5_wish post) 115 = o_getf 5 3 118 := rfl
theorem k_X5_wish_118 (post : PO) : lk (T_X5_wish post) 118 = o_const 4 119 := rfl
theorem k_X5_wish_119 (post : PO) : lk (T_X5_wish post) 119 = o_iload 3 120 := rfl
theorem k_X5_wish_120 (post : PO) : lk (T_X5_wish post) 120 = o_bin (fun x y => x + y) 121 := rfl
theorem k_X5_wish_121 (post : PO) : lk (T_X5_wish post) 121 = o_ald 0 122 := rfl
theorem k_X5_wish_122 (post : PO) : lk (T_X5_wish post) 122 = o_iload 4 124 := rfl
theorem k_X5_wish_124 (post : PO) : lk (T_X5_wish post) 124 = o_callV 5 S_X5_grants 4 127 := rfl
theorem k_X5_wish_127 (post : PO) : lk (T_X5_wish post) 127 = o_if (fun x => x = 0) 133 130 := rfl
theorem k_X5_wish_130 (post : PO) : lk (T_X5_wish post) 130 = o_iload 4 132 := rfl
theorem k_X5_wish_132 (post : PO) : lk (T_X5_wish post) 132 = o_iret post := rfl
theorem k_X5_wish_133 (post : PO) : lk (T_X5_wish post) 133 = o_iinc 4 1 136 := rfl
theorem k_X5_wish_136 (post : PO) : lk (T_X5_wish post) 136 = o_goto 103 := rfl
theorem k_X5_wish_139 (post : PO) : lk (T_X5_wish post) 139 = o_const (-9) 141 := rfl
theorem k_X5_wish_141 (post : PO) : lk (T_X5_wish post) 141 = o_iret post := rfl
set_option maxRecDepth 100000 in
theorem t_X5_wish {p : Program} {l : Launch} {e : Env} {s : State} {m : MethodId} {args : Array Value} {below : List Frame} {meth : Method} {c : Code} {D : va_G} {dA : Nat → ClassId} {ad : Nat → Nat} (post : PO) (C : CX p s m args meth c cX5_wish 6 yX5_wish.cls D dA ad (AA ad s.heap.size)) (hr : meth.sig.returnType = (some .int)) : SndL (WW p l e ({ frames := 3, cells := 0, slots := 0, locals := 70 } : Room) s m args below meth c 0 0 (MQ below (CQ D dA ad post (AA ad s.heap.size)) args s 0 0 (AA ad s.heap.size)) 6 D dA ad (AA ad s.heap.size)) (T_X5_wish post) := by
  refine snd_c (s_aload_n C rfl dX5_wish_0) ?_
  refine snd_c (s_iload_n C rfl dX5_wish_1) ?_
  refine snd_c (s_callV C (ci := 5) c_X5_isPerson rfl cw_RX5_117 ⟨rfl, rfl⟩ ⟨by decide +kernel, by decide +kernel, by decide +kernel⟩ ⟨by decide, by decide⟩ ⟨Nat.zero_le _, Nat.zero_le _⟩ dX5_wish_2) ?_
  refine snd_c (s_if_eq C dX5_wish_5 (by decide)) ?_
  refine snd_c (s_aload_n C rfl dX5_wish_8) ?_
  refine snd_c (s_iload_n C rfl dX5_wish_9) ?_
  refine snd_c (s_callV C (ci := 5) c_X5_isGroup rfl cw_RX5_134 ⟨rfl, rfl⟩ ⟨by decide +kernel, by decide +kernel, by decide +kernel⟩ ⟨by decide, by decide⟩ ⟨Nat.zero_le _, Nat.zero_le _⟩ dX5_wish_10) ?_
  refine snd_c (s_if_eq C dX5_wish_13 (by decide)) ?_
  refine snd_c (s_iload_n C rfl dX5_wish_16) ?_
  refine snd_c (s_iload_n C rfl dX5_wish_17) ?_
  refine snd_c (s_ishr C dX5_wish_18) ?_
  refine snd_c (s_iconst C dX5_wish_19 rfl) ?_
  refine snd_c (s_iand C dX5_wish_20) ?_
  refine snd_c (s_if_eq C dX5_wish_21 (by decide)) ?_
  refine snd_c (s_aload_n C rfl dX5_wish_24) ?_
  refine snd_c (s_iload_n C rfl dX5_wish_25) ?_
  refine snd_c (s_callV C (ci := 5) c_X5_isLock rfl cw_RX5_101 ⟨rfl, rfl⟩ ⟨by decide +kernel, by decide +kernel, by decide +kernel⟩ ⟨by decide, by decide⟩ ⟨Nat.zero_le _, Nat.zero_le _⟩ dX5_wish_26) ?_
  refine snd_c (s_if_ne C dX5_wish_29 (by decide)) ?_
  refine snd_c (s_iconst C dX5_wish_32 rfl) ?_
  refine snd_c (s_iret C hr dX5_wish_33) ?_
  refine snd_c (s_iconst C dX5_wish_34 rfl) ?_
  refine snd_c (s_istore C (by decide) dX5_wish_35) ?_
  refine snd_c (s_aload_n C rfl dX5_wish_37) ?_
  refine snd_c (s_iload C dX5_wish_38) ?_
  refine snd_c (s_callV C (ci := 5) c_X5_isGroup rfl cw_RX5_134 ⟨rfl, rfl⟩ ⟨by decide +kernel, by decide +kernel, by decide +kernel⟩ ⟨by decide, by decide⟩ ⟨Nat.zero_le _, Nat.zero_le _⟩ dX5_wish_40) ?_
  refine snd_c (s_if_eq C dX5_wish_43 (by decide)) ?_
  refine snd_c (s_aload_n C rfl dX5_wish_46) ?_
  refine snd_c (s_aload_n C rfl dX5_wish_47) ?_
  refine snd_c (s_iload C dX5_wish_48) ?_
  refine snd_c (s_callV C (ci := 5) c_X5_heldBy rfl cw_RX5_137 ⟨rfl, rfl⟩ ⟨by decide +kernel, by decide +kernel, by decide +kernel⟩ ⟨by decide, by decide⟩ ⟨Nat.zero_le _, Nat.zero_le _⟩ dX5_wish_50) ?_
  refine snd_c (s_callV C (ci := 5) c_X5_makes rfl cw_RX5_124 ⟨rfl, rfl⟩ ⟨by decide +kernel, by decide +kernel, by decide +kernel⟩ ⟨by decide, by decide⟩ ⟨Nat.zero_le _, Nat.zero_le _⟩ dX5_wish_53) ?_
  refine snd_c (s_iconst C dX5_wish_56 rfl) ?_
  refine snd_c (s_istore C (by decide) dX5_wish_57) ?_
  refine snd_c (s_iload C dX5_wish_59) ?_
  refine snd_c (s_sipush C dX5_wish_61 rfl) ?_
  refine snd_c (s_icmp_ge C dX5_wish_64 (by decide)) ?_
  refine snd_c (s_aload_n C rfl dX5_wish_67) ?_
  refine snd_c (s_getf C (ci := 5) (j := 13) (T := TX5) rfl inX5 (by decide) fl_RX5_32 dX5_wish_68) ?_
  refine snd_c (s_sipush C dX5_wish_71 rfl) ?_
  refine snd_c (s_iload C dX5_wish_74) ?_
  refine snd_c (s_imul C dX5_wish_76) ?_
  refine snd_c (s_iload C dX5_wish_77) ?_
  refine snd_c (s_iadd C dX5_wish_79) ?_
  refine snd_c (s_aload_n C rfl dX5_wish_80) ?_
  refine snd_c (s_getf C (ci := 5) (j := 12) (T := TX5) rfl inX5 (by decide) fl_RX5_29 dX5_wish_81) ?_
  refine snd_c (s_iload C dX5_wish_84) ?_
  refine snd_c (s_bald2 C dX5_wish_86) ?_
  refine snd_c (s_bast2 C dX5_wish_87) ?_
  refine snd_c (s_iinc C (by decide) rfl dX5_wish_88) ?_
  refine snd_c (s_goto C dX5_wish_91 (by decide)) ?_
  refine snd_c (s_iinc C (by decide) rfl dX5_wish_94) ?_
  refine snd_c (s_goto C dX5_wish_97 (by decide)) ?_
  refine snd_c (s_iconst C dX5_wish_100 rfl) ?_
  refine snd_c (s_istore C (by decide) dX5_wish_101) ?_
  refine snd_c (s_iload C dX5_wish_103) ?_
  refine snd_c (s_sipush C dX5_wish_105 rfl) ?_
  refine snd_c (s_icmp_ge C dX5_wish_108 (by decide)) ?_
  refine snd_c (s_aload_n C rfl dX5_wish_111) ?_
  refine snd_c (s_iload_n C rfl dX5_wish_112) ?_
  refine snd_c (s_iload_n C rfl dX5_wish_113) ?_
  refine snd_c (s_aload_n C rfl dX5_wish_114) ?_
  refine snd_c (s_getf C (ci := 5) (j := 3) (T := TX5) rfl inX5 (by decide) fl_RX5_13 dX5_wish_115) ?_
  refine snd_c (s_iconst C dX5_wish_118 rfl) ?_
  refine snd_c (s_iload_n C rfl dX5_wish_119) ?_
  refine snd_c (s_iadd C dX5_wish_120) ?_
  refine snd_c (s_iald C dX5_wish_121) ?_
  refine snd_c (s_iload C dX5_wish_122) ?_
  refine snd_c (s_callV C (ci := 5) c_X5_grants rfl cw_RX5_143 ⟨rfl, rfl⟩ ⟨by decide +kernel, by decide +kernel, by decide +kernel⟩ ⟨by decide, by decide⟩ ⟨Nat.zero_le _, Nat.zero_le _⟩ dX5_wish_124) ?_
  refine snd_c (s_if_eq C dX5_wish_127 (by decide)) ?_
  refine snd_c (s_iload C dX5_wish_130) ?_
  refine snd_c (s_iret C hr dX5_wish_132) ?_
  refine snd_c (s_iinc C (by decide) rfl dX5_wish_133) ?_
  refine snd_c (s_goto C dX5_wish_136 (by decide)) ?_
  refine snd_c (s_bipush C dX5_wish_139 rfl) ?_
  refine snd_c (s_iret C hr dX5_wish_141) ?_
  exact trivial
theorem MW_3637 {M : AM} {n c p : Nat} {r : Nat → Nat} {h : Nat → Int32} {lk : Nat → Nat} (hX : MW M n c p r h lk) (f b : Nat → Int32) : MW (sA 37 b (sA 36 f M)) n c p r h lk := MW_of hX rfl rfl
theorem and_p {g p : Nat} : g &&& (2 ^ p - 1) = g ↔ g < 2 ^ p := by
  have h1 := Nat.one_le_two_pow (n := p)
  constructor
  · intro e
    have : g &&& (2 ^ p - 1) ≤ 2 ^ p - 1 := Nat.and_le_right
    omega
  · intro e
    rw [Nat.and_two_pow_sub_one_eq_mod, Nat.mod_eq_of_lt e]
theorem gmB_s {b : Nat → Int32} {r : Nat → Nat} {h : Nat → Int32} {n p i : Nat} (hb : gmB b r h n p i) (hi : ∀ w, w < 512 → (mkU r h n p i w → b (512 * i + w) = 1) ∧ (¬ mkU r h n p i w → b (512 * i + w) = 0)) : gmB b r h n p (i + 1) := by
  intro u hu
  rcases Nat.lt_or_ge u i with e | e
  · exact hb u e
  · rw [show u = i by omega]; exact hi
set_option maxRecDepth 100000 in
theorem v_X5_wish : ∀ as M post, S_X5_wish as M post → wsum as ≤ 6 ∧ RUN (T_X5_wish post) 0 (entL 6 as) [] M := by
  rintro as M post ⟨x, y, z, n, c, p, r, h0, lk, rfl, hX, hH, h1, h2⟩
  have hX0 := hX
  obtain ⟨hn, hn8, hc, hc6, hp, hp4, hr, hhk, hl⟩ := hX
  have hrl : ∀ k, k < n → r k < 512 := fun k hk => (hr k hk).2
  have hp1 := Nat.one_le_two_pow (n := p)
  have hp16 : 2 ^ p ≤ 16 := by have := ev_lt hp4; omega
  refine ⟨by show 4 ≤ 6; omega, run_of [37, 59, 103] (fun μ pc lv st M' => st = [] ∧ ∃ pp g l f b, x = nI pp ∧ pp < p ∧ y = nI g ∧ g < 2 ^ p ∧ z = nI l ∧ l < c ∧ g.testBit pp = true ∧ M' = sA 37 b (sA 36 f M) ∧ ((pc = 37 ∧ ∃ u, u ≤ 2 ^ p ∧ gmB b r h0 n p u ∧ (100 - u) * 1000 + 999 = μ ∧ lv = [some (VR 39), some (VI x), some (VI y), some (VI z), some (VI (nI u)), none]) ∨ (pc = 59 ∧ ∃ u i, u < 2 ^ p ∧ i ≤ 512 ∧ gmB b r h0 n p u ∧ isMk r n (hd h0 u p n) f ∧ (∀ w, w < i → (mkU r h0 n p u w → b (512 * u + w) = 1) ∧ (¬ mkU r h0 n p u w → b (512 * u + w) = 0)) ∧ (100 - u) * 1000 + 998 - i = μ ∧ lv = [some (VR 39), some (VI x), some (VI y), some (VI z), some (VI (nI u)), some (VI (nI i))]) ∨ (pc = 103 ∧ ∃ i, i ≤ 512 ∧ gmB b r h0 n p (2 ^ p) ∧ (∀ j, j < i → ¬ GR r h0 n p g pp (lk l) j) ∧ 1000 - i = μ ∧ lv = [some (VR 39), some (VI x), some (VI y), some (VI z), some (VI (nI i)), none]))) 80 300000 ?_ ?_⟩
  · rintro μ pc lv st M' ⟨rfl, pp, g, l, f, b, rfl, hpp, rfl, hg, rfl, hlc, hbit, rfl, ⟨rfl, u, hu, hb, rfl, rfl⟩ | ⟨rfl, u, i, hu, hi, hb, hm, hw, rfl, rfl⟩ | ⟨rfl, i, hi, hb, hno, rfl, rfl⟩⟩
    · dsimp only [k_X5_wish_0, k_X5_wish_1, k_X5_wish_2, k_X5_wish_5, k_X5_wish_8, k_X5_wish_9, k_X5_wish_10, k_X5_wish_13, k_X5_wish_16, k_X5_wish_17, k_X5_wish_18, k_X5_wish_19, k_X5_wish_20, k_X5_wish_21, k_X5_wish_24, k_X5_wish_25, k_X5_wish_26, k_X5_wish_29, k_X5_wish_32, k_X5_wish_33, k_X5_wish_34, k_X5_wish_35, k_X5_wish_37, k_X5_wish_38, k_X5_wish_40, k_X5_wish_43, k_X5_wish_46, k_X5_wish_47, k_X5_wish_48, k_X5_wish_50, k_X5_wish_53, k_X5_wish_56, k_X5_wish_57, k_X5_wish_59, k_X5_wish_61, k_X5_wish_64, k_X5_wish_67, k_X5_wish_68, k_X5_wish_71, k_X5_wish_74, k_X5_wish_76, k_X5_wish_77, k_X5_wish_79, k_X5_wish_80, k_X5_wish_81, k_X5_wish_84, k_X5_wish_86, k_X5_wish_87, k_X5_wish_88, k_X5_wish_91, k_X5_wish_94, k_X5_wish_97, k_X5_wish_100, k_X5_wish_101, k_X5_wish_103, k_X5_wish_105, k_X5_wish_108, k_X5_wish_111, k_X5_wish_112, k_X5_wish_113, k_X5_wish_114, k_X5_wish_115, k_X5_wish_118, k_X5_wish_119, k_X5_wish_120, k_X5_wish_121, k_X5_wish_122, k_X5_wish_124, k_X5_wish_127, k_X5_wish_130, k_X5_wish_132, k_X5_wish_133, k_X5_wish_136, k_X5_wish_139, k_X5_wish_141, wp1, wp_s, cutIn, kont, Nat.reduceSub, Nat.reduceAdd, nth, o_const, o_lconst, o_ref, o_iload, o_lload, o_aload, o_istore, o_lstore, o_astore, o_iinc, o_bin, o_div, o_un, o_lbin, o_lsh, o_lcmp, o_i2l, o_l2i, o_if, o_icmp, o_goto, o_dup, o_dup2, o_pop, fav, o_getf, o_putI, o_putZ, o_putL, o_ald, o_ast, o_alen, popn, rst, o_callV, o_callT, o_callS, swx, o_sw, o_ret, o_iret, o_zret, o_cret, o_lret, o_aret, lg, lput, lput2, ls1, isL, entL, wsum, rdI1, rdI2, rdA1, rdA21, rdA22, rdL1, rdL22, rdL21, upN_at, rep, sh_0, F_0_0, F_0_1, F_0_2, F_0_3, F_0_4, F_0_5, F_0_6, F_0_7, F_0_8, sh_1, F_1_0, F_1_1, F_1_2, F_1_3, F_1_4, F_1_5, sh_3, F_3_0, F_3_1, F_3_2, F_3_3, F_3_4, F_3_5, sh_5, F_5_0, F_5_1, F_5_2, F_5_3, F_5_4, F_5_5, F_5_6, F_5_7, F_5_8, sh_12, F_12_0, F_12_1, F_12_2, F_12_3, F_12_4, F_12_5, sh_14, F_14_0, F_14_1, F_14_2, F_14_3, F_14_4, F_14_5, F_14_6, F_14_7, F_14_8, sh_21, F_21_0, F_21_1, F_21_2, F_21_3, F_21_4, F_21_5, F_21_6, F_21_7, F_21_8, sh_28, F_28_0, F_28_1, F_28_2, F_28_3, F_28_4, F_28_5, F_28_6, F_28_7, F_28_8, sh_35, F_35_0, sh_39, F_39_0, F_39_1, F_39_2, F_39_3, F_39_4, F_39_5, F_39_6, F_39_7, F_39_8, F_39_9, F_39_10, F_39_11, F_39_12, F_39_13, A_2, A_4, A_6, A_7, A_8, A_9, A_10, A_11, A_13, A_15, A_16, A_17, A_18, A_19, A_20, A_22, A_23, A_24, A_25, A_26, A_27, A_29, A_30, A_31, A_32, A_33, A_34, A_36, A_37, A_38, A_40, A_41, A_42, A_43, A_44, A_45, A_46, A_47]
      refine ⟨nI u, n, c, p, r, h0, lk, rfl, MW_3637 hX0 f b, fun w1 => ?_, fun w1 => ?_⟩
      · have hu2 : u < 2 ^ p := by
          have := w1.2
          rwa [nI_ltI (by omega) (by omega)] at this
        dsimp only [k_X5_wish_0, k_X5_wish_1, k_X5_wish_2, k_X5_wish_5, k_X5_wish_8, k_X5_wish_9, k_X5_wish_10, k_X5_wish_13, k_X5_wish_16, k_X5_wish_17, k_X5_wish_18, k_X5_wish_19, k_X5_wish_20, k_X5_wish_21, k_X5_wish_24, k_X5_wish_25, k_X5_wish_26, k_X5_wish_29, k_X5_wish_32, k_X5_wish_33, k_X5_wish_34, k_X5_wish_35, k_X5_wish_37, k_X5_wish_38, k_X5_wish_40, k_X5_wish_43, k_X5_wish_46, k_X5_wish_47, k_X5_wish_48, k_X5_wish_50, k_X5_wish_53, k_X5_wish_56, k_X5_wish_57, k_X5_wish_59, k_X5_wish_61, k_X5_wish_64, k_X5_wish_67, k_X5_wish_68, k_X5_wish_71, k_X5_wish_74, k_X5_wish_76, k_X5_wish_77, k_X5_wish_79, k_X5_wish_80, k_X5_wish_81, k_X5_wish_84, k_X5_wish_86, k_X5_wish_87, k_X5_wish_88, k_X5_wish_91, k_X5_wish_94, k_X5_wish_97, k_X5_wish_100, k_X5_wish_101, k_X5_wish_103, k_X5_wish_105, k_X5_wish_108, k_X5_wish_111, k_X5_wish_112, k_X5_wish_113, k_X5_wish_114, k_X5_wish_115, k_X5_wish_118, k_X5_wish_119, k_X5_wish_120, k_X5_wish_121, k_X5_wish_122, k_X5_wish_124, k_X5_wish_127, k_X5_wish_130, k_X5_wish_132, k_X5_wish_133, k_X5_wish_136, k_X5_wish_139, k_X5_wish_141, wp1, wp_s, cutIn, kont, Nat.reduceSub, Nat.reduceAdd, nth, o_const, o_lconst, o_ref, o_iload, o_lload, o_aload, o_istore, o_lstore, o_astore, o_iinc, o_bin, o_div, o_un, o_lbin, o_lsh, o_lcmp, o_i2l, o_l2i, o_if, o_icmp, o_goto, o_dup, o_dup2, o_pop, fav, o_getf, o_putI, o_putZ, o_putL, o_ald, o_ast, o_alen, popn, rst, o_callV, o_callT, o_callS, swx, o_sw, o_ret, o_iret, o_zret, o_cret, o_lret, o_aret, lg, lput, lput2, ls1, isL, entL, wsum, rdI1, rdI2, rdA1, rdA21, rdA22, rdL1, rdL22, rdL21, upN_at, rep, sh_0, F_0_0, F_0_1, F_0_2, F_0_3, F_0_4, F_0_5, F_0_6, F_0_7, F_0_8, sh_1, F_1_0, F_1_1, F_1_2, F_1_3, F_1_4, F_1_5, sh_3, F_3_0, F_3_1, F_3_2, F_3_3, F_3_4, F_3_5, sh_5, F_5_0, F_5_1, F_5_2, F_5_3, F_5_4, F_5_5, F_5_6, F_5_7, F_5_8, sh_12, F_12_0, F_12_1, F_12_2, F_12_3, F_12_4, F_12_5, sh_14, F_14_0, F_14_1, F_14_2, F_14_3, F_14_4, F_14_5, F_14_6, F_14_7, F_14_8, sh_21, F_21_0, F_21_1, F_21_2, F_21_3, F_21_4, F_21_5, F_21_6, F_21_7, F_21_8, sh_28, F_28_0, F_28_1, F_28_2, F_28_3, F_28_4, F_28_5, F_28_6, F_28_7, F_28_8, sh_35, F_35_0, sh_39, F_39_0, F_39_1, F_39_2, F_39_3, F_39_4, F_39_5, F_39_6, F_39_7, F_39_8, F_39_9, F_39_10, F_39_11, F_39_12, F_39_13, A_2, A_4, A_6, A_7, A_8, A_9, A_10, A_11, A_13, A_15, A_16, A_17, A_18, A_19, A_20, A_22, A_23, A_24, A_25, A_26, A_27, A_29, A_30, A_31, A_32, A_33, A_34, A_36, A_37, A_38, A_40, A_41, A_42, A_43, A_44, A_45, A_46, A_47]
        simp (config := { decide := true }) only [true_implies, false_implies, and_true, true_and, not_true_eq_false, not_false_eq_true, forall_const]
        refine ⟨u, n, c, p, r, h0, lk, rfl, MW_3637 hX0 f b, hH, by omega, ?_⟩
        dsimp only [k_X5_wish_0, k_X5_wish_1, k_X5_wish_2, k_X5_wish_5, k_X5_wish_8, k_X5_wish_9, k_X5_wish_10, k_X5_wish_13, k_X5_wish_16, k_X5_wish_17, k_X5_wish_18, k_X5_wish_19, k_X5_wish_20, k_X5_wish_21, k_X5_wish_24, k_X5_wish_25, k_X5_wish_26, k_X5_wish_29, k_X5_wish_32, k_X5_wish_33, k_X5_wish_34, k_X5_wish_35, k_X5_wish_37, k_X5_wish_38, k_X5_wish_40, k_X5_wish_43, k_X5_wish_46, k_X5_wish_47, k_X5_wish_48, k_X5_wish_50, k_X5_wish_53, k_X5_wish_56, k_X5_wish_57, k_X5_wish_59, k_X5_wish_61, k_X5_wish_64, k_X5_wish_67, k_X5_wish_68, k_X5_wish_71, k_X5_wish_74, k_X5_wish_76, k_X5_wish_77, k_X5_wish_79, k_X5_wish_80, k_X5_wish_81, k_X5_wish_84, k_X5_wish_86, k_X5_wish_87, k_X5_wish_88, k_X5_wish_91, k_X5_wish_94, k_X5_wish_97, k_X5_wish_100, k_X5_wish_101, k_X5_wish_103, k_X5_wish_105, k_X5_wish_108, k_X5_wish_111, k_X5_wish_112, k_X5_wish_113, k_X5_wish_114, k_X5_wish_115, k_X5_wish_118, k_X5_wish_119, k_X5_wish_120, k_X5_wish_121, k_X5_wish_122, k_X5_wish_124, k_X5_wish_127, k_X5_wish_130, k_X5_wish_132, k_X5_wish_133, k_X5_wish_136, k_X5_wish_139, k_X5_wish_141, wp1, wp_s, cutIn, kont, Nat.reduceSub, Nat.reduceAdd, nth, o_const, o_lconst, o_ref, o_iload, o_lload, o_aload, o_istore, o_lstore, o_astore, o_iinc, o_bin, o_div, o_un, o_lbin, o_lsh, o_lcmp, o_i2l, o_l2i, o_if, o_icmp, o_goto, o_dup, o_dup2, o_pop, fav, o_getf, o_putI, o_putZ, o_putL, o_ald, o_ast, o_alen, popn, rst, o_callV, o_callT, o_callS, swx, o_sw, o_ret, o_iret, o_zret, o_cret, o_lret, o_aret, lg, lput, lput2, ls1, isL, entL, wsum, rdI1, rdI2, rdA1, rdA21, rdA22, rdL1, rdL22, rdL21, upN_at, rep, sh_0, F_0_0, F_0_1, F_0_2, F_0_3, F_0_4, F_0_5, F_0_6, F_0_7, F_0_8, sh_1, F_1_0, F_1_1, F_1_2, F_1_3, F_1_4, F_1_5, sh_3, F_3_0, F_3_1, F_3_2, F_3_3, F_3_4, F_3_5, sh_5, F_5_0, F_5_1, F_5_2, F_5_3, F_5_4, F_5_5, F_5_6, F_5_7, F_5_8, sh_12, F_12_0, F_12_1, F_12_2, F_12_3, F_12_4, F_12_5, sh_14, F_14_0, F_14_1, F_14_2, F_14_3, F_14_4, F_14_5, F_14_6, F_14_7, F_14_8, sh_21, F_21_0, F_21_1, F_21_2, F_21_3, F_21_4, F_21_5, F_21_6, F_21_7, F_21_8, sh_28, F_28_0, F_28_1, F_28_2, F_28_3, F_28_4, F_28_5, F_28_6, F_28_7, F_28_8, sh_35, F_35_0, sh_39, F_39_0, F_39_1, F_39_2, F_39_3, F_39_4, F_39_5, F_39_6, F_39_7, F_39_8, F_39_9, F_39_10, F_39_11, F_39_12, F_39_13, A_2, A_4, A_6, A_7, A_8, A_9, A_10, A_11, A_13, A_15, A_16, A_17, A_18, A_19, A_20, A_22, A_23, A_24, A_25, A_26, A_27, A_29, A_30, A_31, A_32, A_33, A_34, A_36, A_37, A_38, A_40, A_41, A_42, A_43, A_44, A_45, A_46, A_47]
        refine ⟨_, n, c, p, r, h0, lk, rfl, mk_lt _ n, MW_3637 hX0 f b, fun f2 hf2 => ?_⟩
        dsimp only [k_X5_wish_0, k_X5_wish_1, k_X5_wish_2, k_X5_wish_5, k_X5_wish_8, k_X5_wish_9, k_X5_wish_10, k_X5_wish_13, k_X5_wish_16, k_X5_wish_17, k_X5_wish_18, k_X5_wish_19, k_X5_wish_20, k_X5_wish_21, k_X5_wish_24, k_X5_wish_25, k_X5_wish_26, k_X5_wish_29, k_X5_wish_32, k_X5_wish_33, k_X5_wish_34, k_X5_wish_35, k_X5_wish_37, k_X5_wish_38, k_X5_wish_40, k_X5_wish_43, k_X5_wish_46, k_X5_wish_47, k_X5_wish_48, k_X5_wish_50, k_X5_wish_53, k_X5_wish_56, k_X5_wish_57, k_X5_wish_59, k_X5_wish_61, k_X5_wish_64, k_X5_wish_67, k_X5_wish_68, k_X5_wish_71, k_X5_wish_74, k_X5_wish_76, k_X5_wish_77, k_X5_wish_79, k_X5_wish_80, k_X5_wish_81, k_X5_wish_84, k_X5_wish_86, k_X5_wish_87, k_X5_wish_88, k_X5_wish_91, k_X5_wish_94, k_X5_wish_97, k_X5_wish_100, k_X5_wish_101, k_X5_wish_103, k_X5_wish_105, k_X5_wish_108, k_X5_wish_111, k_X5_wish_112, k_X5_wish_113, k_X5_wish_114, k_X5_wish_115, k_X5_wish_118, k_X5_wish_119, k_X5_wish_120, k_X5_wish_121, k_X5_wish_122, k_X5_wish_124, k_X5_wish_127, k_X5_wish_130, k_X5_wish_132, k_X5_wish_133, k_X5_wish_136, k_X5_wish_139, k_X5_wish_141, wp1, wp_s, cutIn, kont, Nat.reduceSub, Nat.reduceAdd, nth, o_const, o_lconst, o_ref, o_iload, o_lload, o_aload, o_istore, o_lstore, o_astore, o_iinc, o_bin, o_div, o_un, o_lbin, o_lsh, o_lcmp, o_i2l, o_l2i, o_if, o_icmp, o_goto, o_dup, o_dup2, o_pop, fav, o_getf, o_putI, o_putZ, o_putL, o_ald, o_ast, o_alen, popn, rst, o_callV, o_callT, o_callS, swx, o_sw, o_ret, o_iret, o_zret, o_cret, o_lret, o_aret, lg, lput, lput2, ls1, isL, entL, wsum, rdI1, rdI2, rdA1, rdA21, rdA22, rdL1, rdL22, rdL21, upN_at, rep, sh_0, F_0_0, F_0_1, F_0_2, F_0_3, F_0_4, F_0_5, F_0_6, F_0_7, F_0_8, sh_1, F_1_0, F_1_1, F_1_2, F_1_3, F_1_4, F_1_5, sh_3, F_3_0, F_3_1, F_3_2, F_3_3, F_3_4, F_3_5, sh_5, F_5_0, F_5_1, F_5_2, F_5_3, F_5_4, F_5_5, F_5_6, F_5_7, F_5_8, sh_12, F_12_0, F_12_1, F_12_2, F_12_3, F_12_4, F_12_5, sh_14, F_14_0, F_14_1, F_14_2, F_14_3, F_14_4, F_14_5, F_14_6, F_14_7, F_14_8, sh_21, F_21_0, F_21_1, F_21_2, F_21_3, F_21_4, F_21_5, F_21_6, F_21_7, F_21_8, sh_28, F_28_0, F_28_1, F_28_2, F_28_3, F_28_4, F_28_5, F_28_6, F_28_7, F_28_8, sh_35, F_35_0, sh_39, F_39_0, F_39_1, F_39_2, F_39_3, F_39_4, F_39_5, F_39_6, F_39_7, F_39_8, F_39_9, F_39_10, F_39_11, F_39_12, F_39_13, A_2, A_4, A_6, A_7, A_8, A_9, A_10, A_11, A_13, A_15, A_16, A_17, A_18, A_19, A_20, A_22, A_23, A_24, A_25, A_26, A_27, A_29, A_30, A_31, A_32, A_33, A_34, A_36, A_37, A_38, A_40, A_41, A_42, A_43, A_44, A_45, A_46, A_47]
        refine cut _ _ ⟨rfl, pp, g, l, f2, b, rfl, hpp, rfl, hg, rfl, hlc, hbit, ?_, Or.inr (Or.inl ⟨rfl, u, 0, hu2, by omega, hb, hf2, fun w hw => absurd hw (by omega), rfl, rfl⟩)⟩ (by omega) ⟨rfl, rfl, rfl, rfl, rfl, rfl, trivial⟩
        simp only [sA_sA, sA_cm, sI_sA, sI_sI, sI_cm, sL_sA, sL_sI, sL_sL, sL_cm, Nat.reduceLT]
      · have e : u = 2 ^ p := by
          rcases Nat.lt_or_ge u (2 ^ p) with g1 | g1
          · exact absurd ⟨nI_pos' (by omega), (nI_ltI (by omega) (by omega)).mpr g1⟩ w1
          · omega
        subst e
        dsimp only [k_X5_wish_0, k_X5_wish_1, k_X5_wish_2, k_X5_wish_5, k_X5_wish_8, k_X5_wish_9, k_X5_wish_10, k_X5_wish_13, k_X5_wish_16, k_X5_wish_17, k_X5_wish_18, k_X5_wish_19, k_X5_wish_20, k_X5_wish_21, k_X5_wish_24, k_X5_wish_25, k_X5_wish_26, k_X5_wish_29, k_X5_wish_32, k_X5_wish_33, k_X5_wish_34, k_X5_wish_35, k_X5_wish_37, k_X5_wish_38, k_X5_wish_40, k_X5_wish_43, k_X5_wish_46, k_X5_wish_47, k_X5_wish_48, k_X5_wish_50, k_X5_wish_53, k_X5_wish_56, k_X5_wish_57, k_X5_wish_59, k_X5_wish_61, k_X5_wish_64, k_X5_wish_67, k_X5_wish_68, k_X5_wish_71, k_X5_wish_74, k_X5_wish_76, k_X5_wish_77, k_X5_wish_79, k_X5_wish_80, k_X5_wish_81, k_X5_wish_84, k_X5_wish_86, k_X5_wish_87, k_X5_wish_88, k_X5_wish_91, k_X5_wish_94, k_X5_wish_97, k_X5_wish_100, k_X5_wish_101, k_X5_wish_103, k_X5_wish_105, k_X5_wish_108, k_X5_wish_111, k_X5_wish_112, k_X5_wish_113, k_X5_wish_114, k_X5_wish_115, k_X5_wish_118, k_X5_wish_119, k_X5_wish_120, k_X5_wish_121, k_X5_wish_122, k_X5_wish_124, k_X5_wish_127, k_X5_wish_130, k_X5_wish_132, k_X5_wish_133, k_X5_wish_136, k_X5_wish_139, k_X5_wish_141, wp1, wp_s, cutIn, kont, Nat.reduceSub, Nat.reduceAdd, nth, o_const, o_lconst, o_ref, o_iload, o_lload, o_aload, o_istore, o_lstore, o_astore, o_iinc, o_bin, o_div, o_un, o_lbin, o_lsh, o_lcmp, o_i2l, o_l2i, o_if, o_icmp, o_goto, o_dup, o_dup2, o_pop, fav, o_getf, o_putI, o_putZ, o_putL, o_ald, o_ast, o_alen, popn, rst, o_callV, o_callT, o_callS, swx, o_sw, o_ret, o_iret, o_zret, o_cret, o_lret, o_aret, lg, lput, lput2, ls1, isL, entL, wsum, rdI1, rdI2, rdA1, rdA21, rdA22, rdL1, rdL22, rdL21, upN_at, rep, sh_0, F_0_0, F_0_1, F_0_2, F_0_3, F_0_4, F_0_5, F_0_6, F_0_7, F_0_8, sh_1, F_1_0, F_1_1, F_1_2, F_1_3, F_1_4, F_1_5, sh_3, F_3_0, F_3_1, F_3_2, F_3_3, F_3_4, F_3_5, sh_5, F_5_0, F_5_1, F_5_2, F_5_3, F_5_4, F_5_5, F_5_6, F_5_7, F_5_8, sh_12, F_12_0, F_12_1, F_12_2, F_12_3, F_12_4, F_12_5, sh_14, F_14_0, F_14_1, F_14_2, F_14_3, F_14_4, F_14_5, F_14_6, F_14_7, F_14_8, sh_21, F_21_0, F_21_1, F_21_2, F_21_3, F_21_4, F_21_5, F_21_6, F_21_7, F_21_8, sh_28, F_28_0, F_28_1, F_28_2, F_28_3, F_28_4, F_28_5, F_28_6, F_28_7, F_28_8, sh_35, F_35_0, sh_39, F_39_0, F_39_1, F_39_2, F_39_3, F_39_4, F_39_5, F_39_6, F_39_7, F_39_8, F_39_9, F_39_10, F_39_11, F_39_12, F_39_13, A_2, A_4, A_6, A_7, A_8, A_9, A_10, A_11, A_13, A_15, A_16, A_17, A_18, A_19, A_20, A_22, A_23, A_24, A_25, A_26, A_27, A_29, A_30, A_31, A_32, A_33, A_34, A_36, A_37, A_38, A_40, A_41, A_42, A_43, A_44, A_45, A_46, A_47]
        simp (config := { decide := true }) only [true_implies, false_implies, and_true, true_and, not_true_eq_false, not_false_eq_true, forall_const]
        exact cut _ _ ⟨rfl, pp, g, l, f, b, rfl, hpp, rfl, hg, rfl, hlc, hbit, rfl, Or.inr (Or.inr ⟨rfl, 0, by omega, hb, fun j hj => absurd hj (by omega), rfl, rfl⟩)⟩ (by omega) ⟨rfl, rfl, rfl, rfl, rfl, trivial⟩
    · dsimp only [k_X5_wish_0, k_X5_wish_1, k_X5_wish_2, k_X5_wish_5, k_X5_wish_8, k_X5_wish_9, k_X5_wish_10, k_X5_wish_13, k_X5_wish_16, k_X5_wish_17, k_X5_wish_18, k_X5_wish_19, k_X5_wish_20, k_X5_wish_21, k_X5_wish_24, k_X5_wish_25, k_X5_wish_26, k_X5_wish_29, k_X5_wish_32, k_X5_wish_33, k_X5_wish_34, k_X5_wish_35, k_X5_wish_37, k_X5_wish_38, k_X5_wish_40, k_X5_wish_43, k_X5_wish_46, k_X5_wish_47, k_X5_wish_48, k_X5_wish_50, k_X5_wish_53, k_X5_wish_56, k_X5_wish_57, k_X5_wish_59, k_X5_wish_61, k_X5_wish_64, k_X5_wish_67, k_X5_wish_68, k_X5_wish_71, k_X5_wish_74, k_X5_wish_76, k_X5_wish_77, k_X5_wish_79, k_X5_wish_80, k_X5_wish_81, k_X5_wish_84, k_X5_wish_86, k_X5_wish_87, k_X5_wish_88, k_X5_wish_91, k_X5_wish_94, k_X5_wish_97, k_X5_wish_100, k_X5_wish_101, k_X5_wish_103, k_X5_wish_105, k_X5_wish_108, k_X5_wish_111, k_X5_wish_112, k_X5_wish_113, k_X5_wish_114, k_X5_wish_115, k_X5_wish_118, k_X5_wish_119, k_X5_wish_120, k_X5_wish_121, k_X5_wish_122, k_X5_wish_124, k_X5_wish_127, k_X5_wish_130, k_X5_wish_132, k_X5_wish_133, k_X5_wish_136, k_X5_wish_139, k_X5_wish_141, wp1, wp_s, cutIn, kont, Nat.reduceSub, Nat.reduceAdd, nth, o_const, o_lconst, o_ref, o_iload, o_lload, o_aload, o_istore, o_lstore, o_astore, o_iinc, o_bin, o_div, o_un, o_lbin, o_lsh, o_lcmp, o_i2l, o_l2i, o_if, o_icmp, o_goto, o_dup, o_dup2, o_pop, fav, o_getf, o_putI, o_putZ, o_putL, o_ald, o_ast, o_alen, popn, rst, o_callV, o_callT, o_callS, swx, o_sw, o_ret, o_iret, o_zret, o_cret, o_lret, o_aret, lg, lput, lput2, ls1, isL, entL, wsum, rdI1, rdI2, rdA1, rdA21, rdA22, rdL1, rdL22, rdL21, upN_at, rep, sh_0, F_0_0, F_0_1, F_0_2, F_0_3, F_0_4, F_0_5, F_0_6, F_0_7, F_0_8, sh_1, F_1_0, F_1_1, F_1_2, F_1_3, F_1_4, F_1_5, sh_3, F_3_0, F_3_1, F_3_2, F_3_3, F_3_4, F_3_5, sh_5, F_5_0, F_5_1, F_5_2, F_5_3, F_5_4, F_5_5, F_5_6, F_5_7, F_5_8, sh_12, F_12_0, F_12_1, F_12_2, F_12_3, F_12_4, F_12_5, sh_14, F_14_0, F_14_1, F_14_2, F_14_3, F_14_4, F_14_5, F_14_6, F_14_7, F_14_8, sh_21, F_21_0, F_21_1, F_21_2, F_21_3, F_21_4, F_21_5, F_21_6, F_21_7, F_21_8, sh_28, F_28_0, F_28_1, F_28_2, F_28_3, F_28_4, F_28_5, F_28_6, F_28_7, F_28_8, sh_35, F_35_0, sh_39, F_39_0, F_39_1, F_39_2, F_39_3, F_39_4, F_39_5, F_39_6, F_39_7, F_39_8, F_39_9, F_39_10, F_39_11, F_39_12, F_39_13, A_2, A_4, A_6, A_7, A_8, A_9, A_10, A_11, A_13, A_15, A_16, A_17, A_18, A_19, A_20, A_22, A_23, A_24, A_25, A_26, A_27, A_29, A_30, A_31, A_32, A_33, A_34, A_36, A_37, A_38, A_40, A_41, A_42, A_43, A_44, A_45, A_46, A_47]
      rw [show (512 : Int32) = nI 512 from rfl]
      simp (disch := omega) only [nI_leI, nI_ltI, nI_eq, nI_1, nI_add, one_shl, nI_or, nI_xor, nI_and, bit_0, bit_1, true_or, or_true, true_and, and_true, eq_self, not_true_eq_false, not_false_eq_true, forall_const]
      refine ⟨fun w1 => ?_, fun w1 => ⟨i, by omega, rfl, 512 * u + i, by omega, by rw [pk_mul, nI_add], cut _ _ ⟨rfl, pp, g, l, f, upd b (512 * u + i) (f i), rfl, hpp, rfl, hg, rfl, hlc, hbit, ?_, Or.inr (Or.inl ⟨rfl, u, i + 1, hu, by omega, ?_, hm, fun w hw2 => ?_, rfl, rfl⟩)⟩ (by omega) ⟨rfl, rfl, rfl, rfl, rfl, by first | rfl | exact vi_eq (nI_1 _), trivial⟩⟩⟩
      · have e : i = 512 := by omega
        subst e
        exact cut _ _ ⟨rfl, pp, g, l, f, b, rfl, hpp, rfl, hg, rfl, hlc, hbit, rfl, Or.inl ⟨rfl, u + 1, by omega, gmB_s hb hw, rfl, rfl⟩⟩ (by omega) ⟨rfl, rfl, rfl, rfl, by first | rfl | exact vi_eq (nI_1 _), trivial⟩
      · obtain ⟨m1, m2⟩ := hm i (by omega)
        have e : vp_nar .boolean (f i) = f i := by
          by_cases q : rs (fsp r (hd h0 u p n) n) i 9 = 0
          · rw [m1 q]; rfl
          · rw [m2 q]; rfl
        simp only [sA_sA, sA_cm, sI_sA, sI_sI, sI_cm, sL_sA, sL_sI, sL_sL, sL_cm, Nat.reduceLT]
        rw [e]
      · intro u' hu' w hw2
        rw [upd_n _ _ (by omega)]
        exact hb u' hu' w hw2
      · by_cases q : w = i
        · rw [q, upd_s]
          exact hm i (by omega)
        · rw [upd_n _ _ (by omega)]
          exact hw w (by omega)
    · obtain ⟨k1, k2⟩ := h2 pp g l rfl hpp rfl (and_p.mpr hg) rfl hlc hbit
      have ll := (hl l hlc).2
      dsimp only [k_X5_wish_0, k_X5_wish_1, k_X5_wish_2, k_X5_wish_5, k_X5_wish_8, k_X5_wish_9, k_X5_wish_10, k_X5_wish_13, k_X5_wish_16, k_X5_wish_17, k_X5_wish_18, k_X5_wish_19, k_X5_wish_20, k_X5_wish_21, k_X5_wish_24, k_X5_wish_25, k_X5_wish_26, k_X5_wish_29, k_X5_wish_32, k_X5_wish_33, k_X5_wish_34, k_X5_wish_35, k_X5_wish_37, k_X5_wish_38, k_X5_wish_40, k_X5_wish_43, k_X5_wish_46, k_X5_wish_47, k_X5_wish_48, k_X5_wish_50, k_X5_wish_53, k_X5_wish_56, k_X5_wish_57, k_X5_wish_59, k_X5_wish_61, k_X5_wish_64, k_X5_wish_67, k_X5_wish_68, k_X5_wish_71, k_X5_wish_74, k_X5_wish_76, k_X5_wish_77, k_X5_wish_79, k_X5_wish_80, k_X5_wish_81, k_X5_wish_84, k_X5_wish_86, k_X5_wish_87, k_X5_wish_88, k_X5_wish_91, k_X5_wish_94, k_X5_wish_97, k_X5_wish_100, k_X5_wish_101, k_X5_wish_103, k_X5_wish_105, k_X5_wish_108, k_X5_wish_111, k_X5_wish_112, k_X5_wish_113, k_X5_wish_114, k_X5_wish_115, k_X5_wish_118, k_X5_wish_119, k_X5_wish_120, k_X5_wish_121, k_X5_wish_122, k_X5_wish_124, k_X5_wish_127, k_X5_wish_130, k_X5_wish_132, k_X5_wish_133, k_X5_wish_136, k_X5_wish_139, k_X5_wish_141, wp1, wp_s, cutIn, kont, Nat.reduceSub, Nat.reduceAdd, nth, o_const, o_lconst, o_ref, o_iload, o_lload, o_aload, o_istore, o_lstore, o_astore, o_iinc, o_bin, o_div, o_un, o_lbin, o_lsh, o_lcmp, o_i2l, o_l2i, o_if, o_icmp, o_goto, o_dup, o_dup2, o_pop, fav, o_getf, o_putI, o_putZ, o_putL, o_ald, o_ast, o_alen, popn, rst, o_callV, o_callT, o_callS, swx, o_sw, o_ret, o_iret, o_zret, o_cret, o_lret, o_aret, lg, lput, lput2, ls1, isL, entL, wsum, rdI1, rdI2, rdA1, rdA21, rdA22, rdL1, rdL22, rdL21, upN_at, rep, sh_0, F_0_0, F_0_1, F_0_2, F_0_3, F_0_4, F_0_5, F_0_6, F_0_7, F_0_8, sh_1, F_1_0, F_1_1, F_1_2, F_1_3, F_1_4, F_1_5, sh_3, F_3_0, F_3_1, F_3_2, F_3_3, F_3_4, F_3_5, sh_5, F_5_0, F_5_1, F_5_2, F_5_3, F_5_4, F_5_5, F_5_6, F_5_7, F_5_8, sh_12, F_12_0, F_12_1, F_12_2, F_12_3, F_12_4, F_12_5, sh_14, F_14_0, F_14_1, F_14_2, F_14_3, F_14_4, F_14_5, F_14_6, F_14_7, F_14_8, sh_21, F_21_0, F_21_1, F_21_2, F_21_3, F_21_4, F_21_5, F_21_6, F_21_7, F_21_8, sh_28, F_28_0, F_28_1, F_28_2, F_28_3, F_28_4, F_28_5, F_28_6, F_28_7, F_28_8, sh_35, F_35_0, sh_39, F_39_0, F_39_1, F_39_2, F_39_3, F_39_4, F_39_5, F_39_6, F_39_7, F_39_8, F_39_9, F_39_10, F_39_11, F_39_12, F_39_13, A_2, A_4, A_6, A_7, A_8, A_9, A_10, A_11, A_13, A_15, A_16, A_17, A_18, A_19, A_20, A_22, A_23, A_24, A_25, A_26, A_27, A_29, A_30, A_31, A_32, A_33, A_34, A_36, A_37, A_38, A_40, A_41, A_42, A_43, A_44, A_45, A_46, A_47]
      rw [show (512 : Int32) = nI 512 from rfl]
      simp (disch := omega) only [nI_leI, nI_ltI, nI_eq, nI_1, nI_add, one_shl, nI_or, nI_xor, nI_and, bit_0, bit_1, true_or, or_true, true_and, and_true, eq_self, not_true_eq_false, not_false_eq_true, forall_const]
      refine ⟨fun w1 => k2 (fun row hrow => hno row (by omega)) f b, fun w1 => ⟨4 + l, by omega, by first | rfl | exact nI_add 4 l, ?_⟩⟩
      rw [(hl l hlc).1]
      refine ⟨pp, g, lk l, i, n, c, p, r, h0, lk, rfl, hpp, hg, ll, by omega, MW_3637 hX0 f b, hb, fun w2 => ?_, fun w2 => ?_⟩
      · dsimp only [k_X5_wish_0, k_X5_wish_1, k_X5_wish_2, k_X5_wish_5, k_X5_wish_8, k_X5_wish_9, k_X5_wish_10, k_X5_wish_13, k_X5_wish_16, k_X5_wish_17, k_X5_wish_18, k_X5_wish_19, k_X5_wish_20, k_X5_wish_21, k_X5_wish_24, k_X5_wish_25, k_X5_wish_26, k_X5_wish_29, k_X5_wish_32, k_X5_wish_33, k_X5_wish_34, k_X5_wish_35, k_X5_wish_37, k_X5_wish_38, k_X5_wish_40, k_X5_wish_43, k_X5_wish_46, k_X5_wish_47, k_X5_wish_48, k_X5_wish_50, k_X5_wish_53, k_X5_wish_56, k_X5_wish_57, k_X5_wish_59, k_X5_wish_61, k_X5_wish_64, k_X5_wish_67, k_X5_wish_68, k_X5_wish_71, k_X5_wish_74, k_X5_wish_76, k_X5_wish_77, k_X5_wish_79, k_X5_wish_80, k_X5_wish_81, k_X5_wish_84, k_X5_wish_86, k_X5_wish_87, k_X5_wish_88, k_X5_wish_91, k_X5_wish_94, k_X5_wish_97, k_X5_wish_100, k_X5_wish_101, k_X5_wish_103, k_X5_wish_105, k_X5_wish_108, k_X5_wish_111, k_X5_wish_112, k_X5_wish_113, k_X5_wish_114, k_X5_wish_115, k_X5_wish_118, k_X5_wish_119, k_X5_wish_120, k_X5_wish_121, k_X5_wish_122, k_X5_wish_124, k_X5_wish_127, k_X5_wish_130, k_X5_wish_132, k_X5_wish_133, k_X5_wish_136, k_X5_wish_139, k_X5_wish_141, wp1, wp_s, cutIn, kont, Nat.reduceSub, Nat.reduceAdd, nth, o_const, o_lconst, o_ref, o_iload, o_lload, o_aload, o_istore, o_lstore, o_astore, o_iinc, o_bin, o_div, o_un, o_lbin, o_lsh, o_lcmp, o_i2l, o_l2i, o_if, o_icmp, o_goto, o_dup, o_dup2, o_pop, fav, o_getf, o_putI, o_putZ, o_putL, o_ald, o_ast, o_alen, popn, rst, o_callV, o_callT, o_callS, swx, o_sw, o_ret, o_iret, o_zret, o_cret, o_lret, o_aret, lg, lput, lput2, ls1, isL, entL, wsum, rdI1, rdI2, rdA1, rdA21, rdA22, rdL1, rdL22, rdL21, upN_at, rep, sh_0, F_0_0, F_0_1, F_0_2, F_0_3, F_0_4, F_0_5, F_0_6, F_0_7, F_0_8, sh_1, F_1_0, F_1_1, F_1_2, F_1_3, F_1_4, F_1_5, sh_3, F_3_0, F_3_1, F_3_2, F_3_3, F_3_4, F_3_5, sh_5, F_5_0, F_5_1, F_5_2, F_5_3, F_5_4, F_5_5, F_5_6, F_5_7, F_5_8, sh_12, F_12_0, F_12_1, F_12_2, F_12_3, F_12_4, F_12_5, sh_14, F_14_0, F_14_1, F_14_2, F_14_3, F_14_4, F_14_5, F_14_6, F_14_7, F_14_8, sh_21, F_21_0, F_21_1, F_21_2, F_21_3, F_21_4, F_21_5, F_21_6, F_21_7, F_21_8, sh_28, F_28_0, F_28_1, F_28_2, F_28_3, F_28_4, F_28_5, F_28_6, F_28_7, F_28_8, sh_35, F_35_0, sh_39, F_39_0, F_39_1, F_39_2, F_39_3, F_39_4, F_39_5, F_39_6, F_39_7, F_39_8, F_39_9, F_39_10, F_39_11, F_39_12, F_39_13, A_2, A_4, A_6, A_7, A_8, A_9, A_10, A_11, A_13, A_15, A_16, A_17, A_18, A_19, A_20, A_22, A_23, A_24, A_25, A_26, A_27, A_29, A_30, A_31, A_32, A_33, A_34, A_36, A_37, A_38, A_40, A_41, A_42, A_43, A_44, A_45, A_46, A_47]
        simp (config := { decide := true }) only [true_implies, false_implies, and_true, true_and, not_true_eq_false, not_false_eq_true, forall_const]
        exact k1 i (by omega) ((gn_GR hrl hg hbit).mp w2) hno f b
      · dsimp only [k_X5_wish_0, k_X5_wish_1, k_X5_wish_2, k_X5_wish_5, k_X5_wish_8, k_X5_wish_9, k_X5_wish_10, k_X5_wish_13, k_X5_wish_16, k_X5_wish_17, k_X5_wish_18, k_X5_wish_19, k_X5_wish_20, k_X5_wish_21, k_X5_wish_24, k_X5_wish_25, k_X5_wish_26, k_X5_wish_29, k_X5_wish_32, k_X5_wish_33, k_X5_wish_34, k_X5_wish_35, k_X5_wish_37, k_X5_wish_38, k_X5_wish_40, k_X5_wish_43, k_X5_wish_46, k_X5_wish_47, k_X5_wish_48, k_X5_wish_50, k_X5_wish_53, k_X5_wish_56, k_X5_wish_57, k_X5_wish_59, k_X5_wish_61, k_X5_wish_64, k_X5_wish_67, k_X5_wish_68, k_X5_wish_71, k_X5_wish_74, k_X5_wish_76, k_X5_wish_77, k_X5_wish_79, k_X5_wish_80, k_X5_wish_81, k_X5_wish_84, k_X5_wish_86, k_X5_wish_87, k_X5_wish_88, k_X5_wish_91, k_X5_wish_94, k_X5_wish_97, k_X5_wish_100, k_X5_wish_101, k_X5_wish_103, k_X5_wish_105, k_X5_wish_108, k_X5_wish_111, k_X5_wish_112, k_X5_wish_113, k_X5_wish_114, k_X5_wish_115, k_X5_wish_118, k_X5_wish_119, k_X5_wish_120, k_X5_wish_121, k_X5_wish_122, k_X5_wish_124, k_X5_wish_127, k_X5_wish_130, k_X5_wish_132, k_X5_wish_133, k_X5_wish_136, k_X5_wish_139, k_X5_wish_141, wp1, wp_s, cutIn, kont, Nat.reduceSub, Nat.reduceAdd, nth, o_const, o_lconst, o_ref, o_iload, o_lload, o_aload, o_istore, o_lstore, o_astore, o_iinc, o_bin, o_div, o_un, o_lbin, o_lsh, o_lcmp, o_i2l, o_l2i, o_if, o_icmp, o_goto, o_dup, o_dup2, o_pop, fav, o_getf, o_putI, o_putZ, o_putL, o_ald, o_ast, o_alen, popn, rst, o_callV, o_callT, o_callS, swx, o_sw, o_ret, o_iret, o_zret, o_cret, o_lret, o_aret, lg, lput, lput2, ls1, isL, entL, wsum, rdI1, rdI2, rdA1, rdA21, rdA22, rdL1, rdL22, rdL21, upN_at, rep, sh_0, F_0_0, F_0_1, F_0_2, F_0_3, F_0_4, F_0_5, F_0_6, F_0_7, F_0_8, sh_1, F_1_0, F_1_1, F_1_2, F_1_3, F_1_4, F_1_5, sh_3, F_3_0, F_3_1, F_3_2, F_3_3, F_3_4, F_3_5, sh_5, F_5_0, F_5_1, F_5_2, F_5_3, F_5_4, F_5_5, F_5_6, F_5_7, F_5_8, sh_12, F_12_0, F_12_1, F_12_2, F_12_3, F_12_4, F_12_5, sh_14, F_14_0, F_14_1, F_14_2, F_14_3, F_14_4, F_14_5, F_14_6, F_14_7, F_14_8, sh_21, F_21_0, F_21_1, F_21_2, F_21_3, F_21_4, F_21_5, F_21_6, F_21_7, F_21_8, sh_28, F_28_0, F_28_1, F_28_2, F_28_3, F_28_4, F_28_5, F_28_6, F_28_7, F_28_8, sh_35, F_35_0, sh_39, F_39_0, F_39_1, F_39_2, F_39_3, F_39_4, F_39_5, F_39_6, F_39_7, F_39_8, F_39_9, F_39_10, F_39_11, F_39_12, F_39_13, A_2, A_4, A_6, A_7, A_8, A_9, A_10, A_11, A_13, A_15, A_16, A_17, A_18, A_19, A_20, A_22, A_23, A_24, A_25, A_26, A_27, A_29, A_30, A_31, A_32, A_33, A_34, A_36, A_37, A_38, A_40, A_41, A_42, A_43, A_44, A_45, A_46, A_47]
        simp (config := { decide := true }) only [true_implies, false_implies, and_true, true_and, not_true_eq_false, not_false_eq_true, forall_const]
        refine cut _ _ ⟨rfl, pp, g, l, f, b, rfl, hpp, rfl, hg, rfl, hlc, hbit, rfl, Or.inr (Or.inr ⟨rfl, i + 1, by omega, hb, fun j hj => ?_, rfl, rfl⟩)⟩ (by omega) ⟨rfl, rfl, rfl, rfl, by first | rfl | exact vi_eq (nI_1 _), trivial⟩
        rcases Nat.lt_or_ge j i with g1 | g1
        · exact hno j g1
        · rw [show j = i by omega]
          exact fun e => w2 ((gn_GR hrl hg hbit).mpr e)
  · dsimp only [k_X5_wish_0, k_X5_wish_1, k_X5_wish_2, k_X5_wish_5, k_X5_wish_8, k_X5_wish_9, k_X5_wish_10, k_X5_wish_13, k_X5_wish_16, k_X5_wish_17, k_X5_wish_18, k_X5_wish_19, k_X5_wish_20, k_X5_wish_21, k_X5_wish_24, k_X5_wish_25, k_X5_wish_26, k_X5_wish_29, k_X5_wish_32, k_X5_wish_33, k_X5_wish_34, k_X5_wish_35, k_X5_wish_37, k_X5_wish_38, k_X5_wish_40, k_X5_wish_43, k_X5_wish_46, k_X5_wish_47, k_X5_wish_48, k_X5_wish_50, k_X5_wish_53, k_X5_wish_56, k_X5_wish_57, k_X5_wish_59, k_X5_wish_61, k_X5_wish_64, k_X5_wish_67, k_X5_wish_68, k_X5_wish_71, k_X5_wish_74, k_X5_wish_76, k_X5_wish_77, k_X5_wish_79, k_X5_wish_80, k_X5_wish_81, k_X5_wish_84, k_X5_wish_86, k_X5_wish_87, k_X5_wish_88, k_X5_wish_91, k_X5_wish_94, k_X5_wish_97, k_X5_wish_100, k_X5_wish_101, k_X5_wish_103, k_X5_wish_105, k_X5_wish_108, k_X5_wish_111, k_X5_wish_112, k_X5_wish_113, k_X5_wish_114, k_X5_wish_115, k_X5_wish_118, k_X5_wish_119, k_X5_wish_120, k_X5_wish_121, k_X5_wish_122, k_X5_wish_124, k_X5_wish_127, k_X5_wish_130, k_X5_wish_132, k_X5_wish_133, k_X5_wish_136, k_X5_wish_139, k_X5_wish_141, wp1, wp_s, cutIn, kont, Nat.reduceSub, Nat.reduceAdd, nth, o_const, o_lconst, o_ref, o_iload, o_lload, o_aload, o_istore, o_lstore, o_astore, o_iinc, o_bin, o_div, o_un, o_lbin, o_lsh, o_lcmp, o_i2l, o_l2i, o_if, o_icmp, o_goto, o_dup, o_dup2, o_pop, fav, o_getf, o_putI, o_putZ, o_putL, o_ald, o_ast, o_alen, popn, rst, o_callV, o_callT, o_callS, swx, o_sw, o_ret, o_iret, o_zret, o_cret, o_lret, o_aret, lg, lput, lput2, ls1, isL, entL, wsum, rdI1, rdI2, rdA1, rdA21, rdA22, rdL1, rdL22, rdL21, upN_at, rep, sh_0, F_0_0, F_0_1, F_0_2, F_0_3, F_0_4, F_0_5, F_0_6, F_0_7, F_0_8, sh_1, F_1_0, F_1_1, F_1_2, F_1_3, F_1_4, F_1_5, sh_3, F_3_0, F_3_1, F_3_2, F_3_3, F_3_4, F_3_5, sh_5, F_5_0, F_5_1, F_5_2, F_5_3, F_5_4, F_5_5, F_5_6, F_5_7, F_5_8, sh_12, F_12_0, F_12_1, F_12_2, F_12_3, F_12_4, F_12_5, sh_14, F_14_0, F_14_1, F_14_2, F_14_3, F_14_4, F_14_5, F_14_6, F_14_7, F_14_8, sh_21, F_21_0, F_21_1, F_21_2, F_21_3, F_21_4, F_21_5, F_21_6, F_21_7, F_21_8, sh_28, F_28_0, F_28_1, F_28_2, F_28_3, F_28_4, F_28_5, F_28_6, F_28_7, F_28_8, sh_35, F_35_0, sh_39, F_39_0, F_39_1, F_39_2, F_39_3, F_39_4, F_39_5, F_39_6, F_39_7, F_39_8, F_39_9, F_39_10, F_39_11, F_39_12, F_39_13, A_2, A_4, A_6, A_7, A_8, A_9, A_10, A_11, A_13, A_15, A_16, A_17, A_18, A_19, A_20, A_22, A_23, A_24, A_25, A_26, A_27, A_29, A_30, A_31, A_32, A_33, A_34, A_36, A_37, A_38, A_40, A_41, A_42, A_43, A_44, A_45, A_46, A_47]
    refine ⟨x, n, c, p, r, h0, lk, rfl, hX0, fun w1 => ?_, fun w1 => ?_⟩
    · obtain ⟨pp, rfl, hpp⟩ := rg (by omega) w1
      dsimp only [k_X5_wish_0, k_X5_wish_1, k_X5_wish_2, k_X5_wish_5, k_X5_wish_8, k_X5_wish_9, k_X5_wish_10, k_X5_wish_13, k_X5_wish_16, k_X5_wish_17, k_X5_wish_18, k_X5_wish_19, k_X5_wish_20, k_X5_wish_21, k_X5_wish_24, k_X5_wish_25, k_X5_wish_26, k_X5_wish_29, k_X5_wish_32, k_X5_wish_33, k_X5_wish_34, k_X5_wish_35, k_X5_wish_37, k_X5_wish_38, k_X5_wish_40, k_X5_wish_43, k_X5_wish_46, k_X5_wish_47, k_X5_wish_48, k_X5_wish_50, k_X5_wish_53, k_X5_wish_56, k_X5_wish_57, k_X5_wish_59, k_X5_wish_61, k_X5_wish_64, k_X5_wish_67, k_X5_wish_68, k_X5_wish_71, k_X5_wish_74, k_X5_wish_76, k_X5_wish_77, k_X5_wish_79, k_X5_wish_80, k_X5_wish_81, k_X5_wish_84, k_X5_wish_86, k_X5_wish_87, k_X5_wish_88, k_X5_wish_91, k_X5_wish_94, k_X5_wish_97, k_X5_wish_100, k_X5_wish_101, k_X5_wish_103, k_X5_wish_105, k_X5_wish_108, k_X5_wish_111, k_X5_wish_112, k_X5_wish_113, k_X5_wish_114, k_X5_wish_115, k_X5_wish_118, k_X5_wish_119, k_X5_wish_120, k_X5_wish_121, k_X5_wish_122, k_X5_wish_124, k_X5_wish_127, k_X5_wish_130, k_X5_wish_132, k_X5_wish_133, k_X5_wish_136, k_X5_wish_139, k_X5_wish_141, wp1, wp_s, cutIn, kont, Nat.reduceSub, Nat.reduceAdd, nth, o_const, o_lconst, o_ref, o_iload, o_lload, o_aload, o_istore, o_lstore, o_astore, o_iinc, o_bin, o_div, o_un, o_lbin, o_lsh, o_lcmp, o_i2l, o_l2i, o_if, o_icmp, o_goto, o_dup, o_dup2, o_pop, fav, o_getf, o_putI, o_putZ, o_putL, o_ald, o_ast, o_alen, popn, rst, o_callV, o_callT, o_callS, swx, o_sw, o_ret, o_iret, o_zret, o_cret, o_lret, o_aret, lg, lput, lput2, ls1, isL, entL, wsum, rdI1, rdI2, rdA1, rdA21, rdA22, rdL1, rdL22, rdL21, upN_at, rep, sh_0, F_0_0, F_0_1, F_0_2, F_0_3, F_0_4, F_0_5, F_0_6, F_0_7, F_0_8, sh_1, F_1_0, F_1_1, F_1_2, F_1_3, F_1_4, F_1_5, sh_3, F_3_0, F_3_1, F_3_2, F_3_3, F_3_4, F_3_5, sh_5, F_5_0, F_5_1, F_5_2, F_5_3, F_5_4, F_5_5, F_5_6, F_5_7, F_5_8, sh_12, F_12_0, F_12_1, F_12_2, F_12_3, F_12_4, F_12_5, sh_14, F_14_0, F_14_1, F_14_2, F_14_3, F_14_4, F_14_5, F_14_6, F_14_7, F_14_8, sh_21, F_21_0, F_21_1, F_21_2, F_21_3, F_21_4, F_21_5, F_21_6, F_21_7, F_21_8, sh_28, F_28_0, F_28_1, F_28_2, F_28_3, F_28_4, F_28_5, F_28_6, F_28_7, F_28_8, sh_35, F_35_0, sh_39, F_39_0, F_39_1, F_39_2, F_39_3, F_39_4, F_39_5, F_39_6, F_39_7, F_39_8, F_39_9, F_39_10, F_39_11, F_39_12, F_39_13, A_2, A_4, A_6, A_7, A_8, A_9, A_10, A_11, A_13, A_15, A_16, A_17, A_18, A_19, A_20, A_22, A_23, A_24, A_25, A_26, A_27, A_29, A_30, A_31, A_32, A_33, A_34, A_36, A_37, A_38, A_40, A_41, A_42, A_43, A_44, A_45, A_46, A_47]
      simp (config := { decide := true }) only [true_implies, false_implies, and_true, true_and, not_true_eq_false, not_false_eq_true, forall_const]
      refine ⟨y, n, c, p, r, h0, lk, rfl, hX0, fun w2 => ?_, fun w2 => ?_⟩
      · obtain ⟨g, rfl, hg⟩ := rg (by omega) w2
        dsimp only [k_X5_wish_0, k_X5_wish_1, k_X5_wish_2, k_X5_wish_5, k_X5_wish_8, k_X5_wish_9, k_X5_wish_10, k_X5_wish_13, k_X5_wish_16, k_X5_wish_17, k_X5_wish_18, k_X5_wish_19, k_X5_wish_20, k_X5_wish_21, k_X5_wish_24, k_X5_wish_25, k_X5_wish_26, k_X5_wish_29, k_X5_wish_32, k_X5_wish_33, k_X5_wish_34, k_X5_wish_35, k_X5_wish_37, k_X5_wish_38, k_X5_wish_40, k_X5_wish_43, k_X5_wish_46, k_X5_wish_47, k_X5_wish_48, k_X5_wish_50, k_X5_wish_53, k_X5_wish_56, k_X5_wish_57, k_X5_wish_59, k_X5_wish_61, k_X5_wish_64, k_X5_wish_67, k_X5_wish_68, k_X5_wish_71, k_X5_wish_74, k_X5_wish_76, k_X5_wish_77, k_X5_wish_79, k_X5_wish_80, k_X5_wish_81, k_X5_wish_84, k_X5_wish_86, k_X5_wish_87, k_X5_wish_88, k_X5_wish_91, k_X5_wish_94, k_X5_wish_97, k_X5_wish_100, k_X5_wish_101, k_X5_wish_103, k_X5_wish_105, k_X5_wish_108, k_X5_wish_111, k_X5_wish_112, k_X5_wish_113, k_X5_wish_114, k_X5_wish_115, k_X5_wish_118, k_X5_wish_119, k_X5_wish_120, k_X5_wish_121, k_X5_wish_122, k_X5_wish_124, k_X5_wish_127, k_X5_wish_130, k_X5_wish_132, k_X5_wish_133, k_X5_wish_136, k_X5_wish_139, k_X5_wish_141, wp1, wp_s, cutIn, kont, Nat.reduceSub, Nat.reduceAdd, nth, o_const, o_lconst, o_ref, o_iload, o_lload, o_aload, o_istore, o_lstore, o_astore, o_iinc, o_bin, o_div, o_un, o_lbin, o_lsh, o_lcmp, o_i2l, o_l2i, o_if, o_icmp, o_goto, o_dup, o_dup2, o_pop, fav, o_getf, o_putI, o_putZ, o_putL, o_ald, o_ast, o_alen, popn, rst, o_callV, o_callT, o_callS, swx, o_sw, o_ret, o_iret, o_zret, o_cret, o_lret, o_aret, lg, lput, lput2, ls1, isL, entL, wsum, rdI1, rdI2, rdA1, rdA21, rdA22, rdL1, rdL22, rdL21, upN_at, rep, sh_0, F_0_0, F_0_1, F_0_2, F_0_3, F_0_4, F_0_5, F_0_6, F_0_7, F_0_8, sh_1, F_1_0, F_1_1, F_1_2, F_1_3, F_1_4, F_1_5, sh_3, F_3_0, F_3_1, F_3_2, F_3_3, F_3_4, F_3_5, sh_5, F_5_0, F_5_1, F_5_2, F_5_3, F_5_4, F_5_5, F_5_6, F_5_7, F_5_8, sh_12, F_12_0, F_12_1, F_12_2, F_12_3, F_12_4, F_12_5, sh_14, F_14_0, F_14_1, F_14_2, F_14_3, F_14_4, F_14_5, F_14_6, F_14_7, F_14_8, sh_21, F_21_0, F_21_1, F_21_2, F_21_3, F_21_4, F_21_5, F_21_6, F_21_7, F_21_8, sh_28, F_28_0, F_28_1, F_28_2, F_28_3, F_28_4, F_28_5, F_28_6, F_28_7, F_28_8, sh_35, F_35_0, sh_39, F_39_0, F_39_1, F_39_2, F_39_3, F_39_4, F_39_5, F_39_6, F_39_7, F_39_8, F_39_9, F_39_10, F_39_11, F_39_12, F_39_13, A_2, A_4, A_6, A_7, A_8, A_9, A_10, A_11, A_13, A_15, A_16, A_17, A_18, A_19, A_20, A_22, A_23, A_24, A_25, A_26, A_27, A_29, A_30, A_31, A_32, A_33, A_34, A_36, A_37, A_38, A_40, A_41, A_42, A_43, A_44, A_45, A_46, A_47]
        simp (config := { decide := true }) only [true_implies, false_implies, and_true, true_and, not_true_eq_false, not_false_eq_true, forall_const]
        rw [bit_0 (by omega) (by omega)]
        refine ⟨fun w3 => h1 fun pp' g' l' e1 e2 e3 e4 e5 e6 => ?_, fun w3 => ⟨z, n, c, p, r, h0, lk, rfl, hX0, fun w4 => ?_, fun w4 => ?_⟩⟩
        · have e7 := nI_inj (by omega) (by omega) e1
          have e9 := and_p.mp e4
          have e8 := nI_inj (by omega) (by omega) e3
          rw [← e7, ← e8]; exact w3
        · obtain ⟨l, rfl, hlc⟩ := rg (by omega) w4
          dsimp only [k_X5_wish_0, k_X5_wish_1, k_X5_wish_2, k_X5_wish_5, k_X5_wish_8, k_X5_wish_9, k_X5_wish_10, k_X5_wish_13, k_X5_wish_16, k_X5_wish_17, k_X5_wish_18, k_X5_wish_19, k_X5_wish_20, k_X5_wish_21, k_X5_wish_24, k_X5_wish_25, k_X5_wish_26, k_X5_wish_29, k_X5_wish_32, k_X5_wish_33, k_X5_wish_34, k_X5_wish_35, k_X5_wish_37, k_X5_wish_38, k_X5_wish_40, k_X5_wish_43, k_X5_wish_46, k_X5_wish_47, k_X5_wish_48, k_X5_wish_50, k_X5_wish_53, k_X5_wish_56, k_X5_wish_57, k_X5_wish_59, k_X5_wish_61, k_X5_wish_64, k_X5_wish_67, k_X5_wish_68, k_X5_wish_71, k_X5_wish_74, k_X5_wish_76, k_X5_wish_77, k_X5_wish_79, k_X5_wish_80, k_X5_wish_81, k_X5_wish_84, k_X5_wish_86, k_X5_wish_87, k_X5_wish_88, k_X5_wish_91, k_X5_wish_94, k_X5_wish_97, k_X5_wish_100, k_X5_wish_101, k_X5_wish_103, k_X5_wish_105, k_X5_wish_108, k_X5_wish_111, k_X5_wish_112, k_X5_wish_113, k_X5_wish_114, k_X5_wish_115, k_X5_wish_118, k_X5_wish_119, k_X5_wish_120, k_X5_wish_121, k_X5_wish_122, k_X5_wish_124, k_X5_wish_127, k_X5_wish_130, k_X5_wish_132, k_X5_wish_133, k_X5_wish_136, k_X5_wish_139, k_X5_wish_141, wp1, wp_s, cutIn, kont, Nat.reduceSub, Nat.reduceAdd, nth, o_const, o_lconst, o_ref, o_iload, o_lload, o_aload, o_istore, o_lstore, o_astore, o_iinc, o_bin, o_div, o_un, o_lbin, o_lsh, o_lcmp, o_i2l, o_l2i, o_if, o_icmp, o_goto, o_dup, o_dup2, o_pop, fav, o_getf, o_putI, o_putZ, o_putL, o_ald, o_ast, o_alen, popn, rst, o_callV, o_callT, o_callS, swx, o_sw, o_ret, o_iret, o_zret, o_cret, o_lret, o_aret, lg, lput, lput2, ls1, isL, entL, wsum, rdI1, rdI2, rdA1, rdA21, rdA22, rdL1, rdL22, rdL21, upN_at, rep, sh_0, F_0_0, F_0_1, F_0_2, F_0_3, F_0_4, F_0_5, F_0_6, F_0_7, F_0_8, sh_1, F_1_0, F_1_1, F_1_2, F_1_3, F_1_4, F_1_5, sh_3, F_3_0, F_3_1, F_3_2, F_3_3, F_3_4, F_3_5, sh_5, F_5_0, F_5_1, F_5_2, F_5_3, F_5_4, F_5_5, F_5_6, F_5_7, F_5_8, sh_12, F_12_0, F_12_1, F_12_2, F_12_3, F_12_4, F_12_5, sh_14, F_14_0, F_14_1, F_14_2, F_14_3, F_14_4, F_14_5, F_14_6, F_14_7, F_14_8, sh_21, F_21_0, F_21_1, F_21_2, F_21_3, F_21_4, F_21_5, F_21_6, F_21_7, F_21_8, sh_28, F_28_0, F_28_1, F_28_2, F_28_3, F_28_4, F_28_5, F_28_6, F_28_7, F_28_8, sh_35, F_35_0, sh_39, F_39_0, F_39_1, F_39_2, F_39_3, F_39_4, F_39_5, F_39_6, F_39_7, F_39_8, F_39_9, F_39_10, F_39_11, F_39_12, F_39_13, A_2, A_4, A_6, A_7, A_8, A_9, A_10, A_11, A_13, A_15, A_16, A_17, A_18, A_19, A_20, A_22, A_23, A_24, A_25, A_26, A_27, A_29, A_30, A_31, A_32, A_33, A_34, A_36, A_37, A_38, A_40, A_41, A_42, A_43, A_44, A_45, A_46, A_47]
          simp (config := { decide := true }) only [true_implies, false_implies, and_true, true_and, not_true_eq_false, not_false_eq_true, forall_const]
          exact cut _ _ ⟨rfl, pp, g, l, M.2.2 36, M.2.2 37, rfl, hpp, rfl, hg, rfl, hlc, by simpa using w3, by rw [sA_self 36 M, sA_self 37 M], Or.inl ⟨rfl, 0, by omega, fun u hu => absurd hu (by omega), rfl, rfl⟩⟩ (by omega) ⟨rfl, rfl, rfl, rfl, rfl, trivial⟩
        · dsimp only [k_X5_wish_0, k_X5_wish_1, k_X5_wish_2, k_X5_wish_5, k_X5_wish_8, k_X5_wish_9, k_X5_wish_10, k_X5_wish_13, k_X5_wish_16, k_X5_wish_17, k_X5_wish_18, k_X5_wish_19, k_X5_wish_20, k_X5_wish_21, k_X5_wish_24, k_X5_wish_25, k_X5_wish_26, k_X5_wish_29, k_X5_wish_32, k_X5_wish_33, k_X5_wish_34, k_X5_wish_35, k_X5_wish_37, k_X5_wish_38, k_X5_wish_40, k_X5_wish_43, k_X5_wish_46, k_X5_wish_47, k_X5_wish_48, k_X5_wish_50, k_X5_wish_53, k_X5_wish_56, k_X5_wish_57, k_X5_wish_59, k_X5_wish_61, k_X5_wish_64, k_X5_wish_67, k_X5_wish_68, k_X5_wish_71, k_X5_wish_74, k_X5_wish_76, k_X5_wish_77, k_X5_wish_79, k_X5_wish_80, k_X5_wish_81, k_X5_wish_84, k_X5_wish_86, k_X5_wish_87, k_X5_wish_88, k_X5_wish_91, k_X5_wish_94, k_X5_wish_97, k_X5_wish_100, k_X5_wish_101, k_X5_wish_103, k_X5_wish_105, k_X5_wish_108, k_X5_wish_111, k_X5_wish_112, k_X5_wish_113, k_X5_wish_114, k_X5_wish_115, k_X5_wish_118, k_X5_wish_119, k_X5_wish_120, k_X5_wish_121, k_X5_wish_122, k_X5_wish_124, k_X5_wish_127, k_X5_wish_130, k_X5_wish_132, k_X5_wish_133, k_X5_wish_136, k_X5_wish_139, k_X5_wish_141, wp1, wp_s, cutIn, kont, Nat.reduceSub, Nat.reduceAdd, nth, o_const, o_lconst, o_ref, o_iload, o_lload, o_aload, o_istore, o_lstore, o_astore, o_iinc, o_bin, o_div, o_un, o_lbin, o_lsh, o_lcmp, o_i2l, o_l2i, o_if, o_icmp, o_goto, o_dup, o_dup2, o_pop, fav, o_getf, o_putI, o_putZ, o_putL, o_ald, o_ast, o_alen, popn, rst, o_callV, o_callT, o_callS, swx, o_sw, o_ret, o_iret, o_zret, o_cret, o_lret, o_aret, lg, lput, lput2, ls1, isL, entL, wsum, rdI1, rdI2, rdA1, rdA21, rdA22, rdL1, rdL22, rdL21, upN_at, rep, sh_0, F_0_0, F_0_1, F_0_2, F_0_3, F_0_4, F_0_5, F_0_6, F_0_7, F_0_8, sh_1, F_1_0, F_1_1, F_1_2, F_1_3, F_1_4, F_1_5, sh_3, F_3_0, F_3_1, F_3_2, F_3_3, F_3_4, F_3_5, sh_5, F_5_0, F_5_1, F_5_2, F_5_3, F_5_4, F_5_5, F_5_6, F_5_7, F_5_8, sh_12, F_12_0, F_12_1, F_12_2, F_12_3, F_12_4, F_12_5, sh_14, F_14_0, F_14_1, F_14_2, F_14_3, F_14_4, F_14_5, F_14_6, F_14_7, F_14_8, sh_21, F_21_0, F_21_1, F_21_2, F_21_3, F_21_4, F_21_5, F_21_6, F_21_7, F_21_8, sh_28, F_28_0, F_28_1, F_28_2, F_28_3, F_28_4, F_28_5, F_28_6, F_28_7, F_28_8, sh_35, F_35_0, sh_39, F_39_0, F_39_1, F_39_2, F_39_3, F_39_4, F_39_5, F_39_6, F_39_7, F_39_8, F_39_9, F_39_10, F_39_11, F_39_12, F_39_13, A_2, A_4, A_6, A_7, A_8, A_9, A_10, A_11, A_13, A_15, A_16, A_17, A_18, A_19, A_20, A_22, A_23, A_24, A_25, A_26, A_27, A_29, A_30, A_31, A_32, A_33, A_34, A_36, A_37, A_38, A_40, A_41, A_42, A_43, A_44, A_45, A_46, A_47]
          simp (config := { decide := true }) only [true_implies, false_implies, and_true, true_and, not_true_eq_false, not_false_eq_true, forall_const]
          exact h1 fun pp' g' l' e1 e2 e3 e4 e5 e6 => absurd ⟨by rw [e5]; exact nI_pos' (by omega), by rw [e5, nI_ltI (by omega) (by omega)]; exact e6⟩ w4
      · dsimp only [k_X5_wish_0, k_X5_wish_1, k_X5_wish_2, k_X5_wish_5, k_X5_wish_8, k_X5_wish_9, k_X5_wish_10, k_X5_wish_13, k_X5_wish_16, k_X5_wish_17, k_X5_wish_18, k_X5_wish_19, k_X5_wish_20, k_X5_wish_21, k_X5_wish_24, k_X5_wish_25, k_X5_wish_26, k_X5_wish_29, k_X5_wish_32, k_X5_wish_33, k_X5_wish_34, k_X5_wish_35, k_X5_wish_37, k_X5_wish_38, k_X5_wish_40, k_X5_wish_43, k_X5_wish_46, k_X5_wish_47, k_X5_wish_48, k_X5_wish_50, k_X5_wish_53, k_X5_wish_56, k_X5_wish_57, k_X5_wish_59, k_X5_wish_61, k_X5_wish_64, k_X5_wish_67, k_X5_wish_68, k_X5_wish_71, k_X5_wish_74, k_X5_wish_76, k_X5_wish_77, k_X5_wish_79, k_X5_wish_80, k_X5_wish_81, k_X5_wish_84, k_X5_wish_86, k_X5_wish_87, k_X5_wish_88, k_X5_wish_91, k_X5_wish_94, k_X5_wish_97, k_X5_wish_100, k_X5_wish_101, k_X5_wish_103, k_X5_wish_105, k_X5_wish_108, k_X5_wish_111, k_X5_wish_112, k_X5_wish_113, k_X5_wish_114, k_X5_wish_115, k_X5_wish_118, k_X5_wish_119, k_X5_wish_120, k_X5_wish_121, k_X5_wish_122, k_X5_wish_124, k_X5_wish_127, k_X5_wish_130, k_X5_wish_132, k_X5_wish_133, k_X5_wish_136, k_X5_wish_139, k_X5_wish_141, wp1, wp_s, cutIn, kont, Nat.reduceSub, Nat.reduceAdd, nth, o_const, o_lconst, o_ref, o_iload, o_lload, o_aload, o_istore, o_lstore, o_astore, o_iinc, o_bin, o_div, o_un, o_lbin, o_lsh, o_lcmp, o_i2l, o_l2i, o_if, o_icmp, o_goto, o_dup, o_dup2, o_pop, fav, o_getf, o_putI, o_putZ, o_putL, o_ald, o_ast, o_alen, popn, rst, o_callV, o_callT, o_callS, swx, o_sw, o_ret, o_iret, o_zret, o_cret, o_lret, o_aret, lg, lput, lput2, ls1, isL, entL, wsum, rdI1, rdI2, rdA1, rdA21, rdA22, rdL1, rdL22, rdL21, upN_at, rep, sh_0, F_0_0, F_0_1, F_0_2, F_0_3, F_0_4, F_0_5, F_0_6, F_0_7, F_0_8, sh_1, F_1_0, F_1_1, F_1_2, F_1_3, F_1_4, F_1_5, sh_3, F_3_0, F_3_1, F_3_2, F_3_3, F_3_4, F_3_5, sh_5, F_5_0, F_5_1, F_5_2, F_5_3, F_5_4, F_5_5, F_5_6, F_5_7, F_5_8, sh_12, F_12_0, F_12_1, F_12_2, F_12_3, F_12_4, F_12_5, sh_14, F_14_0, F_14_1, F_14_2, F_14_3, F_14_4, F_14_5, F_14_6, F_14_7, F_14_8, sh_21, F_21_0, F_21_1, F_21_2, F_21_3, F_21_4, F_21_5, F_21_6, F_21_7, F_21_8, sh_28, F_28_0, F_28_1, F_28_2, F_28_3, F_28_4, F_28_5, F_28_6, F_28_7, F_28_8, sh_35, F_35_0, sh_39, F_39_0, F_39_1, F_39_2, F_39_3, F_39_4, F_39_5, F_39_6, F_39_7, F_39_8, F_39_9, F_39_10, F_39_11, F_39_12, F_39_13, A_2, A_4, A_6, A_7, A_8, A_9, A_10, A_11, A_13, A_15, A_16, A_17, A_18, A_19, A_20, A_22, A_23, A_24, A_25, A_26, A_27, A_29, A_30, A_31, A_32, A_33, A_34, A_36, A_37, A_38, A_40, A_41, A_42, A_43, A_44, A_45, A_46, A_47]
        simp (config := { decide := true }) only [true_implies, false_implies, and_true, true_and, not_true_eq_false, not_false_eq_true, forall_const]
        refine h1 fun pp' g' l' e1 e2 e3 e4 e5 e6 => ?_
        have e9 := and_p.mp e4
        exact absurd ⟨by rw [e3]; exact nI_pos' (by omega), by rw [e3, nI_ltI (by omega) (by omega)]; exact e9⟩ w2
    · dsimp only [k_X5_wish_0, k_X5_wish_1, k_X5_wish_2, k_X5_wish_5, k_X5_wish_8, k_X5_wish_9, k_X5_wish_10, k_X5_wish_13, k_X5_wish_16, k_X5_wish_17, k_X5_wish_18, k_X5_wish_19, k_X5_wish_20, k_X5_wish_21, k_X5_wish_24, k_X5_wish_25, k_X5_wish_26, k_X5_wish_29, k_X5_wish_32, k_X5_wish_33, k_X5_wish_34, k_X5_wish_35, k_X5_wish_37, k_X5_wish_38, k_X5_wish_40, k_X5_wish_43, k_X5_wish_46, k_X5_wish_47, k_X5_wish_48, k_X5_wish_50, k_X5_wish_53, k_X5_wish_56, k_X5_wish_57, k_X5_wish_59, k_X5_wish_61, k_X5_wish_64, k_X5_wish_67, k_X5_wish_68, k_X5_wish_71, k_X5_wish_74, k_X5_wish_76, k_X5_wish_77, k_X5_wish_79, k_X5_wish_80, k_X5_wish_81, k_X5_wish_84, k_X5_wish_86, k_X5_wish_87, k_X5_wish_88, k_X5_wish_91, k_X5_wish_94, k_X5_wish_97, k_X5_wish_100, k_X5_wish_101, k_X5_wish_103, k_X5_wish_105, k_X5_wish_108, k_X5_wish_111, k_X5_wish_112, k_X5_wish_113, k_X5_wish_114, k_X5_wish_115, k_X5_wish_118, k_X5_wish_119, k_X5_wish_120, k_X5_wish_121, k_X5_wish_122, k_X5_wish_124, k_X5_wish_127, k_X5_wish_130, k_X5_wish_132, k_X5_wish_133, k_X5_wish_136, k_X5_wish_139, k_X5_wish_141, wp1, wp_s, cutIn, kont, Nat.reduceSub, Nat.reduceAdd, nth, o_const, o_lconst, o_ref, o_iload, o_lload, o_aload, o_istore, o_lstore, o_astore, o_iinc, o_bin, o_div, o_un, o_lbin, o_lsh, o_lcmp, o_i2l, o_l2i, o_if, o_icmp, o_goto, o_dup, o_dup2, o_pop, fav, o_getf, o_putI, o_putZ, o_putL, o_ald, o_ast, o_alen, popn, rst, o_callV, o_callT, o_callS, swx, o_sw, o_ret, o_iret, o_zret, o_cret, o_lret, o_aret, lg, lput, lput2, ls1, isL, entL, wsum, rdI1, rdI2, rdA1, rdA21, rdA22, rdL1, rdL22, rdL21, upN_at, rep, sh_0, F_0_0, F_0_1, F_0_2, F_0_3, F_0_4, F_0_5, F_0_6, F_0_7, F_0_8, sh_1, F_1_0, F_1_1, F_1_2, F_1_3, F_1_4, F_1_5, sh_3, F_3_0, F_3_1, F_3_2, F_3_3, F_3_4, F_3_5, sh_5, F_5_0, F_5_1, F_5_2, F_5_3, F_5_4, F_5_5, F_5_6, F_5_7, F_5_8, sh_12, F_12_0, F_12_1, F_12_2, F_12_3, F_12_4, F_12_5, sh_14, F_14_0, F_14_1, F_14_2, F_14_3, F_14_4, F_14_5, F_14_6, F_14_7, F_14_8, sh_21, F_21_0, F_21_1, F_21_2, F_21_3, F_21_4, F_21_5, F_21_6, F_21_7, F_21_8, sh_28, F_28_0, F_28_1, F_28_2, F_28_3, F_28_4, F_28_5, F_28_6, F_28_7, F_28_8, sh_35, F_35_0, sh_39, F_39_0, F_39_1, F_39_2, F_39_3, F_39_4, F_39_5, F_39_6, F_39_7, F_39_8, F_39_9, F_39_10, F_39_11, F_39_12, F_39_13, A_2, A_4, A_6, A_7, A_8, A_9, A_10, A_11, A_13, A_15, A_16, A_17, A_18, A_19, A_20, A_22, A_23, A_24, A_25, A_26, A_27, A_29, A_30, A_31, A_32, A_33, A_34, A_36, A_37, A_38, A_40, A_41, A_42, A_43, A_44, A_45, A_46, A_47]
      simp (config := { decide := true }) only [true_implies, false_implies, and_true, true_and, not_true_eq_false, not_false_eq_true, forall_const]
      exact h1 fun pp' g' l' e1 e2 e3 e4 e5 e6 => absurd ⟨by rw [e1]; exact nI_pos' (by omega), by rw [e1, nI_ltI (by omega) (by omega)]; exact e2⟩ w1
theorem c_X5_wish : Ctr yX5_wish cX5_wish 6 (some .int) ({ frames := 3, cells := 0, slots := 0, locals := 70 } : Room) S_X5_wish := ctr_of (T := T_X5_wish) (by decide +kernel) (fun post C hr => t_X5_wish post C hr) v_X5_wish
