/-! The model: keys that come and go, counts. -/
def ps3 (s : Nat → Int32) (u : Nat) (x y z : Int32) : Nat → Int32 := upd (upd (upd (upd s (18 + 3 * u) x) (18 + 3 * u + 1) y) (18 + 3 * u + 2) z) 17 (nI (u + 1))
def sh3 (s : Nat → Int32) (i : Nat) : Nat → Int32 := fun j => if 18 ≤ j ∧ j < i then s (j + 3) else s j
def ac3 (s : Nat → Int32) (u : Nat) (x y z : Int32) : Nat → Int32 := if u = 10 then ps3 (upd (sh3 s 45) 17 9) 9 x y z else ps3 s u x y z
def S_X5_acts : SP := fun as M post => ∃ x y z u, as = [VR 39, VI x, VI y, VI z] ∧ M.2.2 33 17 = nI u ∧ u ≤ 10 ∧ post none (sA 33 (ac3 (M.2.2 33) u x y z) M)
theorem dX5_acts_0 : decode cX5_acts 0 = .ok (.aload_n 0, 1) := by decide +kernel
theorem dX5_acts_1 : decode cX5_acts 1 = .ok (.getfield 19, 3) := by decide +kernel
theorem dX5_acts_4 : decode cX5_acts 4 = .ok (.bipush 17, 2) := by decide +kernel
theorem dX5_acts_6 : decode cX5_acts 6 = .ok (.iaload, 1) := by decide +kernel
theorem dX5_acts_7 : decode cX5_acts 7 = .ok (.bipush 10, 2) := by decide +kernel
theorem dX5_acts_9 : decode cX5_acts 9 = .ok (.if_icmp .ne 45, 3) := by decide +kernel
theorem dX5_acts_12 : decode cX5_acts 12 = .ok (.bipush 18, 2) := by decide +kernel
theorem dX5_acts_14 : decode cX5_acts 14 = .ok (.istore 4, 2) := by decide +kernel
theorem dX5_acts_16 : decode cX5_acts 16 = .ok (.iload 4, 2) := by decide +kernel
theorem dX5_acts_18 : decode cX5_acts 18 = .ok (.bipush 45, 2) := by decide +kernel
theorem dX5_acts_20 : decode cX5_acts 20 = .ok (.if_icmp .ge 25, 3) := by decide +kernel
theorem dX5_acts_23 : decode cX5_acts 23 = .ok (.aload_n 0, 1) := by decide +kernel
theorem dX5_acts_24 : decode cX5_acts 24 = .ok (.getfield 19, 3) := by decide +kernel
theorem dX5_acts_27 : decode cX5_acts 27 = .ok (.iload 4, 2) := by decide +kernel
theorem dX5_acts_29 : decode cX5_acts 29 = .ok (.aload_n 0, 1) := by decide +kernel
theorem dX5_acts_30 : decode cX5_acts 30 = .ok (.getfield 19, 3) := by decide +kernel
theorem dX5_acts_33 : decode cX5_acts 33 = .ok (.iload 4, 2) := by decide +kernel
theorem dX5_acts_35 : decode cX5_acts 35 = .ok (.iconst 3, 1) := by decide +kernel
theorem dX5_acts_36 : decode cX5_acts 36 = .ok (.iadd, 1) := by decide +kernel
theorem dX5_acts_37 : decode cX5_acts 37 = .ok (.iaload, 1) := by decide +kernel
theorem dX5_acts_38 : decode cX5_acts 38 = .ok (.iastore, 1) := by decide +kernel
theorem dX5_acts_39 : decode cX5_acts 39 = .ok (.iinc 4 1, 3) := by decide +kernel
theorem dX5_acts_42 : decode cX5_acts 42 = .ok (.goto (-26), 3) := by decide +kernel
theorem dX5_acts_45 : decode cX5_acts 45 = .ok (.aload_n 0, 1) := by decide +kernel
theorem dX5_acts_46 : decode cX5_acts 46 = .ok (.getfield 19, 3) := by decide +kernel
theorem dX5_acts_49 : decode cX5_acts 49 = .ok (.bipush 17, 2) := by decide +kernel
theorem dX5_acts_51 : decode cX5_acts 51 = .ok (.bipush 9, 2) := by decide +kernel
theorem dX5_acts_53 : decode cX5_acts 53 = .ok (.iastore, 1) := by decide +kernel
theorem dX5_acts_54 : decode cX5_acts 54 = .ok (.bipush 18, 2) := by decide +kernel
theorem dX5_acts_56 : decode cX5_acts 56 = .ok (.iconst 3, 1) := by decide +kernel
theorem dX5_acts_57 : decode cX5_acts 57 = .ok (.aload_n 0, 1) := by decide +kernel
theorem dX5_acts_58 : decode cX5_acts 58 = .ok (.getfield 19, 3) := by decide +kernel
theorem dX5_acts_61 : decode cX5_acts 61 = .ok (.bipush 17, 2) := by decide +kernel
theorem dX5_acts_63 : decode cX5_acts 63 = .ok (.iaload, 1) := by decide +kernel
theorem dX5_acts_64 : decode cX5_acts 64 = .ok (.imul, 1) := by decide +kernel
theorem dX5_acts_65 : decode cX5_acts 65 = .ok (.iadd, 1) := by decide +kernel
theorem dX5_acts_66 : decode cX5_acts 66 = .ok (.istore 4, 2) := by decide +kernel
theorem dX5_acts_68 : decode cX5_acts 68 = .ok (.aload_n 0, 1) := by decide +kernel
theorem dX5_acts_69 : decode cX5_acts 69 = .ok (.getfield 19, 3) := by decide +kernel
theorem dX5_acts_72 : decode cX5_acts 72 = .ok (.iload 4, 2) := by decide +kernel
theorem dX5_acts_74 : decode cX5_acts 74 = .ok (.iload_n 1, 1) := by decide +kernel
theorem dX5_acts_75 : decode cX5_acts 75 = .ok (.iastore, 1) := by decide +kernel
theorem dX5_acts_76 : decode cX5_acts 76 = .ok (.aload_n 0, 1) := by decide +kernel
theorem dX5_acts_77 : decode cX5_acts 77 = .ok (.getfield 19, 3) := by decide +kernel
theorem dX5_acts_80 : decode cX5_acts 80 = .ok (.iload 4, 2) := by decide +kernel
theorem dX5_acts_82 : decode cX5_acts 82 = .ok (.iconst 1, 1) := by decide +kernel
theorem dX5_acts_83 : decode cX5_acts 83 = .ok (.iadd, 1) := by decide +kernel
theorem dX5_acts_84 : decode cX5_acts 84 = .ok (.iload_n 2, 1) := by decide +kernel
theorem dX5_acts_85 : decode cX5_acts 85 = .ok (.iastore, 1) := by decide +kernel
theorem dX5_acts_86 : decode cX5_acts 86 = .ok (.aload_n 0, 1) := by decide +kernel
theorem dX5_acts_87 : decode cX5_acts 87 = .ok (.getfield 19, 3) := by decide +kernel
theorem dX5_acts_90 : decode cX5_acts 90 = .ok (.iload 4, 2) := by decide +kernel
theorem dX5_acts_92 : decode cX5_acts 92 = .ok (.iconst 2, 1) := by decide +kernel
theorem dX5_acts_93 : decode cX5_acts 93 = .ok (.iadd, 1) := by decide +kernel
theorem dX5_acts_94 : decode cX5_acts 94 = .ok (.iload_n 3, 1) := by decide +kernel
theorem dX5_acts_95 : decode cX5_acts 95 = .ok (.iastore, 1) := by decide +kernel
theorem dX5_acts_96 : decode cX5_acts 96 = .ok (.aload_n 0, 1) := by decide +kernel
theorem dX5_acts_97 : decode cX5_acts 97 = .ok (.getfield 19, 3) := by decide +kernel
theorem dX5_acts_100 : decode cX5_acts 100 = .ok (.bipush 17, 2) := by decide +kernel
theorem dX5_acts_102 : decode cX5_acts 102 = .ok (.dup2, 1) := by decide +kernel
theorem dX5_acts_103 : decode cX5_acts 103 = .ok (.iaload, 1) := by decide +kernel
theorem dX5_acts_104 : decode cX5_acts 104 = .ok (.iconst 1, 1) := by decide +kernel
theorem dX5_acts_105 : decode cX5_acts 105 = .ok (.iadd, 1) := by decide +kernel
theorem dX5_acts_106 : decode cX5_acts 106 = .ok (.iastore, 1) := by decide +kernel
theorem dX5_acts_107 : decode cX5_acts 107 = .ok (.return_, 1) := by decide +kernel
def T_X5_acts (post : PO) : List (Nat × OP) := [(0, o_aload 0 1), (1, o_getf 5 5 4), (4, o_const 17 6), (6, o_ald 0 7), (7, o_const 10 9), (9, o_icmp (fun x y => x = y) 12 54), (12, o_const 18 14), (14, o_istore 4 16), (16, o_iload 4 18), (18, o_const 45 20), (20, o_icmp (fun x y => y ≤ x) 45 23), (23, o_aload 0 24), (24, o_getf 5 5 27), (27, o_iload 4 29), (29, o_aload 0 30), (30, o_getf 5 5 33), (33, o_iload 4 35), (35, o_const 3 36), (36, o_bin (fun x y => x + y) 37), (37, o_ald 0 38), (38, o_ast 0 (fun x => x) 39), (39, o_iinc 4 1 42), (42, o_goto 16), (45, o_aload 0 46), (46, o_getf 5 5 49), (49, o_const 17 51), (51, o_const 9 53), (53, o_ast 0 (fun x => x) 54), (54, o_const 18 56), (56, o_const 3 57), (57, o_aload 0 58), (58, o_getf 5 5 61), (61, o_const 17 63), (63, o_ald 0 64), (64, o_bin (fun x y => x * y) 65), (65, o_bin (fun x y => x + y) 66), (66, o_istore 4 68), (68, o_aload 0 69), (69, o_getf 5 5 72), (72, o_iload 4 74), (74, o_iload 1 75), (75, o_ast 0 (fun x => x) 76), (76, o_aload 0 77), (77, o_getf 5 5 80), (80, o_iload 4 82), (82, o_const 1 83), (83, o_bin (fun x y => x + y) 84), (84, o_iload 2 85), (85, o_ast 0 (fun x => x) 86), (86, o_aload 0 87), (87, o_getf 5 5 90), (90, o_iload 4 92), (92, o_const 2 93), (93, o_bin (fun x y => x + y) 94), (94, o_iload 3 95), (95, o_ast 0 (fun x => x) 96), (96, o_aload 0 97), (97, o_getf 5 5 100), (100, o_const 17 102), (102, o_dup2 103), (103, o_ald 0 104), (104, o_const 1 105), (105, o_bin (fun x y => x + y) 106), (106, o_ast 0 (fun x => x) 107), (107, o_ret post)]
theorem k_X5_acts_0 (post : PO) : lk (T_X5_acts post) 0 = o_aload 0 1 := rfl
theorem k_X5_acts_1 (post : PO) : lk (T_X5_acts post) 1 = o_getf 5 5 4 := rfl
theorem k_X5_acts_4 (post : PO) : lk (T_X5_acts post) 4 = o_const 17 6 := rfl
theorem k_X5_acts_6 (post : PO) : lk (T_X5_acts post) 6 = o_ald 0 7 := rfl
theorem k_X5_acts_7 (post : PO) : lk (T_X5_acts post) 7 = o_const 10 9 := rfl
theorem k_X5_acts_9 (post : PO) : lk (T_X5_acts post) 9 = o_icmp (fun x y => x = y) 12 54 := rfl
theorem k_X5_acts_12 (post : PO) : lk (T_X5_acts post) 12 = o_const 18 14 := rfl
theorem k_X5_acts_14 (post : PO) : lk (T_X5_acts post) 14 = o_istore 4 16 := rfl
theorem k_X5_acts_16 (post : PO) : lk (T_X5_acts post) 16 = o_iload 4 18 := rfl
theorem k_X5_acts_18 (post : PO) : lk (T_X5_acts post) 18 = o_const 45 20 := rfl
theorem k_X5_acts_20 (post : PO) : lk (T_X5_acts post) 20 = o_icmp (fun x y => y ≤ x) 45 23 := rfl
theorem k_X5_acts_23 (post : PO) : lk (T_X5_acts post) 23 = o_aload 0 24 := rfl
theorem k_X5_acts_24 (post : PO) : lk (T_X5_acts post) 24 = o_getf 5 5 27 := rfl
theorem k_X5_acts_27 (post : PO) : lk (T_X5_acts post) 27 = o_iload 4 29 := rfl
theorem k_X5_acts_29 (post : PO) : lk (T_X5_acts post) 29 = o_aload 0 30 := rfl
theorem k_X5_acts_30 (post : PO) : lk (T_X5_acts post) 30 = o_getf 5 5 33 := rfl
theorem k_X5_acts_33 (post : PO) : lk (T_X5_acts post) 33 = o_iload 4 35 := rfl
theorem k_X5_acts_35 (post : PO) : lk (T_X5_acts post) 35 = o_const 3 36 := rfl
theorem k_X5_acts_36 (post : PO) : lk (T_X5_acts post) 36 = o_bin (fun x y => x + y) 37 := rfl
theorem k_X5_acts_37 (post : PO) : lk (T_X5_acts post) 37 = o_ald 0 38 := rfl
theorem k_X5_acts_38 (post : PO) : lk (T_X5_acts post) 38 = o_ast 0 (fun x => x) 39 := rfl
theorem k_X5_acts_39 (post : PO) : lk (T_X5_acts post) 39 = o_iinc 4 1 42 := rfl
theorem k_X5_acts_42 (post : PO) : lk (T_X5_acts post) 42 = o_goto 16 := rfl
theorem k_X5_acts_45 (post : PO) : lk (T_X5_acts post) 45 = o_aload 0 46 := rfl
theorem k_X5_acts_46 (post : PO) : lk (T_X5_acts post) 46 = o_getf 5 5 49 := rfl
theorem k_X5_acts_49 (post : PO) : lk (T_X5_acts post) 49 = o_const 17 51 := rfl
theorem k_X5_acts_51 (post : PO) : lk (T_X5_acts post) 51 = o_const 9 53 := rfl
theorem k_X5_acts_53 (post : PO) : lk (T_X5_acts post) 53 = o_ast 0 (fun x => x) 54 := rfl
theorem k_X5_acts_54 (post : PO) : lk (T_X5_acts post) 54 = o_const 18 56 := rfl
theorem k_X5_acts_56 (post : PO) : lk (T_X5_acts post) 56 = o_const 3 57 := rfl
theorem k_X5_acts_57 (post : PO) : lk (T_X5_acts post) 57 = o_aload 0 58 := rfl
theorem k_X5_acts_58 (post : PO) : lk (T_X5_acts post) 58 = o_getf 5 5 61 := rfl
theorem k_X5_acts_61 (post : PO) : lk (T_X5_acts post) 61 = o_const 17 63 := rfl
theorem k_X5_acts_63 (post : PO) : lk (T_X5_acts post) 63 = o_ald 0 64 := rfl
theorem k_X5_acts_64 (post : PO) : lk (T_X5_acts post) 64 = o_bin (fun x y => x * y) 65 := rfl
theorem k_X5_acts_65 (post : PO) : lk (T_X5_acts post) 65 = o_bin (fun x y => x + y) 66 := rfl
theorem k_X5_acts_66 (post : PO) : lk (T_X5_acts post) 66 = o_istore 4 68 := rfl
theorem k_X5_acts_68 (post : PO) : lk (T_X5_acts post) 68 = o_aload 0 69 := rfl
theorem k_X5_acts_69 (post : PO) : lk (T_X5_acts post) 69 = o_getf 5 5 72 := rfl
theorem k_X5_acts_72 (post : PO) : lk (T_X5_acts post) 72 = o_iload 4 74 := rfl
theorem k_X5_acts_74 (post : PO) : lk (T_X5_acts post) 74 = o_iload 1 75 := rfl
theorem k_X5_acts_75 (post : PO) : lk (T_X5_acts post) 75 = o_ast 0 (fun x => x) 76 := rfl
theorem k_X5_acts_76 (post : PO) : lk (T_X5_acts post) 76 = o_aload 0 77 := rfl
theorem k_X5_acts_77 (post : PO) : lk (T_X5_acts post) 77 = o_getf 5 5 80 := rfl
theorem k_X5_acts_80 (post : PO) : lk (T_X5_acts post) 80 = o_iload 4 82 := rfl
theorem k_X5_acts_82 (post : PO) : lk (T_X5_acts post) 82 = o_const 1 83 := rfl
theorem k_X5_acts_83 (post : PO) : lk (T_X5_acts post) 83 = o_bin (fun x y => x + y) 84 := rfl
theorem k_X5_acts_84 (post : PO) : lk (T_X5_acts post) 84 = o_iload 2 85 := rfl
theorem k_X5_acts_85 (post : PO) : lk (T_X5_acts post) 85 = o_ast 0 (fun x => x) 86 := rfl
theorem k_X5_acts_86 (post : PO) : lk (T_X5_acts post) 86 = o_aload 0 87 := rfl
theorem k_X5_acts_87 (post : PO) : lk (T_X5_acts post) 87 = o_getf 5 5 90 := rfl
theorem k_X5_acts_90 (post : PO) : lk (T_X5_acts post) 90 = o_iload 4 92 := rfl
theorem k_X5_acts_92 (post : PO) : lk (T_X5_acts post) 92 = o_const 2 93 := rfl
theorem k_X5_acts_93 (post : PO) : lk (T_X5_acts post) 93 = o_bin (fun x y => x + y) 94 := rfl
theorem k_X5_acts_94 (post : PO) : lk (T_X5_acts post) 94 = o_iload 3 95 := rfl
theorem k_X5_acts_95 (post : PO) : lk (T_X5_acts post) 95 = o_ast 0 (fun x => x) 96 := rfl
theorem k_X5_acts_96 (post : PO) : lk (T_X5_acts post) 96 = o_aload 0 97 := rfl
theorem k_X5_acts_97 (post : PO) : lk (T_X5_acts post) 97 = o_getf 5 5 100 := rfl
theorem k_X5_acts_100 (post : PO) : lk (T_X5_acts post) 100 = o_const 17 102 := rfl
theorem k_X5_acts_102 (post : PO) : lk (T_X5_acts post) 102 = o_dup2 103 := rfl
theorem k_X5_acts_103 (post : PO) : lk (T_X5_acts post) 103 = o_ald 0 104 := rfl
theorem k_X5_acts_104 (post : PO) : lk (T_X5_acts post) 104 = o_const 1 105 := rfl
theorem k_X5_acts_105 (post : PO) : lk (T_X5_acts post) 105 = o_bin (fun x y => x + y) 106 := rfl
theorem k_X5_acts_106 (post : PO) : lk (T_X5_acts post) 106 = o_ast 0 (fun x => x) 107 := rfl
theorem k_X5_acts_107 (post : PO) : lk (T_X5_acts post) 107 = o_ret post := rfl
set_option maxRecDepth 100000 in
theorem t_X5_acts {p : Program} {l : Launch} {e : Env} {s : State} {m : MethodId} {args : Array Value} {below : List Frame} {meth : Method} {c : Code} {D : va_G} {dA : Nat → ClassId} {ad : Nat → Nat} (post : PO) (C : CX p s m args meth c cX5_acts 5 yX5_acts.cls D dA ad (AA ad s.heap.size)) (hr : meth.sig.returnType = none) : SndL (WW p l e ({ frames := 0, cells := 0, slots := 0, locals := 0 } : Room) s m args below meth c 0 0 (MQ below (CQ D dA ad post (AA ad s.heap.size)) args s 0 0 (AA ad s.heap.size)) 5 D dA ad (AA ad s.heap.size)) (T_X5_acts post) := by
  refine snd_c (s_aload_n C rfl dX5_acts_0) ?_
  refine snd_c (s_getf C (ci := 5) (j := 5) (T := TX5) rfl inX5 (by decide) fl_RX5_19 dX5_acts_1) ?_
  refine snd_c (s_bipush C dX5_acts_4 rfl) ?_
  refine snd_c (s_iald C dX5_acts_6) ?_
  refine snd_c (s_bipush C dX5_acts_7 rfl) ?_
  refine snd_c (s_icmp_ne C dX5_acts_9 (by decide)) ?_
  refine snd_c (s_bipush C dX5_acts_12 rfl) ?_
  refine snd_c (s_istore C (by decide) dX5_acts_14) ?_
  refine snd_c (s_iload C dX5_acts_16) ?_
  refine snd_c (s_bipush C dX5_acts_18 rfl) ?_
  refine snd_c (s_icmp_ge C dX5_acts_20 (by decide)) ?_
  refine snd_c (s_aload_n C rfl dX5_acts_23) ?_
  refine snd_c (s_getf C (ci := 5) (j := 5) (T := TX5) rfl inX5 (by decide) fl_RX5_19 dX5_acts_24) ?_
  refine snd_c (s_iload C dX5_acts_27) ?_
  refine snd_c (s_aload_n C rfl dX5_acts_29) ?_
  refine snd_c (s_getf C (ci := 5) (j := 5) (T := TX5) rfl inX5 (by decide) fl_RX5_19 dX5_acts_30) ?_
  refine snd_c (s_iload C dX5_acts_33) ?_
  refine snd_c (s_iconst C dX5_acts_35 rfl) ?_
  refine snd_c (s_iadd C dX5_acts_36) ?_
  refine snd_c (s_iald C dX5_acts_37) ?_
  refine snd_c (s_iast C dX5_acts_38) ?_
  refine snd_c (s_iinc C (by decide) rfl dX5_acts_39) ?_
  refine snd_c (s_goto C dX5_acts_42 (by decide)) ?_
  refine snd_c (s_aload_n C rfl dX5_acts_45) ?_
  refine snd_c (s_getf C (ci := 5) (j := 5) (T := TX5) rfl inX5 (by decide) fl_RX5_19 dX5_acts_46) ?_
  refine snd_c (s_bipush C dX5_acts_49 rfl) ?_
  refine snd_c (s_bipush C dX5_acts_51 rfl) ?_
  refine snd_c (s_iast C dX5_acts_53) ?_
  refine snd_c (s_bipush C dX5_acts_54 rfl) ?_
  refine snd_c (s_iconst C dX5_acts_56 rfl) ?_
  refine snd_c (s_aload_n C rfl dX5_acts_57) ?_
  refine snd_c (s_getf C (ci := 5) (j := 5) (T := TX5) rfl inX5 (by decide) fl_RX5_19 dX5_acts_58) ?_
  refine snd_c (s_bipush C dX5_acts_61 rfl) ?_
  refine snd_c (s_iald C dX5_acts_63) ?_
  refine snd_c (s_imul C dX5_acts_64) ?_
  refine snd_c (s_iadd C dX5_acts_65) ?_
  refine snd_c (s_istore C (by decide) dX5_acts_66) ?_
  refine snd_c (s_aload_n C rfl dX5_acts_68) ?_
  refine snd_c (s_getf C (ci := 5) (j := 5) (T := TX5) rfl inX5 (by decide) fl_RX5_19 dX5_acts_69) ?_
  refine snd_c (s_iload C dX5_acts_72) ?_
  refine snd_c (s_iload_n C rfl dX5_acts_74) ?_
  refine snd_c (s_iast C dX5_acts_75) ?_
  refine snd_c (s_aload_n C rfl dX5_acts_76) ?_
  refine snd_c (s_getf C (ci := 5) (j := 5) (T := TX5) rfl inX5 (by decide) fl_RX5_19 dX5_acts_77) ?_
  refine snd_c (s_iload C dX5_acts_80) ?_
  refine snd_c (s_iconst C dX5_acts_82 rfl) ?_
  refine snd_c (s_iadd C dX5_acts_83) ?_
  refine snd_c (s_iload_n C rfl dX5_acts_84) ?_
  refine snd_c (s_iast C dX5_acts_85) ?_
  refine snd_c (s_aload_n C rfl dX5_acts_86) ?_
  refine snd_c (s_getf C (ci := 5) (j := 5) (T := TX5) rfl inX5 (by decide) fl_RX5_19 dX5_acts_87) ?_
  refine snd_c (s_iload C dX5_acts_90) ?_
  refine snd_c (s_iconst C dX5_acts_92 rfl) ?_
  refine snd_c (s_iadd C dX5_acts_93) ?_
  refine snd_c (s_iload_n C rfl dX5_acts_94) ?_
  refine snd_c (s_iast C dX5_acts_95) ?_
  refine snd_c (s_aload_n C rfl dX5_acts_96) ?_
  refine snd_c (s_getf C (ci := 5) (j := 5) (T := TX5) rfl inX5 (by decide) fl_RX5_19 dX5_acts_97) ?_
  refine snd_c (s_bipush C dX5_acts_100 rfl) ?_
  refine snd_c (s_dup2 C dX5_acts_102) ?_
  refine snd_c (s_iald C dX5_acts_103) ?_
  refine snd_c (s_iconst C dX5_acts_104 rfl) ?_
  refine snd_c (s_iadd C dX5_acts_105) ?_
  refine snd_c (s_iast C dX5_acts_106) ?_
  refine snd_c (s_ret C hr dX5_acts_107) ?_
  exact trivial
theorem nI_m3 (u : Nat) : (3 : Int32) * nI u = nI (3 * u) := pk_mul 3 u
set_option maxRecDepth 100000 in
theorem v_X5_acts : ∀ as M post, S_X5_acts as M post → wsum as ≤ 5 ∧ RUN (T_X5_acts post) 0 (entL 5 as) [] M := by
  rintro as M post ⟨x, y, z, u, rfl, hu, hu10, h⟩
  refine ⟨by show 4 ≤ 5; omega, run_of [16] (fun μ pc lv st M' => st = [] ∧ pc = 16 ∧ ∃ i, 18 ≤ i ∧ i ≤ 45 ∧ u = 10 ∧ M' = sA 33 (sh3 (M.2.2 33) i) M ∧ 100 - i = μ ∧ lv = [some (VR 39), some (VI x), some (VI y), some (VI z), some (VI (nI i))]) 80 200 ?_ ?_⟩
  · rintro μ pc lv st M' ⟨rfl, rfl, i, hi1, hi, rfl, rfl, rfl, rfl⟩
    dsimp only [k_X5_acts_0, k_X5_acts_1, k_X5_acts_4, k_X5_acts_6, k_X5_acts_7, k_X5_acts_9, k_X5_acts_12, k_X5_acts_14, k_X5_acts_16, k_X5_acts_18, k_X5_acts_20, k_X5_acts_23, k_X5_acts_24, k_X5_acts_27, k_X5_acts_29, k_X5_acts_30, k_X5_acts_33, k_X5_acts_35, k_X5_acts_36, k_X5_acts_37, k_X5_acts_38, k_X5_acts_39, k_X5_acts_42, k_X5_acts_45, k_X5_acts_46, k_X5_acts_49, k_X5_acts_51, k_X5_acts_53, k_X5_acts_54, k_X5_acts_56, k_X5_acts_57, k_X5_acts_58, k_X5_acts_61, k_X5_acts_63, k_X5_acts_64, k_X5_acts_65, k_X5_acts_66, k_X5_acts_68, k_X5_acts_69, k_X5_acts_72, k_X5_acts_74, k_X5_acts_75, k_X5_acts_76, k_X5_acts_77, k_X5_acts_80, k_X5_acts_82, k_X5_acts_83, k_X5_acts_84, k_X5_acts_85, k_X5_acts_86, k_X5_acts_87, k_X5_acts_90, k_X5_acts_92, k_X5_acts_93, k_X5_acts_94, k_X5_acts_95, k_X5_acts_96, k_X5_acts_97, k_X5_acts_100, k_X5_acts_102, k_X5_acts_103, k_X5_acts_104, k_X5_acts_105, k_X5_acts_106, k_X5_acts_107, wp1, wp_s, cutIn, kont, Nat.reduceSub, Nat.reduceAdd, nth, o_const, o_lconst, o_ref, o_iload, o_lload, o_aload, o_istore, o_lstore, o_astore, o_iinc, o_bin, o_div, o_un, o_lbin, o_lsh, o_lcmp, o_i2l, o_l2i, o_if, o_icmp, o_goto, o_dup, o_dup2, o_pop, fav, o_getf, o_putI, o_putZ, o_putL, o_ald, o_ast, o_alen, popn, rst, o_callV, o_callT, o_callS, swx, o_sw, o_ret, o_iret, o_zret, o_cret, o_lret, o_aret, lg, lput, lput2, ls1, isL, entL, wsum, rdI1, rdI2, rdA1, rdA21, rdA22, rdL1, rdL22, rdL21, upN_at, rep, sh_0, F_0_0, F_0_1, F_0_2, F_0_3, F_0_4, F_0_5, F_0_6, F_0_7, F_0_8, sh_1, F_1_0, F_1_1, F_1_2, F_1_3, F_1_4, F_1_5, sh_3, F_3_0, F_3_1, F_3_2, F_3_3, F_3_4, F_3_5, sh_5, F_5_0, F_5_1, F_5_2, F_5_3, F_5_4, F_5_5, F_5_6, F_5_7, F_5_8, sh_12, F_12_0, F_12_1, F_12_2, F_12_3, F_12_4, F_12_5, sh_14, F_14_0, F_14_1, F_14_2, F_14_3, F_14_4, F_14_5, F_14_6, F_14_7, F_14_8, sh_21, F_21_0, F_21_1, F_21_2, F_21_3, F_21_4, F_21_5, F_21_6, F_21_7, F_21_8, sh_28, F_28_0, F_28_1, F_28_2, F_28_3, F_28_4, F_28_5, F_28_6, F_28_7, F_28_8, sh_35, F_35_0, sh_39, F_39_0, F_39_1, F_39_2, F_39_3, F_39_4, F_39_5, F_39_6, F_39_7, F_39_8, F_39_9, F_39_10, F_39_11, F_39_12, F_39_13, A_2, A_4, A_6, A_7, A_8, A_9, A_10, A_11, A_13, A_15, A_16, A_17, A_18, A_19, A_20, A_22, A_23, A_24, A_25, A_26, A_27, A_29, A_30, A_31, A_32, A_33, A_34, A_36, A_37, A_38, A_40, A_41, A_42, A_43, A_44, A_45, A_46, A_47]
    rw [show (45 : Int32) = nI 45 from rfl]
    simp (disch := omega) only [nI_leI, nI_ltI, nI_eq, nI_1, nI_add, one_shl, nI_or, nI_xor, nI_and, bit_0, bit_1, true_or, or_true, true_and, and_true, eq_self, not_true_eq_false, not_false_eq_true, forall_const]
    refine ⟨fun w1 => ?_, fun w1 => ⟨i + 3, by omega, nI_add i 3, i, by omega, rfl, cut _ _ ⟨rfl, rfl, i + 1, by omega, by omega, ?_, rfl, rfl⟩ (by omega) ⟨rfl, rfl, rfl, rfl, vi_eq (by first | rfl | exact nI_1 _), trivial⟩⟩⟩
    · have e : i = 45 := by omega
      subst e
      refine ⟨17, by omega, rfl, 17, by omega, rfl, 18 + 3 * 9, by omega, by rw [upd_s, show (9 : Int32) = nI 9 from rfl, nI_m3]; exact nI_add 18 _, 18 + 3 * 9 + 1, by omega, by rw [upd_s, show (9 : Int32) = nI 9 from rfl, nI_m3, show (18 : Int32) = nI 18 from rfl, nI_add, nI_1], 18 + 3 * 9 + 2, by omega, by rw [upd_s, show (9 : Int32) = nI 9 from rfl, nI_m3, show (18 : Int32) = nI 18 from rfl, show (2 : Int32) = nI 2 from rfl, nI_add, nI_add], 17, by omega, rfl, 17, by omega, rfl, ?_⟩
      simp only [sA_sA, sA_cm, sI_sA, sI_sI, sI_cm, sL_sA, sL_sI, sL_sL, sL_cm, Nat.reduceLT]
      rw [upd_n _ _ (by omega), upd_n _ _ (by omega), upd_n _ _ (by omega), upd_s]
      unfold ac3 ps3 at h
      rw [if_pos rfl] at h
      exact h
    · rw [sA_sA]
      congr 1
      funext j
      by_cases e : j = i
      · subst e; rw [upd_s]; unfold sh3; dsimp only; rw [if_neg (by omega), if_pos (by omega)]
      · rw [upd_n _ _ e]; unfold sh3
        by_cases e2 : 18 ≤ j ∧ j < i
        · rw [if_pos e2, if_pos (by omega)]
        · rw [if_neg e2, if_neg (by omega)]
  · dsimp only [k_X5_acts_0, k_X5_acts_1, k_X5_acts_4, k_X5_acts_6, k_X5_acts_7, k_X5_acts_9, k_X5_acts_12, k_X5_acts_14, k_X5_acts_16, k_X5_acts_18, k_X5_acts_20, k_X5_acts_23, k_X5_acts_24, k_X5_acts_27, k_X5_acts_29, k_X5_acts_30, k_X5_acts_33, k_X5_acts_35, k_X5_acts_36, k_X5_acts_37, k_X5_acts_38, k_X5_acts_39, k_X5_acts_42, k_X5_acts_45, k_X5_acts_46, k_X5_acts_49, k_X5_acts_51, k_X5_acts_53, k_X5_acts_54, k_X5_acts_56, k_X5_acts_57, k_X5_acts_58, k_X5_acts_61, k_X5_acts_63, k_X5_acts_64, k_X5_acts_65, k_X5_acts_66, k_X5_acts_68, k_X5_acts_69, k_X5_acts_72, k_X5_acts_74, k_X5_acts_75, k_X5_acts_76, k_X5_acts_77, k_X5_acts_80, k_X5_acts_82, k_X5_acts_83, k_X5_acts_84, k_X5_acts_85, k_X5_acts_86, k_X5_acts_87, k_X5_acts_90, k_X5_acts_92, k_X5_acts_93, k_X5_acts_94, k_X5_acts_95, k_X5_acts_96, k_X5_acts_97, k_X5_acts_100, k_X5_acts_102, k_X5_acts_103, k_X5_acts_104, k_X5_acts_105, k_X5_acts_106, k_X5_acts_107, wp1, wp_s, cutIn, kont, Nat.reduceSub, Nat.reduceAdd, nth, o_const, o_lconst, o_ref, o_iload, o_lload, o_aload, o_istore, o_lstore, o_astore, o_iinc, o_bin, o_div, o_un, o_lbin, o_lsh, o_lcmp, o_i2l, o_l2i, o_if, o_icmp, o_goto, o_dup, o_dup2, o_pop, fav, o_getf, o_putI, o_putZ, o_putL, o_ald, o_ast, o_alen, popn, rst, o_callV, o_callT, o_callS, swx, o_sw, o_ret, o_iret, o_zret, o_cret, o_lret, o_aret, lg, lput, lput2, ls1, isL, entL, wsum, rdI1, rdI2, rdA1, rdA21, rdA22, rdL1, rdL22, rdL21, upN_at, rep, sh_0, F_0_0, F_0_1, F_0_2, F_0_3, F_0_4, F_0_5, F_0_6, F_0_7, F_0_8, sh_1, F_1_0, F_1_1, F_1_2, F_1_3, F_1_4, F_1_5, sh_3, F_3_0, F_3_1, F_3_2, F_3_3, F_3_4, F_3_5, sh_5, F_5_0, F_5_1, F_5_2, F_5_3, F_5_4, F_5_5, F_5_6, F_5_7, F_5_8, sh_12, F_12_0, F_12_1, F_12_2, F_12_3, F_12_4, F_12_5, sh_14, F_14_0, F_14_1, F_14_2, F_14_3, F_14_4, F_14_5, F_14_6, F_14_7, F_14_8, sh_21, F_21_0, F_21_1, F_21_2, F_21_3, F_21_4, F_21_5, F_21_6, F_21_7, F_21_8, sh_28, F_28_0, F_28_1, F_28_2, F_28_3, F_28_4, F_28_5, F_28_6, F_28_7, F_28_8, sh_35, F_35_0, sh_39, F_39_0, F_39_1, F_39_2, F_39_3, F_39_4, F_39_5, F_39_6, F_39_7, F_39_8, F_39_9, F_39_10, F_39_11, F_39_12, F_39_13, A_2, A_4, A_6, A_7, A_8, A_9, A_10, A_11, A_13, A_15, A_16, A_17, A_18, A_19, A_20, A_22, A_23, A_24, A_25, A_26, A_27, A_29, A_30, A_31, A_32, A_33, A_34, A_36, A_37, A_38, A_40, A_41, A_42, A_43, A_44, A_45, A_46, A_47]
    refine ⟨17, by omega, rfl, ?_⟩
    refine ⟨fun w1 => ?_, fun w1 => ?_⟩
    · have e : u = 10 := by
        rw [hu, show (10 : Int32) = nI 10 from rfl, nI_eq (by omega) (by omega)] at w1
        exact w1
      refine cut _ _ ⟨rfl, rfl, 18, by omega, by omega, e, ?_, rfl, rfl⟩ (by omega) ⟨rfl, rfl, rfl, rfl, rfl, trivial⟩
      rw [show sh3 (M.2.2 33) 18 = M.2.2 33 from funext fun j => by unfold sh3; rw [if_neg (by omega)]]
      exact (sA_self 33 M).symm
    · have e : u ≠ 10 := fun e => w1 (by rw [hu, e]; rfl)
      refine ⟨17, by omega, rfl, 18 + 3 * u, by omega, by rw [hu, nI_m3]; exact nI_add 18 _, 18 + 3 * u + 1, by omega, by rw [hu, nI_m3, show (18 : Int32) = nI 18 from rfl, nI_add, nI_1], 18 + 3 * u + 2, by omega, by rw [hu, nI_m3, show (18 : Int32) = nI 18 from rfl, show (2 : Int32) = nI 2 from rfl, nI_add, nI_add], 17, by omega, rfl, 17, by omega, rfl, ?_⟩
      simp only [sA_sA, sA_cm, sI_sA, sI_sI, sI_cm, sL_sA, sL_sI, sL_sL, sL_cm, Nat.reduceLT]
      rw [upd_n _ _ (by omega), upd_n _ _ (by omega), upd_n _ _ (by omega), hu, nI_1]
      unfold ac3 ps3 at h
      rw [if_neg e] at h
      exact h
theorem c_X5_acts : Ctr yX5_acts cX5_acts 5 none ({ frames := 0, cells := 0, slots := 0, locals := 0 } : Room) S_X5_acts := ctr_of (T := T_X5_acts) (by decide +kernel) (fun post C hr => t_X5_acts post C hr) v_X5_acts
def S_X5_moves : SP := fun as M post => ∃ k y u, as = [VR 39, VI (nI k), VI y] ∧ k < 8 ∧ M.2.2 33 17 = nI u ∧ u ≤ 10 ∧ ((M.2.2 33 (9 + k) = -3 ∨ M.2.2 33 (9 + k) = y) → post (some (VI (-2))) M) ∧ (¬ (M.2.2 33 (9 + k) = -3 ∨ M.2.2 33 (9 + k) = y) → post (some (VI (M.2.2 33 (9 + k)))) (sA 33 (ac3 (upd (M.2.2 33) (9 + k) y) u 1 (nI k) (M.2.2 33 (9 + k))) M))
def S_X5_cut : SP := fun as M post => ∃ x n u, as = [VR 39, VI x] ∧ M.2.2 33 0 = nI n ∧ n ≤ 8 ∧ M.2.2 33 17 = nI u ∧ u ≤ 10 ∧ (¬ (0 ≤ x ∧ x ≤ 511) → post (some (VI (-1))) M) ∧ ((0 ≤ x ∧ x ≤ 511) → n = 8 → post (some (VI (-3))) M) ∧ ((0 ≤ x ∧ x ≤ 511) → n < 8 → post (some (VI (nI n))) (sA 33 (ac3 (upd (upd (upd (M.2.2 33) (1 + n) x) (9 + n) (-4)) 0 (nI (n + 1))) u 0 (nI n) 0) M))
def S_X5_forge : SP := fun as M post => ∃ x y n c p r h lk u, as = [VR 39, VI x, VI y] ∧ MW M n c p r h lk ∧ M.2.2 33 17 = nI u ∧ u ≤ 10 ∧ (¬ ((0 ≤ x ∧ x < nI n) ∧ (0 ≤ y ∧ y ≤ 8)) → post (some (VI (-1))) M) ∧ (∀ k, x = nI k → k < n → (0 ≤ y ∧ y ≤ 8) → h k = -3 → post (some (VI (-2))) M) ∧ (∀ k t, x = nI k → k < n → y = nI t → t ≤ 8 → ¬ h k = -3 → post (some (VI (nI (r k ^^^ 2 ^ t)))) (sA 33 (ac3 (upd (M.2.2 33) (1 + k) (nI (r k ^^^ 2 ^ t))) u 2 (nI k) (nI t)) M))
def S_X5_undo : SP := fun as M post => ∃ u, as = [VR 39] ∧ M.2.2 33 17 = nI u ∧ u ≤ 10 ∧ (u = 0 → post (some (VI (-2))) M) ∧ (∀ v, u = v + 1 → ∃ k, M.2.2 33 (18 + 3 * v + 1) = nI k ∧ k < 8 ∧ (M.2.2 33 (18 + 3 * v) = 0 → post (some (VI (nI v))) (sA 33 (upd (upd (M.2.2 33) 17 (nI v)) 0 (M.2.2 33 0 - 1)) M)) ∧ (M.2.2 33 (18 + 3 * v) = 1 → post (some (VI (nI v))) (sA 33 (upd (upd (M.2.2 33) 17 (nI v)) (9 + k) (M.2.2 33 (18 + 3 * v + 2))) M)) ∧ (¬ M.2.2 33 (18 + 3 * v) = 0 → ¬ M.2.2 33 (18 + 3 * v) = 1 → post (some (VI (nI v))) (sA 33 (upd (upd (M.2.2 33) 17 (nI v)) (1 + k) (M.2.2 33 (1 + k) ^^^ (1 : Int32) <<< (M.2.2 33 (18 + 3 * v + 2) &&& 31))) M)))
theorem cw_RX5_113 : ∀ w ∈ ([.methodLink RX5 113 yX5_acts, .instanceMethod yX5_acts, .selects yX5_acts.cls yX5_acts yX5_acts, .initialized yX5_acts.cls, .code yX5_acts cX5_acts 5 none] : List Cond), w ∈ tb := tb_all [768, 770, 43, 59, 771] (by decide +kernel) (by decide +kernel)
theorem dX5_moves_0 : decode cX5_moves 0 = .ok (.aload_n 0, 1) := by decide +kernel
theorem dX5_moves_1 : decode cX5_moves 1 = .ok (.getfield 19, 3) := by decide +kernel
theorem dX5_moves_4 : decode cX5_moves 4 = .ok (.bipush 9, 2) := by decide +kernel
theorem dX5_moves_6 : decode cX5_moves 6 = .ok (.iload_n 1, 1) := by decide +kernel
theorem dX5_moves_7 : decode cX5_moves 7 = .ok (.iadd, 1) := by decide +kernel
theorem dX5_moves_8 : decode cX5_moves 8 = .ok (.iaload, 1) := by decide +kernel
theorem dX5_moves_9 : decode cX5_moves 9 = .ok (.istore_n 3, 1) := by decide +kernel
theorem dX5_moves_10 : decode cX5_moves 10 = .ok (.iload_n 3, 1) := by decide +kernel
theorem dX5_moves_11 : decode cX5_moves 11 = .ok (.bipush (-3), 2) := by decide +kernel
theorem dX5_moves_13 : decode cX5_moves 13 = .ok (.if_icmp .eq 8, 3) := by decide +kernel
theorem dX5_moves_16 : decode cX5_moves 16 = .ok (.iload_n 3, 1) := by decide +kernel
theorem dX5_moves_17 : decode cX5_moves 17 = .ok (.iload_n 2, 1) := by decide +kernel
theorem dX5_moves_18 : decode cX5_moves 18 = .ok (.if_icmp .ne 6, 3) := by decide +kernel
theorem dX5_moves_21 : decode cX5_moves 21 = .ok (.bipush (-2), 2) := by decide +kernel
theorem dX5_moves_23 : decode cX5_moves 23 = .ok (.ireturn, 1) := by decide +kernel
theorem dX5_moves_24 : decode cX5_moves 24 = .ok (.aload_n 0, 1) := by decide +kernel
theorem dX5_moves_25 : decode cX5_moves 25 = .ok (.getfield 19, 3) := by decide +kernel
theorem dX5_moves_28 : decode cX5_moves 28 = .ok (.bipush 9, 2) := by decide +kernel
theorem dX5_moves_30 : decode cX5_moves 30 = .ok (.iload_n 1, 1) := by decide +kernel
theorem dX5_moves_31 : decode cX5_moves 31 = .ok (.iadd, 1) := by decide +kernel
theorem dX5_moves_32 : decode cX5_moves 32 = .ok (.iload_n 2, 1) := by decide +kernel
theorem dX5_moves_33 : decode cX5_moves 33 = .ok (.iastore, 1) := by decide +kernel
theorem dX5_moves_34 : decode cX5_moves 34 = .ok (.aload_n 0, 1) := by decide +kernel
theorem dX5_moves_35 : decode cX5_moves 35 = .ok (.iconst 1, 1) := by decide +kernel
theorem dX5_moves_36 : decode cX5_moves 36 = .ok (.iload_n 1, 1) := by decide +kernel
theorem dX5_moves_37 : decode cX5_moves 37 = .ok (.iload_n 3, 1) := by decide +kernel
theorem dX5_moves_38 : decode cX5_moves 38 = .ok (.invokevirtual 113, 3) := by decide +kernel
theorem dX5_moves_41 : decode cX5_moves 41 = .ok (.iload_n 3, 1) := by decide +kernel
theorem dX5_moves_42 : decode cX5_moves 42 = .ok (.ireturn, 1) := by decide +kernel
def T_X5_moves (post : PO) : List (Nat × OP) := [(0, o_aload 0 1), (1, o_getf 5 5 4), (4, o_const 9 6), (6, o_iload 1 7), (7, o_bin (fun x y => x + y) 8), (8, o_ald 0 9), (9, o_istore 3 10), (10, o_iload 3 11), (11, o_const (-3) 13), (13, o_icmp (fun x y => x = y) 21 16), (16, o_iload 3 17), (17, o_iload 2 18), (18, o_icmp (fun x y => x = y) 21 24), (21, o_const (-2) 23), (23, o_iret post), (24, o_aload 0 25), (25, o_getf 5 5 28), (28, o_const 9 30), (30, o_iload 1 31), (31, o_bin (fun x y => x + y) 32), (32, o_iload 2 33), (33, o_ast 0 (fun x => x) 34), (34, o_aload 0 35), (35, o_const 1 36), (36, o_iload 1 37), (37, o_iload 3 38), (38, o_callV 5 S_X5_acts 3 41), (41, o_iload 3 42), (42, o_iret post)]
theorem k_X5_moves_0 (post : PO) : lk (T_X5_moves post) 0 = o_aload 0 1 := rfl
theorem k_X5_moves_1 (post : PO) : lk (T_X5_moves post) 1 = o_getf 5 5 4 := rfl
theorem k_X5_moves_4 (post : PO) : lk (T_X5_moves post) 4 = o_const 9 6 := rfl
theorem k_X5_moves_6 (post : PO) : lk (T_X5_moves post) 6 = o_iload 1 7 := rfl
theorem k_X5_moves_7 (post : PO) : lk (T_X5_moves post) 7 = o_bin (fun x y => x + y) 8 := rfl
theorem k_X5_moves_8 (post : PO) : lk (T_X5_moves post) 8 = o_ald 0 9 := rfl
theorem k_X5_moves_9 (post : PO) : lk (T_X5_moves post) 9 = o_istore 3 10 := rfl
theorem k_X5_moves_10 (post : PO) : lk (T_X5_moves post) 10 = o_iload 3 11 := rfl
theorem k_X5_moves_11 (post : PO) : lk (T_X5_moves post) 11 = o_const (-3) 13 := rfl
theorem k_X5_moves_13 (post : PO) : lk (T_X5_moves post) 13 = o_icmp (fun x y => x = y) 21 16 := rfl
theorem k_X5_moves_16 (post : PO) : lk (T_X5_moves post) 16 = o_iload 3 17 := rfl
theorem k_X5_moves_17 (post : PO) : lk (T_X5_moves post) 17 = o_iload 2 18 := rfl
theorem k_X5_moves_18 (post : PO) : lk (T_X5_moves post) 18 = o_icmp (fun x y => x = y) 21 24 := rfl
theorem k_X5_moves_21 (post : PO) : lk (T_X5_moves post) 21 = o_const (-2) 23 := rfl
theorem k_X5_moves_23 (post : PO) : lk (T_X5_moves post) 23 = o_iret post := rfl
theorem k_X5_moves_24 (post : PO) : lk (T_X5_moves post) 24 = o_aload 0 25 := rfl
theorem k_X5_moves_25 (post : PO) : lk (T_X5_moves post) 25 = o_getf 5 5 28 := rfl
theorem k_X5_moves_28 (post : PO) : lk (T_X5_moves post) 28 = o_const 9 30 := rfl
theorem k_X5_moves_30 (post : PO) : lk (T_X5_moves post) 30 = o_iload 1 31 := rfl
theorem k_X5_moves_31 (post : PO) : lk (T_X5_moves post) 31 = o_bin (fun x y => x + y) 32 := rfl
theorem k_X5_moves_32 (post : PO) : lk (T_X5_moves post) 32 = o_iload 2 33 := rfl
theorem k_X5_moves_33 (post : PO) : lk (T_X5_moves post) 33 = o_ast 0 (fun x => x) 34 := rfl
theorem k_X5_moves_34 (post : PO) : lk (T_X5_moves post) 34 = o_aload 0 35 := rfl
theorem k_X5_moves_35 (post : PO) : lk (T_X5_moves post) 35 = o_const 1 36 := rfl
theorem k_X5_moves_36 (post : PO) : lk (T_X5_moves post) 36 = o_iload 1 37 := rfl
theorem k_X5_moves_37 (post : PO) : lk (T_X5_moves post) 37 = o_iload 3 38 := rfl
theorem k_X5_moves_38 (post : PO) : lk (T_X5_moves post) 38 = o_callV 5 S_X5_acts 3 41 := rfl
theorem k_X5_moves_41 (post : PO) : lk (T_X5_moves post) 41 = o_iload 3 42 := rfl
theorem k_X5_moves_42 (post : PO) : lk (T_X5_moves post) 42 = o_iret post := rfl
set_option maxRecDepth 100000 in
theorem t_X5_moves {p : Program} {l : Launch} {e : Env} {s : State} {m : MethodId} {args : Array Value} {below : List Frame} {meth : Method} {c : Code} {D : va_G} {dA : Nat → ClassId} {ad : Nat → Nat} (post : PO) (C : CX p s m args meth c cX5_moves 4 yX5_moves.cls D dA ad (AA ad s.heap.size)) (hr : meth.sig.returnType = (some .int)) : SndL (WW p l e ({ frames := 1, cells := 0, slots := 0, locals := 24 } : Room) s m args below meth c 0 0 (MQ below (CQ D dA ad post (AA ad s.heap.size)) args s 0 0 (AA ad s.heap.size)) 4 D dA ad (AA ad s.heap.size)) (T_X5_moves post) := by
  refine snd_c (s_aload_n C rfl dX5_moves_0) ?_
  refine snd_c (s_getf C (ci := 5) (j := 5) (T := TX5) rfl inX5 (by decide) fl_RX5_19 dX5_moves_1) ?_
  refine snd_c (s_bipush C dX5_moves_4 rfl) ?_
  refine snd_c (s_iload_n C rfl dX5_moves_6) ?_
  refine snd_c (s_iadd C dX5_moves_7) ?_
  refine snd_c (s_iald C dX5_moves_8) ?_
  refine snd_c (s_istore_n C rfl (by decide) dX5_moves_9) ?_
  refine snd_c (s_iload_n C rfl dX5_moves_10) ?_
  refine snd_c (s_bipush C dX5_moves_11 rfl) ?_
  refine snd_c (s_icmp_eq C dX5_moves_13 (by decide)) ?_
  refine snd_c (s_iload_n C rfl dX5_moves_16) ?_
  refine snd_c (s_iload_n C rfl dX5_moves_17) ?_
  refine snd_c (s_icmp_ne C dX5_moves_18 (by decide)) ?_
  refine snd_c (s_bipush C dX5_moves_21 rfl) ?_
  refine snd_c (s_iret C hr dX5_moves_23) ?_
  refine snd_c (s_aload_n C rfl dX5_moves_24) ?_
  refine snd_c (s_getf C (ci := 5) (j := 5) (T := TX5) rfl inX5 (by decide) fl_RX5_19 dX5_moves_25) ?_
  refine snd_c (s_bipush C dX5_moves_28 rfl) ?_
  refine snd_c (s_iload_n C rfl dX5_moves_30) ?_
  refine snd_c (s_iadd C dX5_moves_31) ?_
  refine snd_c (s_iload_n C rfl dX5_moves_32) ?_
  refine snd_c (s_iast C dX5_moves_33) ?_
  refine snd_c (s_aload_n C rfl dX5_moves_34) ?_
  refine snd_c (s_iconst C dX5_moves_35 rfl) ?_
  refine snd_c (s_iload_n C rfl dX5_moves_36) ?_
  refine snd_c (s_iload_n C rfl dX5_moves_37) ?_
  refine snd_c (s_callV C (ci := 5) c_X5_acts rfl cw_RX5_113 ⟨rfl, rfl⟩ ⟨by decide +kernel, by decide +kernel, by decide +kernel⟩ ⟨by decide, by decide⟩ ⟨Nat.zero_le _, Nat.zero_le _⟩ dX5_moves_38) ?_
  refine snd_c (s_iload_n C rfl dX5_moves_41) ?_
  refine snd_c (s_iret C hr dX5_moves_42) ?_
  exact trivial
theorem dX5_cut_0 : decode cX5_cut 0 = .ok (.iload_n 1, 1) := by decide +kernel
theorem dX5_cut_1 : decode cX5_cut 1 = .ok (.iconst 0, 1) := by decide +kernel
theorem dX5_cut_2 : decode cX5_cut 2 = .ok (.sipush 511, 3) := by decide +kernel
theorem dX5_cut_5 : decode cX5_cut 5 = .ok (.invokestatic 35, 3) := by decide +kernel
theorem dX5_cut_8 : decode cX5_cut 8 = .ok (.ifCond .ne 5, 3) := by decide +kernel
theorem dX5_cut_11 : decode cX5_cut 11 = .ok (.iconst (-1), 1) := by decide +kernel
theorem dX5_cut_12 : decode cX5_cut 12 = .ok (.ireturn, 1) := by decide +kernel
theorem dX5_cut_13 : decode cX5_cut 13 = .ok (.aload_n 0, 1) := by decide +kernel
theorem dX5_cut_14 : decode cX5_cut 14 = .ok (.getfield 19, 3) := by decide +kernel
theorem dX5_cut_17 : decode cX5_cut 17 = .ok (.iconst 0, 1) := by decide +kernel
theorem dX5_cut_18 : decode cX5_cut 18 = .ok (.iaload, 1) := by decide +kernel
theorem dX5_cut_19 : decode cX5_cut 19 = .ok (.bipush 8, 2) := by decide +kernel
theorem dX5_cut_21 : decode cX5_cut 21 = .ok (.if_icmp .ne 6, 3) := by decide +kernel
theorem dX5_cut_24 : decode cX5_cut 24 = .ok (.bipush (-3), 2) := by decide +kernel
theorem dX5_cut_26 : decode cX5_cut 26 = .ok (.ireturn, 1) := by decide +kernel
theorem dX5_cut_27 : decode cX5_cut 27 = .ok (.aload_n 0, 1) := by decide +kernel
theorem dX5_cut_28 : decode cX5_cut 28 = .ok (.getfield 19, 3) := by decide +kernel
theorem dX5_cut_31 : decode cX5_cut 31 = .ok (.iconst 0, 1) := by decide +kernel
theorem dX5_cut_32 : decode cX5_cut 32 = .ok (.iaload, 1) := by decide +kernel
theorem dX5_cut_33 : decode cX5_cut 33 = .ok (.istore_n 2, 1) := by decide +kernel
theorem dX5_cut_34 : decode cX5_cut 34 = .ok (.aload_n 0, 1) := by decide +kernel
theorem dX5_cut_35 : decode cX5_cut 35 = .ok (.getfield 19, 3) := by decide +kernel
theorem dX5_cut_38 : decode cX5_cut 38 = .ok (.iconst 1, 1) := by decide +kernel
theorem dX5_cut_39 : decode cX5_cut 39 = .ok (.iload_n 2, 1) := by decide +kernel
theorem dX5_cut_40 : decode cX5_cut 40 = .ok (.iadd, 1) := by decide +kernel
theorem dX5_cut_41 : decode cX5_cut 41 = .ok (.iload_n 1, 1) := by decide +kernel
theorem dX5_cut_42 : decode cX5_cut 42 = .ok (.iastore, 1) := by decide +kernel
theorem dX5_cut_43 : decode cX5_cut 43 = .ok (.aload_n 0, 1) := by decide +kernel
theorem dX5_cut_44 : decode cX5_cut 44 = .ok (.getfield 19, 3) := by decide +kernel
theorem dX5_cut_47 : decode cX5_cut 47 = .ok (.bipush 9, 2) := by decide +kernel
theorem dX5_cut_49 : decode cX5_cut 49 = .ok (.iload_n 2, 1) := by decide +kernel
theorem dX5_cut_50 : decode cX5_cut 50 = .ok (.iadd, 1) := by decide +kernel
theorem dX5_cut_51 : decode cX5_cut 51 = .ok (.bipush (-4), 2) := by decide +kernel
theorem dX5_cut_53 : decode cX5_cut 53 = .ok (.iastore, 1) := by decide +kernel
theorem dX5_cut_54 : decode cX5_cut 54 = .ok (.aload_n 0, 1) := by decide +kernel
theorem dX5_cut_55 : decode cX5_cut 55 = .ok (.getfield 19, 3) := by decide +kernel
theorem dX5_cut_58 : decode cX5_cut 58 = .ok (.iconst 0, 1) := by decide +kernel
theorem dX5_cut_59 : decode cX5_cut 59 = .ok (.dup2, 1) := by decide +kernel
theorem dX5_cut_60 : decode cX5_cut 60 = .ok (.iaload, 1) := by decide +kernel
theorem dX5_cut_61 : decode cX5_cut 61 = .ok (.iconst 1, 1) := by decide +kernel
theorem dX5_cut_62 : decode cX5_cut 62 = .ok (.iadd, 1) := by decide +kernel
theorem dX5_cut_63 : decode cX5_cut 63 = .ok (.iastore, 1) := by decide +kernel
theorem dX5_cut_64 : decode cX5_cut 64 = .ok (.aload_n 0, 1) := by decide +kernel
theorem dX5_cut_65 : decode cX5_cut 65 = .ok (.iconst 0, 1) := by decide +kernel
theorem dX5_cut_66 : decode cX5_cut 66 = .ok (.iload_n 2, 1) := by decide +kernel
theorem dX5_cut_67 : decode cX5_cut 67 = .ok (.iconst 0, 1) := by decide +kernel
theorem dX5_cut_68 : decode cX5_cut 68 = .ok (.invokevirtual 113, 3) := by decide +kernel
theorem dX5_cut_71 : decode cX5_cut 71 = .ok (.iload_n 2, 1) := by decide +kernel
theorem dX5_cut_72 : decode cX5_cut 72 = .ok (.ireturn, 1) := by decide +kernel
def T_X5_cut (post : PO) : List (Nat × OP) := [(0, o_iload 1 1), (1, o_const 0 2), (2, o_const 511 5), (5, o_callS S_X5_in 3 8), (8, o_if (fun x => x = 0) 11 13), (11, o_const (-1) 12), (12, o_iret post), (13, o_aload 0 14), (14, o_getf 5 5 17), (17, o_const 0 18), (18, o_ald 0 19), (19, o_const 8 21), (21, o_icmp (fun x y => x = y) 24 27), (24, o_const (-3) 26), (26, o_iret post), (27, o_aload 0 28), (28, o_getf 5 5 31), (31, o_const 0 32), (32, o_ald 0 33), (33, o_istore 2 34), (34, o_aload 0 35), (35, o_getf 5 5 38), (38, o_const 1 39), (39, o_iload 2 40), (40, o_bin (fun x y => x + y) 41), (41, o_iload 1 42), (42, o_ast 0 (fun x => x) 43), (43, o_aload 0 44), (44, o_getf 5 5 47), (47, o_const 9 49), (49, o_iload 2 50), (50, o_bin (fun x y => x + y) 51), (51, o_const (-4) 53), (53, o_ast 0 (fun x => x) 54), (54, o_aload 0 55), (55, o_getf 5 5 58), (58, o_const 0 59), (59, o_dup2 60), (60, o_ald 0 61), (61, o_const 1 62), (62, o_bin (fun x y => x + y) 63), (63, o_ast 0 (fun x => x) 64), (64, o_aload 0 65), (65, o_const 0 66), (66, o_iload 2 67), (67, o_const 0 68), (68, o_callV 5 S_X5_acts 3 71), (71, o_iload 2 72), (72, o_iret post)]
theorem k_X5_cut_0 (post : PO) : lk (T_X5_cut post) 0 = o_iload 1 1 := rfl
theorem k_X5_cut_1 (post : PO) : lk (T_X5_cut post) 1 = o_const 0 2 := rfl
theorem k_X5_cut_2 (post : PO) : lk (T_X5_cut post) 2 = o_const 511 5 := rfl
theorem k_X5_cut_5 (post : PO) : lk (T_X5_cut post) 5 = o_callS S_X5_in 3 8 := rfl
theorem k_X5_cut_8 (post : PO) : lk (T_X5_cut post) 8 = o_if (fun x => x = 0) 11 13 := rfl
theorem k_X5_cut_11 (post : PO) : lk (T_X5_cut post) 11 = o_const (-1) 12 := rfl
theorem k_X5_cut_12 (post : PO) : lk (T_X5_cut post) 12 = o_iret post := rfl
theorem k_X5_cut_13 (post : PO) : lk (T_X5_cut post) 13 = o_aload 0 14 := rfl
theorem k_X5_cut_14 (post : PO) : lk (T_X5_cut post) 14 = o_getf 5 5 17 := rfl
theorem k_X5_cut_17 (post : PO) : lk (T_X5_cut post) 17 = o_const 0 18 := rfl
theorem k_X5_cut_18 (post : PO) : lk (T_X5_cut post) 18 = o_ald 0 19 := rfl
theorem k_X5_cut_19 (post : PO) : lk (T_X5_cut post) 19 = o_const 8 21 := rfl
theorem k_X5_cut_21 (post : PO) : lk (T_X5_cut post) 21 = o_icmp (fun x y => x = y) 24 27 := rfl
theorem k_X5_cut_24 (post : PO) : lk (T_X5_cut post) 24 = o_const (-3) 26 := rfl
theorem k_X5_cut_26 (post : PO) : lk (T_X5_cut post) 26 = o_iret post := rfl
theorem k_X5_cut_27 (post : PO) : lk (T_X5_cut post) 27 = o_aload 0 28 := rfl
theorem k_X5_cut_28 (post : PO) : lk (T_X5_cut post) 28 = o_getf 5 5 31 := rfl
theorem k_X5_cut_31 (post : PO) : lk (T_X5_cut post) 31 = o_const 0 32 := rfl
theorem k_X5_cut_32 (post : PO) : lk (T_X5_cut post) 32 = o_ald 0 33 := rfl
theorem k_X5_cut_33 (post : PO) : lk (T_X5_cut post) 33 = o_istore 2 34 := rfl
theorem k_X5_cut_34 (post : PO) : lk (T_X5_cut post) 34 = o_aload 0 35 := rfl
theorem k_X5_cut_35 (post : PO) : lk (T_X5_cut post) 35 = o_getf 5 5 38 := rfl
theorem k_X5_cut_38 (post : PO) : lk (T_X5_cut post) 38 = o_const 1 39 := rfl
theorem k_X5_cut_39 (post : PO) : lk (T_X5_cut post) 39 = o_iload 2 40 := rfl
theorem k_X5_cut_40 (post : PO) : lk (T_X5_cut post) 40 = o_bin (fun x y => x + y) 41 := rfl
theorem k_X5_cut_41 (post : PO) : lk (T_X5_cut post) 41 = o_iload 1 42 := rfl
theorem k_X5_cut_42 (post : PO) : lk (T_X5_cut post) 42 = o_ast 0 (fun x => x) 43 := rfl
theorem k_X5_cut_43 (post : PO) : lk (T_X5_cut post) 43 = o_aload 0 44 := rfl
theorem k_X5_cut_44 (post : PO) : lk (T_X5_cut post) 44 = o_getf 5 5 47 := rfl
theorem k_X5_cut_47 (post : PO) : lk (T_X5_cut post) 47 = o_const 9 49 := rfl
theorem k_X5_cut_49 (post : PO) : lk (T_X5_cut post) 49 = o_iload 2 50 := rfl
theorem k_X5_cut_50 (post : PO) : lk (T_X5_cut post) 50 = o_bin (fun x y => x + y) 51 := rfl
theorem k_X5_cut_51 (post : PO) : lk (T_X5_cut post) 51 = o_const (-4) 53 := rfl
theorem k_X5_cut_53 (post : PO) : lk (T_X5_cut post) 53 = o_ast 0 (fun x => x) 54 := rfl
theorem k_X5_cut_54 (post : PO) : lk (T_X5_cut post) 54 = o_aload 0 55 := rfl
theorem k_X5_cut_55 (post : PO) : lk (T_X5_cut post) 55 = o_getf 5 5 58 := rfl
theorem k_X5_cut_58 (post : PO) : lk (T_X5_cut post) 58 = o_const 0 59 := rfl
theorem k_X5_cut_59 (post : PO) : lk (T_X5_cut post) 59 = o_dup2 60 := rfl
theorem k_X5_cut_60 (post : PO) : lk (T_X5_cut post) 60 = o_ald 0 61 := rfl
theorem k_X5_cut_61 (post : PO) : lk (T_X5_cut post) 61 = o_const 1 62 := rfl
theorem k_X5_cut_62 (post : PO) : lk (T_X5_cut post) 62 = o_bin (fun x y => x + y) 63 := rfl
theorem k_X5_cut_63 (post : PO) : lk (T_X5_cut post) 63 = o_ast 0 (fun x => x) 64 := rfl
theorem k_X5_cut_64 (post : PO) : lk (T_X5_cut post) 64 = o_aload 0 65 := rfl
theorem k_X5_cut_65 (post : PO) : lk (T_X5_cut post) 65 = o_const 0 66 := rfl
theorem k_X5_cut_66 (post : PO) : lk (T_X5_cut post) 66 = o_iload 2 67 := rfl
theorem k_X5_cut_67 (post : PO) : lk (T_X5_cut post) 67 = o_const 0 68 := rfl
theorem k_X5_cut_68 (post : PO) : lk (T_X5_cut post) 68 = o_callV 5 S_X5_acts 3 71 := rfl
theorem k_X5_cut_71 (post : PO) : lk (T_X5_cut post) 71 = o_iload 2 72 := rfl
theorem k_X5_cut_72 (post : PO) : lk (T_X5_cut post) 72 = o_iret post := rfl
set_option maxRecDepth 100000 in
theorem t_X5_cut {p : Program} {l : Launch} {e : Env} {s : State} {m : MethodId} {args : Array Value} {below : List Frame} {meth : Method} {c : Code} {D : va_G} {dA : Nat → ClassId} {ad : Nat → Nat} (post : PO) (C : CX p s m args meth c cX5_cut 3 yX5_cut.cls D dA ad (AA ad s.heap.size)) (hr : meth.sig.returnType = (some .int)) : SndL (WW p l e ({ frames := 1, cells := 0, slots := 0, locals := 24 } : Room) s m args below meth c 0 0 (MQ below (CQ D dA ad post (AA ad s.heap.size)) args s 0 0 (AA ad s.heap.size)) 3 D dA ad (AA ad s.heap.size)) (T_X5_cut post) := by
  refine snd_c (s_iload_n C rfl dX5_cut_0) ?_
  refine snd_c (s_iconst C dX5_cut_1 rfl) ?_
  refine snd_c (s_sipush C dX5_cut_2 rfl) ?_
  refine snd_c (s_callS C c_X5_in cw_RX5_35 ⟨rfl, rfl⟩ ⟨by decide +kernel, by decide +kernel, by decide +kernel⟩ ⟨by decide, by decide⟩ ⟨Nat.zero_le _, Nat.zero_le _⟩ dX5_cut_5) ?_
  refine snd_c (s_if_ne C dX5_cut_8 (by decide)) ?_
  refine snd_c (s_iconst C dX5_cut_11 rfl) ?_
  refine snd_c (s_iret C hr dX5_cut_12) ?_
  refine snd_c (s_aload_n C rfl dX5_cut_13) ?_
  refine snd_c (s_getf C (ci := 5) (j := 5) (T := TX5) rfl inX5 (by decide) fl_RX5_19 dX5_cut_14) ?_
  refine snd_c (s_iconst C dX5_cut_17 rfl) ?_
  refine snd_c (s_iald C dX5_cut_18) ?_
  refine snd_c (s_bipush C dX5_cut_19 rfl) ?_
  refine snd_c (s_icmp_ne C dX5_cut_21 (by decide)) ?_
  refine snd_c (s_bipush C dX5_cut_24 rfl) ?_
  refine snd_c (s_iret C hr dX5_cut_26) ?_
  refine snd_c (s_aload_n C rfl dX5_cut_27) ?_
  refine snd_c (s_getf C (ci := 5) (j := 5) (T := TX5) rfl inX5 (by decide) fl_RX5_19 dX5_cut_28) ?_
  refine snd_c (s_iconst C dX5_cut_31 rfl) ?_
  refine snd_c (s_iald C dX5_cut_32) ?_
  refine snd_c (s_istore_n C rfl (by decide) dX5_cut_33) ?_
  refine snd_c (s_aload_n C rfl dX5_cut_34) ?_
  refine snd_c (s_getf C (ci := 5) (j := 5) (T := TX5) rfl inX5 (by decide) fl_RX5_19 dX5_cut_35) ?_
  refine snd_c (s_iconst C dX5_cut_38 rfl) ?_
  refine snd_c (s_iload_n C rfl dX5_cut_39) ?_
  refine snd_c (s_iadd C dX5_cut_40) ?_
  refine snd_c (s_iload_n C rfl dX5_cut_41) ?_
  refine snd_c (s_iast C dX5_cut_42) ?_
  refine snd_c (s_aload_n C rfl dX5_cut_43) ?_
  refine snd_c (s_getf C (ci := 5) (j := 5) (T := TX5) rfl inX5 (by decide) fl_RX5_19 dX5_cut_44) ?_
  refine snd_c (s_bipush C dX5_cut_47 rfl) ?_
  refine snd_c (s_iload_n C rfl dX5_cut_49) ?_
  refine snd_c (s_iadd C dX5_cut_50) ?_
  refine snd_c (s_bipush C dX5_cut_51 rfl) ?_
  refine snd_c (s_iast C dX5_cut_53) ?_
  refine snd_c (s_aload_n C rfl dX5_cut_54) ?_
  refine snd_c (s_getf C (ci := 5) (j := 5) (T := TX5) rfl inX5 (by decide) fl_RX5_19 dX5_cut_55) ?_
  refine snd_c (s_iconst C dX5_cut_58 rfl) ?_
  refine snd_c (s_dup2 C dX5_cut_59) ?_
  refine snd_c (s_iald C dX5_cut_60) ?_
  refine snd_c (s_iconst C dX5_cut_61 rfl) ?_
  refine snd_c (s_iadd C dX5_cut_62) ?_
  refine snd_c (s_iast C dX5_cut_63) ?_
  refine snd_c (s_aload_n C rfl dX5_cut_64) ?_
  refine snd_c (s_iconst C dX5_cut_65 rfl) ?_
  refine snd_c (s_iload_n C rfl dX5_cut_66) ?_
  refine snd_c (s_iconst C dX5_cut_67 rfl) ?_
  refine snd_c (s_callV C (ci := 5) c_X5_acts rfl cw_RX5_113 ⟨rfl, rfl⟩ ⟨by decide +kernel, by decide +kernel, by decide +kernel⟩ ⟨by decide, by decide⟩ ⟨Nat.zero_le _, Nat.zero_le _⟩ dX5_cut_68) ?_
  refine snd_c (s_iload_n C rfl dX5_cut_71) ?_
  refine snd_c (s_iret C hr dX5_cut_72) ?_
  exact trivial
theorem dX5_forge_0 : decode cX5_forge 0 = .ok (.aload_n 0, 1) := by decide +kernel
theorem dX5_forge_1 : decode cX5_forge 1 = .ok (.iload_n 1, 1) := by decide +kernel
theorem dX5_forge_2 : decode cX5_forge 2 = .ok (.invokevirtual 98, 3) := by decide +kernel
theorem dX5_forge_5 : decode cX5_forge 5 = .ok (.ifCond .eq 13, 3) := by decide +kernel
theorem dX5_forge_8 : decode cX5_forge 8 = .ok (.iload_n 2, 1) := by decide +kernel
theorem dX5_forge_9 : decode cX5_forge 9 = .ok (.iconst 0, 1) := by decide +kernel
theorem dX5_forge_10 : decode cX5_forge 10 = .ok (.bipush 8, 2) := by decide +kernel
theorem dX5_forge_12 : decode cX5_forge 12 = .ok (.invokestatic 35, 3) := by decide +kernel
theorem dX5_forge_15 : decode cX5_forge 15 = .ok (.ifCond .ne 5, 3) := by decide +kernel
theorem dX5_forge_18 : decode cX5_forge 18 = .ok (.iconst (-1), 1) := by decide +kernel
theorem dX5_forge_19 : decode cX5_forge 19 = .ok (.ireturn, 1) := by decide +kernel
theorem dX5_forge_20 : decode cX5_forge 20 = .ok (.aload_n 0, 1) := by decide +kernel
theorem dX5_forge_21 : decode cX5_forge 21 = .ok (.getfield 19, 3) := by decide +kernel
theorem dX5_forge_24 : decode cX5_forge 24 = .ok (.bipush 9, 2) := by decide +kernel
theorem dX5_forge_26 : decode cX5_forge 26 = .ok (.iload_n 1, 1) := by decide +kernel
theorem dX5_forge_27 : decode cX5_forge 27 = .ok (.iadd, 1) := by decide +kernel
theorem dX5_forge_28 : decode cX5_forge 28 = .ok (.iaload, 1) := by decide +kernel
theorem dX5_forge_29 : decode cX5_forge 29 = .ok (.bipush (-3), 2) := by decide +kernel
theorem dX5_forge_31 : decode cX5_forge 31 = .ok (.if_icmp .ne 6, 3) := by decide +kernel
theorem dX5_forge_34 : decode cX5_forge 34 = .ok (.bipush (-2), 2) := by decide +kernel
theorem dX5_forge_36 : decode cX5_forge 36 = .ok (.ireturn, 1) := by decide +kernel
theorem dX5_forge_37 : decode cX5_forge 37 = .ok (.aload_n 0, 1) := by decide +kernel
theorem dX5_forge_38 : decode cX5_forge 38 = .ok (.getfield 19, 3) := by decide +kernel
theorem dX5_forge_41 : decode cX5_forge 41 = .ok (.iconst 1, 1) := by decide +kernel
theorem dX5_forge_42 : decode cX5_forge 42 = .ok (.iload_n 1, 1) := by decide +kernel
theorem dX5_forge_43 : decode cX5_forge 43 = .ok (.iadd, 1) := by decide +kernel
theorem dX5_forge_44 : decode cX5_forge 44 = .ok (.dup2, 1) := by decide +kernel
theorem dX5_forge_45 : decode cX5_forge 45 = .ok (.iaload, 1) := by decide +kernel
theorem dX5_forge_46 : decode cX5_forge 46 = .ok (.iconst 1, 1) := by decide +kernel
theorem dX5_forge_47 : decode cX5_forge 47 = .ok (.iload_n 2, 1) := by decide +kernel
theorem dX5_forge_48 : decode cX5_forge 48 = .ok (.ishl, 1) := by decide +kernel
theorem dX5_forge_49 : decode cX5_forge 49 = .ok (.ixor, 1) := by decide +kernel
theorem dX5_forge_50 : decode cX5_forge 50 = .ok (.iastore, 1) := by decide +kernel
theorem dX5_forge_51 : decode cX5_forge 51 = .ok (.aload_n 0, 1) := by decide +kernel
theorem dX5_forge_52 : decode cX5_forge 52 = .ok (.iconst 2, 1) := by decide +kernel
theorem dX5_forge_53 : decode cX5_forge 53 = .ok (.iload_n 1, 1) := by decide +kernel
theorem dX5_forge_54 : decode cX5_forge 54 = .ok (.iload_n 2, 1) := by decide +kernel
theorem dX5_forge_55 : decode cX5_forge 55 = .ok (.invokevirtual 113, 3) := by decide +kernel
theorem dX5_forge_58 : decode cX5_forge 58 = .ok (.aload_n 0, 1) := by decide +kernel
theorem dX5_forge_59 : decode cX5_forge 59 = .ok (.getfield 19, 3) := by decide +kernel
theorem dX5_forge_62 : decode cX5_forge 62 = .ok (.iconst 1, 1) := by decide +kernel
theorem dX5_forge_63 : decode cX5_forge 63 = .ok (.iload_n 1, 1) := by decide +kernel
theorem dX5_forge_64 : decode cX5_forge 64 = .ok (.iadd, 1) := by decide +kernel
theorem dX5_forge_65 : decode cX5_forge 65 = .ok (.iaload, 1) := by decide +kernel
theorem dX5_forge_66 : decode cX5_forge 66 = .ok (.ireturn, 1) := by decide +kernel
def T_X5_forge (post : PO) : List (Nat × OP) := [(0, o_aload 0 1), (1, o_iload 1 2), (2, o_callV 5 S_X5_isKey 1 5), (5, o_if (fun x => x = 0) 18 8), (8, o_iload 2 9), (9, o_const 0 10), (10, o_const 8 12), (12, o_callS S_X5_in 3 15), (15, o_if (fun x => x = 0) 18 20), (18, o_const (-1) 19), (19, o_iret post), (20, o_aload 0 21), (21, o_getf 5 5 24), (24, o_const 9 26), (26, o_iload 1 27), (27, o_bin (fun x y => x + y) 28), (28, o_ald 0 29), (29, o_const (-3) 31), (31, o_icmp (fun x y => x = y) 34 37), (34, o_const (-2) 36), (36, o_iret post), (37, o_aload 0 38), (38, o_getf 5 5 41), (41, o_const 1 42), (42, o_iload 1 43), (43, o_bin (fun x y => x + y) 44), (44, o_dup2 45), (45, o_ald 0 46), (46, o_const 1 47), (47, o_iload 2 48), (48, o_bin (fun x y => x <<< (y &&& 31)) 49), (49, o_bin (fun x y => x ^^^ y) 50), (50, o_ast 0 (fun x => x) 51), (51, o_aload 0 52), (52, o_const 2 53), (53, o_iload 1 54), (54, o_iload 2 55), (55, o_callV 5 S_X5_acts 3 58), (58, o_aload 0 59), (59, o_getf 5 5 62), (62, o_const 1 63), (63, o_iload 1 64), (64, o_bin (fun x y => x + y) 65), (65, o_ald 0 66), (66, o_iret post)]
theorem k_X5_forge_0 (post : PO) : lk (T_X5_forge post) 0 = o_aload 0 1 := rfl
theorem k_X5_forge_1 (post : PO) : lk (T_X5_forge post) 1 = o_iload 1 2 := rfl
theorem k_X5_forge_2 (post : PO) : lk (T_X5_forge post) 2 = o_callV 5 S_X5_isKey 1 5 := rfl
theorem k_X5_forge_5 (post : PO) : lk (T_X5_forge post) 5 = o_if (fun x => x = 0) 18 8 := rfl
theorem k_X5_forge_8 (post : PO) : lk (T_X5_forge post) 8 = o_iload 2 9 := rfl
theorem k_X5_forge_9 (post : PO) : lk (T_X5_forge post) 9 = o_const 0 10 := rfl
theorem k_X5_forge_10 (post : PO) : lk (T_X5_forge post) 10 = o_const 8 12 := rfl
theorem k_X5_forge_12 (post : PO) : lk (T_X5_forge post) 12 = o_callS S_X5_in 3 15 := rfl
theorem k_X5_forge_15 (post : PO) : lk (T_X5_forge post) 15 = o_if (fun x => x = 0) 18 20 := rfl
theorem k_X5_forge_18 (post : PO) : lk (T_X5_forge post) 18 = o_const (-1) 19 := rfl
theorem k_X5_forge_19 (post : PO) : lk (T_X5_forge post) 19 = o_iret post := rfl
theorem k_X5_forge_20 (post : PO) : lk (T_X5_forge post) 20 = o_aload 0 21 := rfl
theorem k_X5_forge_21 (post : PO) : lk (T_X5_forge post) 21 = o_getf 5 5 24 := rfl
theorem k_X5_forge_24 (post : PO) : lk (T_X5_forge post) 24 = o_const 9 26 := rfl
theorem k_X5_forge_26 (post : PO) : lk (T_X5_forge post) 26 = o_iload 1 27 := rfl
theorem k_X5_forge_27 (post : PO) : lk (T_X5_forge post) 27 = o_bin (fun x y => x + y) 28 := rfl
theorem k_X5_forge_28 (post : PO) : lk (T_X5_forge post) 28 = o_ald 0 29 := rfl
theorem k_X5_forge_29 (post : PO) : lk (T_X5_forge post) 29 = o_const (-3) 31 := rfl
theorem k_X5_forge_31 (post : PO) : lk (T_X5_forge post) 31 = o_icmp (fun x y => x = y) 34 37 := rfl
theorem k_X5_forge_34 (post : PO) : lk (T_X5_forge post) 34 = o_const (-2) 36 := rfl
theorem k_X5_forge_36 (post : PO) : lk (T_X5_forge post) 36 = o_iret post := rfl
theorem k_X5_forge_37 (post : PO) : lk (T_X5_forge post) 37 = o_aload 0 38 := rfl
theorem k_X5_forge_38 (post : PO) : lk (T_X5_forge post) 38 = o_getf 5 5 41 := rfl
theorem k_X5_forge_41 (post : PO) : lk (T_X5_forge post) 41 = o_const 1 42 := rfl
theorem k_X5_forge_42 (post : PO) : lk (T_X5_forge post) 42 = o_iload 1 43 := rfl
theorem k_X5_forge_43 (post : PO) : lk (T_X5_forge post) 43 = o_bin (fun x y => x + y) 44 := rfl
theorem k_X5_forge_44 (post : PO) : lk (T_X5_forge post) 44 = o_dup2 45 := rfl
theorem k_X5_forge_45 (post : PO) : lk (T_X5_forge post) 45 = o_ald 0 46 := rfl
theorem k_X5_forge_46 (post : PO) : lk (T_X5_forge post) 46 = o_const 1 47 := rfl
theorem k_X5_forge_47 (post : PO) : lk (T_X5_forge post) 47 = o_iload 2 48 := rfl
theorem k_X5_forge_48 (post : PO) : lk (T_X5_forge post) 48 = o_bin (fun x y => x <<< (y &&& 31)) 49 := rfl
theorem k_X5_forge_49 (post : PO) : lk (T_X5_forge post) 49 = o_bin (fun x y => x ^^^ y) 50 := rfl
theorem k_X5_forge_50 (post : PO) : lk (T_X5_forge post) 50 = o_ast 0 (fun x => x) 51 := rfl
theorem k_X5_forge_51 (post : PO) : lk (T_X5_forge post) 51 = o_aload 0 52 := rfl
theorem k_X5_forge_52 (post : PO) : lk (T_X5_forge post) 52 = o_const 2 53 := rfl
theorem k_X5_forge_53 (post : PO) : lk (T_X5_forge post) 53 = o_iload 1 54 := rfl
theorem k_X5_forge_54 (post : PO) : lk (T_X5_forge post) 54 = o_iload 2 55 := rfl
theorem k_X5_forge_55 (post : PO) : lk (T_X5_forge post) 55 = o_callV 5 S_X5_acts 3 58 := rfl
theorem k_X5_forge_58 (post : PO) : lk (T_X5_forge post) 58 = o_aload 0 59 := rfl
theorem k_X5_forge_59 (post : PO) : lk (T_X5_forge post) 59 = o_getf 5 5 62 := rfl
theorem k_X5_forge_62 (post : PO) : lk (T_X5_forge post) 62 = o_const 1 63 := rfl
theorem k_X5_forge_63 (post : PO) : lk (T_X5_forge post) 63 = o_iload 1 64 := rfl
theorem k_X5_forge_64 (post : PO) : lk (T_X5_forge post) 64 = o_bin (fun x y => x + y) 65 := rfl
theorem k_X5_forge_65 (post : PO) : lk (T_X5_forge post) 65 = o_ald 0 66 := rfl
theorem k_X5_forge_66 (post : PO) : lk (T_X5_forge post) 66 = o_iret post := rfl
set_option maxRecDepth 100000 in
theorem t_X5_forge {p : Program} {l : Launch} {e : Env} {s : State} {m : MethodId} {args : Array Value} {below : List Frame} {meth : Method} {c : Code} {D : va_G} {dA : Nat → ClassId} {ad : Nat → Nat} (post : PO) (C : CX p s m args meth c cX5_forge 3 yX5_forge.cls D dA ad (AA ad s.heap.size)) (hr : meth.sig.returnType = (some .int)) : SndL (WW p l e ({ frames := 2, cells := 0, slots := 0, locals := 43 } : Room) s m args below meth c 0 0 (MQ below (CQ D dA ad post (AA ad s.heap.size)) args s 0 0 (AA ad s.heap.size)) 3 D dA ad (AA ad s.heap.size)) (T_X5_forge post) := by
  refine snd_c (s_aload_n C rfl dX5_forge_0) ?_
  refine snd_c (s_iload_n C rfl dX5_forge_1) ?_
  refine snd_c (s_callV C (ci := 5) c_X5_isKey rfl cw_RX5_98 ⟨rfl, rfl⟩ ⟨by decide +kernel, by decide +kernel, by decide +kernel⟩ ⟨by decide, by decide⟩ ⟨Nat.zero_le _, Nat.zero_le _⟩ dX5_forge_2) ?_
  refine snd_c (s_if_eq C dX5_forge_5 (by decide)) ?_
  refine snd_c (s_iload_n C rfl dX5_forge_8) ?_
  refine snd_c (s_iconst C dX5_forge_9 rfl) ?_
  refine snd_c (s_bipush C dX5_forge_10 rfl) ?_
  refine snd_c (s_callS C c_X5_in cw_RX5_35 ⟨rfl, rfl⟩ ⟨by decide +kernel, by decide +kernel, by decide +kernel⟩ ⟨by decide, by decide⟩ ⟨Nat.zero_le _, Nat.zero_le _⟩ dX5_forge_12) ?_
  refine snd_c (s_if_ne C dX5_forge_15 (by decide)) ?_
  refine snd_c (s_iconst C dX5_forge_18 rfl) ?_
  refine snd_c (s_iret C hr dX5_forge_19) ?_
  refine snd_c (s_aload_n C rfl dX5_forge_20) ?_
  refine snd_c (s_getf C (ci := 5) (j := 5) (T := TX5) rfl inX5 (by decide) fl_RX5_19 dX5_forge_21) ?_
  refine snd_c (s_bipush C dX5_forge_24 rfl) ?_
  refine snd_c (s_iload_n C rfl dX5_forge_26) ?_
  refine snd_c (s_iadd C dX5_forge_27) ?_
  refine snd_c (s_iald C dX5_forge_28) ?_
  refine snd_c (s_bipush C dX5_forge_29 rfl) ?_
  refine snd_c (s_icmp_ne C dX5_forge_31 (by decide)) ?_
  refine snd_c (s_bipush C dX5_forge_34 rfl) ?_
  refine snd_c (s_iret C hr dX5_forge_36) ?_
  refine snd_c (s_aload_n C rfl dX5_forge_37) ?_
  refine snd_c (s_getf C (ci := 5) (j := 5) (T := TX5) rfl inX5 (by decide) fl_RX5_19 dX5_forge_38) ?_
  refine snd_c (s_iconst C dX5_forge_41 rfl) ?_
  refine snd_c (s_iload_n C rfl dX5_forge_42) ?_
  refine snd_c (s_iadd C dX5_forge_43) ?_
  refine snd_c (s_dup2 C dX5_forge_44) ?_
  refine snd_c (s_iald C dX5_forge_45) ?_
  refine snd_c (s_iconst C dX5_forge_46 rfl) ?_
  refine snd_c (s_iload_n C rfl dX5_forge_47) ?_
  refine snd_c (s_ishl C dX5_forge_48) ?_
  refine snd_c (s_ixor C dX5_forge_49) ?_
  refine snd_c (s_iast C dX5_forge_50) ?_
  refine snd_c (s_aload_n C rfl dX5_forge_51) ?_
  refine snd_c (s_iconst C dX5_forge_52 rfl) ?_
  refine snd_c (s_iload_n C rfl dX5_forge_53) ?_
  refine snd_c (s_iload_n C rfl dX5_forge_54) ?_
  refine snd_c (s_callV C (ci := 5) c_X5_acts rfl cw_RX5_113 ⟨rfl, rfl⟩ ⟨by decide +kernel, by decide +kernel, by decide +kernel⟩ ⟨by decide, by decide⟩ ⟨Nat.zero_le _, Nat.zero_le _⟩ dX5_forge_55) ?_
  refine snd_c (s_aload_n C rfl dX5_forge_58) ?_
  refine snd_c (s_getf C (ci := 5) (j := 5) (T := TX5) rfl inX5 (by decide) fl_RX5_19 dX5_forge_59) ?_
  refine snd_c (s_iconst C dX5_forge_62 rfl) ?_
  refine snd_c (s_iload_n C rfl dX5_forge_63) ?_
  refine snd_c (s_iadd C dX5_forge_64) ?_
  refine snd_c (s_iald C dX5_forge_65) ?_
  refine snd_c (s_iret C hr dX5_forge_66) ?_
  exact trivial
theorem dX5_undo_0 : decode cX5_undo 0 = .ok (.aload_n 0, 1) := by decide +kernel
theorem dX5_undo_1 : decode cX5_undo 1 = .ok (.getfield 19, 3) := by decide +kernel
theorem dX5_undo_4 : decode cX5_undo 4 = .ok (.bipush 17, 2) := by decide +kernel
theorem dX5_undo_6 : decode cX5_undo 6 = .ok (.iaload, 1) := by decide +kernel
theorem dX5_undo_7 : decode cX5_undo 7 = .ok (.ifCond .ne 6, 3) := by decide +kernel
theorem dX5_undo_10 : decode cX5_undo 10 = .ok (.bipush (-2), 2) := by decide +kernel
theorem dX5_undo_12 : decode cX5_undo 12 = .ok (.ireturn, 1) := by decide +kernel
theorem dX5_undo_13 : decode cX5_undo 13 = .ok (.aload_n 0, 1) := by decide +kernel
theorem dX5_undo_14 : decode cX5_undo 14 = .ok (.getfield 19, 3) := by decide +kernel
theorem dX5_undo_17 : decode cX5_undo 17 = .ok (.bipush 17, 2) := by decide +kernel
theorem dX5_undo_19 : decode cX5_undo 19 = .ok (.dup2, 1) := by decide +kernel
theorem dX5_undo_20 : decode cX5_undo 20 = .ok (.iaload, 1) := by decide +kernel
theorem dX5_undo_21 : decode cX5_undo 21 = .ok (.iconst 1, 1) := by decide +kernel
theorem dX5_undo_22 : decode cX5_undo 22 = .ok (.isub, 1) := by decide +kernel
theorem dX5_undo_23 : decode cX5_undo 23 = .ok (.iastore, 1) := by decide +kernel
theorem dX5_undo_24 : decode cX5_undo 24 = .ok (.bipush 18, 2) := by decide +kernel
theorem dX5_undo_26 : decode cX5_undo 26 = .ok (.iconst 3, 1) := by decide +kernel
theorem dX5_undo_27 : decode cX5_undo 27 = .ok (.aload_n 0, 1) := by decide +kernel
theorem dX5_undo_28 : decode cX5_undo 28 = .ok (.getfield 19, 3) := by decide +kernel
theorem dX5_undo_31 : decode cX5_undo 31 = .ok (.bipush 17, 2) := by decide +kernel
theorem dX5_undo_33 : decode cX5_undo 33 = .ok (.iaload, 1) := by decide +kernel
theorem dX5_undo_34 : decode cX5_undo 34 = .ok (.imul, 1) := by decide +kernel
theorem dX5_undo_35 : decode cX5_undo 35 = .ok (.iadd, 1) := by decide +kernel
theorem dX5_undo_36 : decode cX5_undo 36 = .ok (.istore_n 1, 1) := by decide +kernel
theorem dX5_undo_37 : decode cX5_undo 37 = .ok (.aload_n 0, 1) := by decide +kernel
theorem dX5_undo_38 : decode cX5_undo 38 = .ok (.getfield 19, 3) := by decide +kernel
theorem dX5_undo_41 : decode cX5_undo 41 = .ok (.iload_n 1, 1) := by decide +kernel
theorem dX5_undo_42 : decode cX5_undo 42 = .ok (.iconst 1, 1) := by decide +kernel
theorem dX5_undo_43 : decode cX5_undo 43 = .ok (.iadd, 1) := by decide +kernel
theorem dX5_undo_44 : decode cX5_undo 44 = .ok (.iaload, 1) := by decide +kernel
theorem dX5_undo_45 : decode cX5_undo 45 = .ok (.istore_n 2, 1) := by decide +kernel
theorem dX5_undo_46 : decode cX5_undo 46 = .ok (.aload_n 0, 1) := by decide +kernel
theorem dX5_undo_47 : decode cX5_undo 47 = .ok (.getfield 19, 3) := by decide +kernel
theorem dX5_undo_50 : decode cX5_undo 50 = .ok (.iload_n 1, 1) := by decide +kernel
theorem dX5_undo_51 : decode cX5_undo 51 = .ok (.iaload, 1) := by decide +kernel
theorem dX5_undo_52 : decode cX5_undo 52 = .ok (.ifCond .ne 16, 3) := by decide +kernel
theorem dX5_undo_55 : decode cX5_undo 55 = .ok (.aload_n 0, 1) := by decide +kernel
theorem dX5_undo_56 : decode cX5_undo 56 = .ok (.getfield 19, 3) := by decide +kernel
theorem dX5_undo_59 : decode cX5_undo 59 = .ok (.iconst 0, 1) := by decide +kernel
theorem dX5_undo_60 : decode cX5_undo 60 = .ok (.dup2, 1) := by decide +kernel
theorem dX5_undo_61 : decode cX5_undo 61 = .ok (.iaload, 1) := by decide +kernel
theorem dX5_undo_62 : decode cX5_undo 62 = .ok (.iconst 1, 1) := by decide +kernel
theorem dX5_undo_63 : decode cX5_undo 63 = .ok (.isub, 1) := by decide +kernel
theorem dX5_undo_64 : decode cX5_undo 64 = .ok (.iastore, 1) := by decide +kernel
theorem dX5_undo_65 : decode cX5_undo 65 = .ok (.goto 54, 3) := by decide +kernel
theorem dX5_undo_68 : decode cX5_undo 68 = .ok (.aload_n 0, 1) := by decide +kernel
theorem dX5_undo_69 : decode cX5_undo 69 = .ok (.getfield 19, 3) := by decide +kernel
theorem dX5_undo_72 : decode cX5_undo 72 = .ok (.iload_n 1, 1) := by decide +kernel
theorem dX5_undo_73 : decode cX5_undo 73 = .ok (.iaload, 1) := by decide +kernel
theorem dX5_undo_74 : decode cX5_undo 74 = .ok (.iconst 1, 1) := by decide +kernel
theorem dX5_undo_75 : decode cX5_undo 75 = .ok (.if_icmp .ne 23, 3) := by decide +kernel
theorem dX5_undo_78 : decode cX5_undo 78 = .ok (.aload_n 0, 1) := by decide +kernel
theorem dX5_undo_79 : decode cX5_undo 79 = .ok (.getfield 19, 3) := by decide +kernel
theorem dX5_undo_82 : decode cX5_undo 82 = .ok (.bipush 9, 2) := by decide +kernel
theorem dX5_undo_84 : decode cX5_undo 84 = .ok (.iload_n 2, 1) := by decide +kernel
theorem dX5_undo_85 : decode cX5_undo 85 = .ok (.iadd, 1) := by decide +kernel
theorem dX5_undo_86 : decode cX5_undo 86 = .ok (.aload_n 0, 1) := by decide +kernel
theorem dX5_undo_87 : decode cX5_undo 87 = .ok (.getfield 19, 3) := by decide +kernel
theorem dX5_undo_90 : decode cX5_undo 90 = .ok (.iload_n 1, 1) := by decide +kernel
theorem dX5_undo_91 : decode cX5_undo 91 = .ok (.iconst 2, 1) := by decide +kernel
theorem dX5_undo_92 : decode cX5_undo 92 = .ok (.iadd, 1) := by decide +kernel
theorem dX5_undo_93 : decode cX5_undo 93 = .ok (.iaload, 1) := by decide +kernel
theorem dX5_undo_94 : decode cX5_undo 94 = .ok (.iastore, 1) := by decide +kernel
theorem dX5_undo_95 : decode cX5_undo 95 = .ok (.goto 24, 3) := by decide +kernel
theorem dX5_undo_98 : decode cX5_undo 98 = .ok (.aload_n 0, 1) := by decide +kernel
theorem dX5_undo_99 : decode cX5_undo 99 = .ok (.getfield 19, 3) := by decide +kernel
theorem dX5_undo_102 : decode cX5_undo 102 = .ok (.iconst 1, 1) := by decide +kernel
theorem dX5_undo_103 : decode cX5_undo 103 = .ok (.iload_n 2, 1) := by decide +kernel
theorem dX5_undo_104 : decode cX5_undo 104 = .ok (.iadd, 1) := by decide +kernel
theorem dX5_undo_105 : decode cX5_undo 105 = .ok (.dup2, 1) := by decide +kernel
theorem dX5_undo_106 : decode cX5_undo 106 = .ok (.iaload, 1) := by decide +kernel
theorem dX5_undo_107 : decode cX5_undo 107 = .ok (.iconst 1, 1) := by decide +kernel
theorem dX5_undo_108 : decode cX5_undo 108 = .ok (.aload_n 0, 1) := by decide +kernel
theorem dX5_undo_109 : decode cX5_undo 109 = .ok (.getfield 19, 3) := by decide +kernel
theorem dX5_undo_112 : decode cX5_undo 112 = .ok (.iload_n 1, 1) := by decide +kernel
theorem dX5_undo_113 : decode cX5_undo 113 = .ok (.iconst 2, 1) := by decide +kernel
theorem dX5_undo_114 : decode cX5_undo 114 = .ok (.iadd, 1) := by decide +kernel
theorem dX5_undo_115 : decode cX5_undo 115 = .ok (.iaload, 1) := by decide +kernel
theorem dX5_undo_116 : decode cX5_undo 116 = .ok (.ishl, 1) := by decide +kernel
theorem dX5_undo_117 : decode cX5_undo 117 = .ok (.ixor, 1) := by decide +kernel
theorem dX5_undo_118 : decode cX5_undo 118 = .ok (.iastore, 1) := by decide +kernel
theorem dX5_undo_119 : decode cX5_undo 119 = .ok (.aload_n 0, 1) := by decide +kernel
theorem dX5_undo_120 : decode cX5_undo 120 = .ok (.getfield 19, 3) := by decide +kernel
theorem dX5_undo_123 : decode cX5_undo 123 = .ok (.bipush 17, 2) := by decide +kernel
theorem dX5_undo_125 : decode cX5_undo 125 = .ok (.iaload, 1) := by decide +kernel
theorem dX5_undo_126 : decode cX5_undo 126 = .ok (.ireturn, 1) := by decide +kernel
def T_X5_undo (post : PO) : List (Nat × OP) := [(0, o_aload 0 1), (1, o_getf 5 5 4), (4, o_const 17 6), (6, o_ald 0 7), (7, o_if (fun x => x = 0) 10 13), (10, o_const (-2) 12), (12, o_iret post), (13, o_aload 0 14), (14, o_getf 5 5 17), (17, o_const 17 19), (19, o_dup2 20), (20, o_ald 0 21), (21, o_const 1 22), (22, o_bin (fun x y => x - y) 23), (23, o_ast 0 (fun x => x) 24), (24, o_const 18 26), (26, o_const 3 27), (27, o_aload 0 28), (28, o_getf 5 5 31), (31, o_const 17 33), (33, o_ald 0 34), (34, o_bin (fun x y => x * y) 35), (35, o_bin (fun x y => x + y) 36), (36, o_istore 1 37), (37, o_aload 0 38), (38, o_getf 5 5 41), (41, o_iload 1 42), (42, o_const 1 43), (43, o_bin (fun x y => x + y) 44), (44, o_ald 0 45), (45, o_istore 2 46), (46, o_aload 0 47), (47, o_getf 5 5 50), (50, o_iload 1 51), (51, o_ald 0 52), (52, o_if (fun x => x = 0) 55 68), (55, o_aload 0 56), (56, o_getf 5 5 59), (59, o_const 0 60), (60, o_dup2 61), (61, o_ald 0 62), (62, o_const 1 63), (63, o_bin (fun x y => x - y) 64), (64, o_ast 0 (fun x => x) 65), (65, o_goto 119), (68, o_aload 0 69), (69, o_getf 5 5 72), (72, o_iload 1 73), (73, o_ald 0 74), (74, o_const 1 75), (75, o_icmp (fun x y => x = y) 78 98), (78, o_aload 0 79), (79, o_getf 5 5 82), (82, o_const 9 84), (84, o_iload 2 85), (85, o_bin (fun x y => x + y) 86), (86, o_aload 0 87), (87, o_getf 5 5 90), (90, o_iload 1 91), (91, o_const 2 92), (92, o_bin (fun x y => x + y) 93), (93, o_ald 0 94), (94, o_ast 0 (fun x => x) 95), (95, o_goto 119), (98, o_aload 0 99), (99, o_getf 5 5 102), (102, o_const 1 103), (103, o_iload 2 104), (104, o_bin (fun x y => x + y) 105), (105, o_dup2 106), (106, o_ald 0 107), (107, o_const 1 108), (108, o_aload 0 109), (109, o_getf 5 5 112), (112, o_iload 1 113), (113, o_const 2 114), (114, o_bin (fun x y => x + y) 115), (115, o_ald 0 116), (116, o_bin (fun x y => x <<< (y &&& 31)) 117), (117, o_bin (fun x y => x ^^^ y) 118), (118, o_ast 0 (fun x => x) 119), (119, o_aload 0 120), (120, o_getf 5 5 123), (123, o_const 17 125), (125, o_ald 0 126), (126, o_iret post)]
theorem k_X5_undo_0 (post : PO) : lk (T_X5_undo post) 0 = o_aload 0 1 := rfl
theorem k_X5_undo_1 (post : PO) : lk (T_X5_undo post) 1 = o_getf 5 5 4 := rfl
theorem k_X5_undo_4 (post : PO) : lk (T_X5_undo post) 4 = o_const 17 6 := rfl
theorem k_X5_undo_6 (post : PO) : lk (T_X5_undo post) 6 = o_ald 0 7 := rfl
theorem k_X5_undo_7 (post : PO) : lk (T_X5_undo post) 7 = o_if (fun x => x = 0) 10 13 := rfl
theorem k_X5_undo_10 (post : PO) : lk (T_X5_undo post) 10 = o_const (-2) 12 := rfl
theorem k_X5_undo_12 (post : PO) : lk (T_X5_undo post) 12 = o_iret post := rfl
theorem k_X5_undo_13 (post : PO) : lk (T_X5_undo post) 13 = o_aload 0 14 := rfl
theorem k_X5_undo_14 (post : PO) : lk (T_X5_undo post) 14 = o_getf 5 5 17 := rfl
theorem k_X5_undo_17 (post : PO) : lk (T_X5_undo post) 17 = o_const 17 19 := rfl
theorem k_X5_undo_19 (post : PO) : lk (T_X5_undo post) 19 = o_dup2 20 := rfl
theorem k_X5_undo_20 (post : PO) : lk (T_X5_undo post) 20 = o_ald 0 21 := rfl
theorem k_X5_undo_21 (post : PO) : lk (T_X5_undo post) 21 = o_const 1 22 := rfl
theorem k_X5_undo_22 (post : PO) : lk (T_X5_undo post) 22 = o_bin (fun x y => x - y) 23 := rfl
theorem k_X5_undo_23 (post : PO) : lk (T_X5_undo post) 23 = o_ast 0 (fun x => x) 24 := rfl
theorem k_X5_undo_24 (post : PO) : lk (T_X5_undo post) 24 = o_const 18 26 := rfl
theorem k_X5_undo_26 (post : PO) : lk (T_X5_undo post) 26 = o_const 3 27 := rfl
theorem k_X5_undo_27 (post : PO) : lk (T_X5_undo post) 27 = o_aload 0 28 := rfl
theorem k_X5_undo_28 (post : PO) : lk (T_X5_undo post) 28 = o_getf 5 5 31 := rfl
theorem k_X5_undo_31 (post : PO) : lk (T_X5_undo post) 31 = o_const 17 33 := rfl
theorem k_X5_undo_33 (post : PO) : lk (T_X5_undo post) 33 = o_ald 0 34 := rfl
theorem k_X5_undo_34 (post : PO) : lk (T_X5_undo post) 34 = o_bin (fun x y => x * y) 35 := rfl
theorem k_X5_undo_35 (post : PO) : lk (T_X5_undo post) 35 = o_bin (fun x y => x + y) 36 := rfl
theorem k_X5_undo_36 (post : PO) : lk (T_X5_undo post) 36 = o_istore 1 37 := rfl
theorem k_X5_undo_37 (post : PO) : lk (T_X5_undo post) 37 = o_aload 0 38 := rfl
theorem k_X5_undo_38 (post : PO) : lk (T_X5_undo post) 38 = o_getf 5 5 41 := rfl
theorem k_X5_undo_41 (post : PO) : lk (T_X5_undo post) 41 = o_iload 1 42 := rfl
theorem k_X5_undo_42 (post : PO) : lk (T_X5_undo post) 42 = o_const 1 43 := rfl
theorem k_X5_undo_43 (post : PO) : lk (T_X5_undo post) 43 = o_bin (fun x y => x + y) 44 := rfl
theorem k_X5_undo_44 (post : PO) : lk (T_X5_undo post) 44 = o_ald 0 45 := rfl
theorem k_X5_undo_45 (post : PO) : lk (T_X5_undo post) 45 = o_istore 2 46 := rfl
theorem k_X5_undo_46 (post : PO) : lk (T_X5_undo post) 46 = o_aload 0 47 := rfl
theorem k_X5_undo_47 (post : PO) : lk (T_X5_undo post) 47 = o_getf 5 5 50 := rfl
theorem k_X5_undo_50 (post : PO) : lk (T_X5_undo post) 50 = o_iload 1 51 := rfl
theorem k_X5_undo_51 (post : PO) : lk (T_X5_undo post) 51 = o_ald 0 52 := rfl
theorem k_X5_undo_52 (post : PO) : lk (T_X5_undo post) 52 = o_if (fun x => x = 0) 55 68 := rfl
theorem k_X5_undo_55 (post : PO) : lk (T_X5_undo post) 55 = o_aload 0 56 := rfl
theorem k_X5_undo_56 (post : PO) : lk (T_X5_undo post) 56 = o_getf 5 5 59 := rfl
theorem k_X5_undo_59 (post : PO) : lk (T_X5_undo post) 59 = o_const 0 60 := rfl
theorem k_X5_undo_60 (post : PO) : lk (T_X5_undo post) 60 = o_dup2 61 := rfl
theorem k_X5_undo_61 (post : PO) : lk (T_X5_undo post) 61 = o_ald 0 62 := rfl
theorem k_X5_undo_62 (post : PO) : lk (T_X5_undo post) 62 = o_const 1 63 := rfl
theorem k_X5_undo_63 (post : PO) : lk (T_X5_undo post) 63 = o_bin (fun x y => x - y) 64 := rfl
theorem k_X5_undo_64 (post : PO) : lk (T_X5_undo post) 64 = o_ast 0 (fun x => x) 65 := rfl
theorem k_X5_undo_65 (post : PO) : lk (T_X5_undo post) 65 = o_goto 119 := rfl
theorem k_X5_undo_68 (post : PO) : lk (T_X5_undo post) 68 = o_aload 0 69 := rfl
theorem k_X5_undo_69 (post : PO) : lk (T_X5_undo post) 69 = o_getf 5 5 72 := rfl
theorem k_X5_undo_72 (post : PO) : lk (T_X5_undo post) 72 = o_iload 1 73 := rfl
theorem k_X5_undo_73 (post : PO) : lk (T_X5_undo post) 73 = o_ald 0 74 := rfl
theorem k_X5_undo_74 (post : PO) : lk (T_X5_undo post) 74 = o_const 1 75 := rfl
theorem k_X5_undo_75 (post : PO) : lk (T_X5_undo post) 75 = o_icmp (fun x y => x = y) 78 98 := rfl
theorem k_X5_undo_78 (post : PO) : lk (T_X5_undo post) 78 = o_aload 0 79 := rfl
theorem k_X5_undo_79 (post : PO) : lk (T_X5_undo post) 79 = o_getf 5 5 82 := rfl
theorem k_X5_undo_82 (post : PO) : lk (T_X5_undo post) 82 = o_const 9 84 := rfl
theorem k_X5_undo_84 (post : PO) : lk (T_X5_undo post) 84 = o_iload 2 85 := rfl
theorem k_X5_undo_85 (post : PO) : lk (T_X5_undo post) 85 = o_bin (fun x y => x + y) 86 := rfl
theorem k_X5_undo_86 (post : PO) : lk (T_X5_undo post) 86 = o_aload 0 87 := rfl
theorem k_X5_undo_87 (post : PO) : lk (T_X5_undo post) 87 = o_getf 5 5 90 := rfl
theorem k_X5_undo_90 (post : PO) : lk (T_X5_undo post) 90 = o_iload 1 91 := rfl
theorem k_X5_undo_91 (post : PO) : lk (T_X5_undo post) 91 = o_const 2 92 := rfl
theorem k_X5_undo_92 (post : PO) : lk (T_X5_undo post) 92 = o_bin (fun x y => x + y) 93 := rfl
theorem k_X5_undo_93 (post : PO) : lk (T_X5_undo post) 93 = o_ald 0 94 := rfl
theorem k_X5_undo_94 (post : PO) : lk (T_X5_undo post) 94 = o_ast 0 (fun x => x) 95 := rfl
theorem k_X5_undo_95 (post : PO) : lk (T_X5_undo post) 95 = o_goto 119 := rfl
theorem k_X5_undo_98 (post : PO) : lk (T_X5_undo post) 98 = o_aload 0 99 := rfl
theorem k_X5_undo_99 (post : PO) : lk (T_X5_undo post) 99 = o_getf 5 5 102 := rfl
theorem k_X5_undo_102 (post : PO) : lk (T_X5_undo post) 102 = o_const 1 103 := rfl
theorem k_X5_undo_103 (post : PO) : lk (T_X5_undo post) 103 = o_iload 2 104 := rfl
theorem k_X5_undo_104 (post : PO) : lk (T_X5_undo post) 104 = o_bin (fun x y => x + y) 105 := rfl
theorem k_X5_undo_105 (post : PO) : lk (T_X5_undo post) 105 = o_dup2 106 := rfl
theorem k_X5_undo_106 (post : PO) : lk (T_X5_undo post) 106 = o_ald 0 107 := rfl
theorem k_X5_undo_107 (post : PO) : lk (T_X5_undo post) 107 = o_const 1 108 := rfl
theorem k_X5_undo_108 (post : PO) : lk (T_X5_undo post) 108 = o_aload 0 109 := rfl
theorem k_X5_undo_109 (post : PO) : lk (T_X5_undo post) 109 = o_getf 5 5 112 := rfl
theorem k_X5_undo_112 (post : PO) : lk (T_X5_undo post) 112 = o_iload 1 113 := rfl
theorem k_X5_undo_113 (post : PO) : lk (T_X5_undo post) 113 = o_const 2 114 := rfl
theorem k_X5_undo_114 (post : PO) : lk (T_X5_undo post) 114 = o_bin (fun x y => x + y) 115 := rfl
theorem k_X5_undo_115 (post : PO) : lk (T_X5_undo post) 115 = o_ald 0 116 := rfl
theorem k_X5_undo_116 (post : PO) : lk (T_X5_undo post) 116 = o_bin (fun x y => x <<< (y &&& 31)) 117 := rfl
theorem k_X5_undo_117 (post : PO) : lk (T_X5_undo post) 117 = o_bin (fun x y => x ^^^ y) 118 := rfl
theorem k_X5_undo_118 (post : PO) : lk (T_X5_undo post) 118 = o_ast 0 (fun x => x) 119 := rfl
theorem k_X5_undo_119 (post : PO) : lk (T_X5_undo post) 119 = o_aload 0 120 := rfl
theorem k_X5_undo_120 (post : PO) : lk (T_X5_undo post) 120 = o_getf 5 5 123 := rfl
theorem k_X5_undo_123 (post : PO) : lk (T_X5_undo post) 123 = o_const 17 125 := rfl
theorem k_X5_undo_125 (post : PO) : lk (T_X5_undo post) 125 = o_ald 0 126 := rfl
theorem k_X5_undo_126 (post : PO) : lk (T_X5_undo post) 126 = o_iret post := rfl
set_option maxRecDepth 100000 in
theorem t_X5_undo {p : Program} {l : Launch} {e : Env} {s : State} {m : MethodId} {args : Array Value} {below : List Frame} {meth : Method} {c : Code} {D : va_G} {dA : Nat → ClassId} {ad : Nat → Nat} (post : PO) (C : CX p s m args meth c cX5_undo 3 yX5_undo.cls D dA ad (AA ad s.heap.size)) (hr : meth.sig.returnType = (some .int)) : SndL (WW p l e ({ frames := 0, cells := 0, slots := 0, locals := 0 } : Room) s m args below meth c 0 0 (MQ below (CQ D dA ad post (AA ad s.heap.size)) args s 0 0 (AA ad s.heap.size)) 3 D dA ad (AA ad s.heap.size)) (T_X5_undo post) := by
  refine snd_c (s_aload_n C rfl dX5_undo_0) ?_
  refine snd_c (s_getf C (ci := 5) (j := 5) (T := TX5) rfl inX5 (by decide) fl_RX5_19 dX5_undo_1) ?_
  refine snd_c (s_bipush C dX5_undo_4 rfl) ?_
  refine snd_c (s_iald C dX5_undo_6) ?_
  refine snd_c (s_if_ne C dX5_undo_7 (by decide)) ?_
  refine snd_c (s_bipush C dX5_undo_10 rfl) ?_
  refine snd_c (s_iret C hr dX5_undo_12) ?_
  refine snd_c (s_aload_n C rfl dX5_undo_13) ?_
  refine snd_c (s_getf C (ci := 5) (j := 5) (T := TX5) rfl inX5 (by decide) fl_RX5_19 dX5_undo_14) ?_
  refine snd_c (s_bipush C dX5_undo_17 rfl) ?_
  refine snd_c (s_dup2 C dX5_undo_19) ?_
  refine snd_c (s_iald C dX5_undo_20) ?_
  refine snd_c (s_iconst C dX5_undo_21 rfl) ?_
  refine snd_c (s_isub C dX5_undo_22) ?_
  refine snd_c (s_iast C dX5_undo_23) ?_
  refine snd_c (s_bipush C dX5_undo_24 rfl) ?_
  refine snd_c (s_iconst C dX5_undo_26 rfl) ?_
  refine snd_c (s_aload_n C rfl dX5_undo_27) ?_
  refine snd_c (s_getf C (ci := 5) (j := 5) (T := TX5) rfl inX5 (by decide) fl_RX5_19 dX5_undo_28) ?_
  refine snd_c (s_bipush C dX5_undo_31 rfl) ?_
  refine snd_c (s_iald C dX5_undo_33) ?_
  refine snd_c (s_imul C dX5_undo_34) ?_
  refine snd_c (s_iadd C dX5_undo_35) ?_
  refine snd_c (s_istore_n C rfl (by decide) dX5_undo_36) ?_
  refine snd_c (s_aload_n C rfl dX5_undo_37) ?_
  refine snd_c (s_getf C (ci := 5) (j := 5) (T := TX5) rfl inX5 (by decide) fl_RX5_19 dX5_undo_38) ?_
  refine snd_c (s_iload_n C rfl dX5_undo_41) ?_
  refine snd_c (s_iconst C dX5_undo_42 rfl) ?_
  refine snd_c (s_iadd C dX5_undo_43) ?_
  refine snd_c (s_iald C dX5_undo_44) ?_
  refine snd_c (s_istore_n C rfl (by decide) dX5_undo_45) ?_
  refine snd_c (s_aload_n C rfl dX5_undo_46) ?_
  refine snd_c (s_getf C (ci := 5) (j := 5) (T := TX5) rfl inX5 (by decide) fl_RX5_19 dX5_undo_47) ?_
  refine snd_c (s_iload_n C rfl dX5_undo_50) ?_
  refine snd_c (s_iald C dX5_undo_51) ?_
  refine snd_c (s_if_ne C dX5_undo_52 (by decide)) ?_
  refine snd_c (s_aload_n C rfl dX5_undo_55) ?_
  refine snd_c (s_getf C (ci := 5) (j := 5) (T := TX5) rfl inX5 (by decide) fl_RX5_19 dX5_undo_56) ?_
  refine snd_c (s_iconst C dX5_undo_59 rfl) ?_
  refine snd_c (s_dup2 C dX5_undo_60) ?_
  refine snd_c (s_iald C dX5_undo_61) ?_
  refine snd_c (s_iconst C dX5_undo_62 rfl) ?_
  refine snd_c (s_isub C dX5_undo_63) ?_
  refine snd_c (s_iast C dX5_undo_64) ?_
  refine snd_c (s_goto C dX5_undo_65 (by decide)) ?_
  refine snd_c (s_aload_n C rfl dX5_undo_68) ?_
  refine snd_c (s_getf C (ci := 5) (j := 5) (T := TX5) rfl inX5 (by decide) fl_RX5_19 dX5_undo_69) ?_
  refine snd_c (s_iload_n C rfl dX5_undo_72) ?_
  refine snd_c (s_iald C dX5_undo_73) ?_
  refine snd_c (s_iconst C dX5_undo_74 rfl) ?_
  refine snd_c (s_icmp_ne C dX5_undo_75 (by decide)) ?_
  refine snd_c (s_aload_n C rfl dX5_undo_78) ?_
  refine snd_c (s_getf C (ci := 5) (j := 5) (T := TX5) rfl inX5 (by decide) fl_RX5_19 dX5_undo_79) ?_
  refine snd_c (s_bipush C dX5_undo_82 rfl) ?_
  refine snd_c (s_iload_n C rfl dX5_undo_84) ?_
  refine snd_c (s_iadd C dX5_undo_85) ?_
  refine snd_c (s_aload_n C rfl dX5_undo_86) ?_
  refine snd_c (s_getf C (ci := 5) (j := 5) (T := TX5) rfl inX5 (by decide) fl_RX5_19 dX5_undo_87) ?_
  refine snd_c (s_iload_n C rfl dX5_undo_90) ?_
  refine snd_c (s_iconst C dX5_undo_91 rfl) ?_
  refine snd_c (s_iadd C dX5_undo_92) ?_
  refine snd_c (s_iald C dX5_undo_93) ?_
  refine snd_c (s_iast C dX5_undo_94) ?_
  refine snd_c (s_goto C dX5_undo_95 (by decide)) ?_
  refine snd_c (s_aload_n C rfl dX5_undo_98) ?_
  refine snd_c (s_getf C (ci := 5) (j := 5) (T := TX5) rfl inX5 (by decide) fl_RX5_19 dX5_undo_99) ?_
  refine snd_c (s_iconst C dX5_undo_102 rfl) ?_
  refine snd_c (s_iload_n C rfl dX5_undo_103) ?_
  refine snd_c (s_iadd C dX5_undo_104) ?_
  refine snd_c (s_dup2 C dX5_undo_105) ?_
  refine snd_c (s_iald C dX5_undo_106) ?_
  refine snd_c (s_iconst C dX5_undo_107 rfl) ?_
  refine snd_c (s_aload_n C rfl dX5_undo_108) ?_
  refine snd_c (s_getf C (ci := 5) (j := 5) (T := TX5) rfl inX5 (by decide) fl_RX5_19 dX5_undo_109) ?_
  refine snd_c (s_iload_n C rfl dX5_undo_112) ?_
  refine snd_c (s_iconst C dX5_undo_113 rfl) ?_
  refine snd_c (s_iadd C dX5_undo_114) ?_
  refine snd_c (s_iald C dX5_undo_115) ?_
  refine snd_c (s_ishl C dX5_undo_116) ?_
  refine snd_c (s_ixor C dX5_undo_117) ?_
  refine snd_c (s_iast C dX5_undo_118) ?_
  refine snd_c (s_aload_n C rfl dX5_undo_119) ?_
  refine snd_c (s_getf C (ci := 5) (j := 5) (T := TX5) rfl inX5 (by decide) fl_RX5_19 dX5_undo_120) ?_
  refine snd_c (s_bipush C dX5_undo_123 rfl) ?_
  refine snd_c (s_iald C dX5_undo_125) ?_
  refine snd_c (s_iret C hr dX5_undo_126) ?_
  exact trivial
theorem ac3_17 (s : Nat → Int32) {u : Nat} (x y z : Int32) {j : Nat} (hj : j < 17) : ac3 s u x y z j = s j := by
  unfold ac3 ps3
  split
  · rw [upd_n _ _ (by omega), upd_n _ _ (by omega), upd_n _ _ (by omega), upd_n _ _ (by omega), upd_n _ _ (by omega)]
    unfold sh3; rw [if_neg (by omega)]
  · rw [upd_n _ _ (by omega), upd_n _ _ (by omega), upd_n _ _ (by omega), upd_n _ _ (by omega)]
set_option maxRecDepth 100000 in
theorem v_X5_moves : ∀ as M post, S_X5_moves as M post → wsum as ≤ 4 ∧ RUN (T_X5_moves post) 0 (entL 4 as) [] M := by
  rintro as M post ⟨k, y, u, rfl, hk, hu, hu10, h1, h2⟩
  refine ⟨by show 3 ≤ 4; omega, run_wp 60 ?_⟩
  dsimp only [k_X5_moves_0, k_X5_moves_1, k_X5_moves_4, k_X5_moves_6, k_X5_moves_7, k_X5_moves_8, k_X5_moves_9, k_X5_moves_10, k_X5_moves_11, k_X5_moves_13, k_X5_moves_16, k_X5_moves_17, k_X5_moves_18, k_X5_moves_21, k_X5_moves_23, k_X5_moves_24, k_X5_moves_25, k_X5_moves_28, k_X5_moves_30, k_X5_moves_31, k_X5_moves_32, k_X5_moves_33, k_X5_moves_34, k_X5_moves_35, k_X5_moves_36, k_X5_moves_37, k_X5_moves_38, k_X5_moves_41, k_X5_moves_42, wp1, wp_s, cutIn, kont, Nat.reduceSub, Nat.reduceAdd, nth, o_const, o_lconst, o_ref, o_iload, o_lload, o_aload, o_istore, o_lstore, o_astore, o_iinc, o_bin, o_div, o_un, o_lbin, o_lsh, o_lcmp, o_i2l, o_l2i, o_if, o_icmp, o_goto, o_dup, o_dup2, o_pop, fav, o_getf, o_putI, o_putZ, o_putL, o_ald, o_ast, o_alen, popn, rst, o_callV, o_callT, o_callS, swx, o_sw, o_ret, o_iret, o_zret, o_cret, o_lret, o_aret, lg, lput, lput2, ls1, isL, entL, wsum, rdI1, rdI2, rdA1, rdA21, rdA22, rdL1, rdL22, rdL21, upN_at, rep, sh_0, F_0_0, F_0_1, F_0_2, F_0_3, F_0_4, F_0_5, F_0_6, F_0_7, F_0_8, sh_1, F_1_0, F_1_1, F_1_2, F_1_3, F_1_4, F_1_5, sh_3, F_3_0, F_3_1, F_3_2, F_3_3, F_3_4, F_3_5, sh_5, F_5_0, F_5_1, F_5_2, F_5_3, F_5_4, F_5_5, F_5_6, F_5_7, F_5_8, sh_12, F_12_0, F_12_1, F_12_2, F_12_3, F_12_4, F_12_5, sh_14, F_14_0, F_14_1, F_14_2, F_14_3, F_14_4, F_14_5, F_14_6, F_14_7, F_14_8, sh_21, F_21_0, F_21_1, F_21_2, F_21_3, F_21_4, F_21_5, F_21_6, F_21_7, F_21_8, sh_28, F_28_0, F_28_1, F_28_2, F_28_3, F_28_4, F_28_5, F_28_6, F_28_7, F_28_8, sh_35, F_35_0, sh_39, F_39_0, F_39_1, F_39_2, F_39_3, F_39_4, F_39_5, F_39_6, F_39_7, F_39_8, F_39_9, F_39_10, F_39_11, F_39_12, F_39_13, A_2, A_4, A_6, A_7, A_8, A_9, A_10, A_11, A_13, A_15, A_16, A_17, A_18, A_19, A_20, A_22, A_23, A_24, A_25, A_26, A_27, A_29, A_30, A_31, A_32, A_33, A_34, A_36, A_37, A_38, A_40, A_41, A_42, A_43, A_44, A_45, A_46, A_47]
  refine ⟨9 + k, by omega, nI_add 9 k, fun q => h1 (Or.inl q), fun q => ⟨fun q2 => h1 (Or.inr q2), fun q2 => ⟨9 + k, by omega, nI_add 9 k, 1, nI k, M.2.2 33 (9 + k), u, rfl, by show upd (M.2.2 33) (9 + k) y 17 = nI u; rw [upd_n _ _ (by omega)]; exact hu, hu10, ?_⟩⟩⟩
  dsimp only [k_X5_moves_0, k_X5_moves_1, k_X5_moves_4, k_X5_moves_6, k_X5_moves_7, k_X5_moves_8, k_X5_moves_9, k_X5_moves_10, k_X5_moves_11, k_X5_moves_13, k_X5_moves_16, k_X5_moves_17, k_X5_moves_18, k_X5_moves_21, k_X5_moves_23, k_X5_moves_24, k_X5_moves_25, k_X5_moves_28, k_X5_moves_30, k_X5_moves_31, k_X5_moves_32, k_X5_moves_33, k_X5_moves_34, k_X5_moves_35, k_X5_moves_36, k_X5_moves_37, k_X5_moves_38, k_X5_moves_41, k_X5_moves_42, wp1, wp_s, cutIn, kont, Nat.reduceSub, Nat.reduceAdd, nth, o_const, o_lconst, o_ref, o_iload, o_lload, o_aload, o_istore, o_lstore, o_astore, o_iinc, o_bin, o_div, o_un, o_lbin, o_lsh, o_lcmp, o_i2l, o_l2i, o_if, o_icmp, o_goto, o_dup, o_dup2, o_pop, fav, o_getf, o_putI, o_putZ, o_putL, o_ald, o_ast, o_alen, popn, rst, o_callV, o_callT, o_callS, swx, o_sw, o_ret, o_iret, o_zret, o_cret, o_lret, o_aret, lg, lput, lput2, ls1, isL, entL, wsum, rdI1, rdI2, rdA1, rdA21, rdA22, rdL1, rdL22, rdL21, upN_at, rep, sh_0, F_0_0, F_0_1, F_0_2, F_0_3, F_0_4, F_0_5, F_0_6, F_0_7, F_0_8, sh_1, F_1_0, F_1_1, F_1_2, F_1_3, F_1_4, F_1_5, sh_3, F_3_0, F_3_1, F_3_2, F_3_3, F_3_4, F_3_5, sh_5, F_5_0, F_5_1, F_5_2, F_5_3, F_5_4, F_5_5, F_5_6, F_5_7, F_5_8, sh_12, F_12_0, F_12_1, F_12_2, F_12_3, F_12_4, F_12_5, sh_14, F_14_0, F_14_1, F_14_2, F_14_3, F_14_4, F_14_5, F_14_6, F_14_7, F_14_8, sh_21, F_21_0, F_21_1, F_21_2, F_21_3, F_21_4, F_21_5, F_21_6, F_21_7, F_21_8, sh_28, F_28_0, F_28_1, F_28_2, F_28_3, F_28_4, F_28_5, F_28_6, F_28_7, F_28_8, sh_35, F_35_0, sh_39, F_39_0, F_39_1, F_39_2, F_39_3, F_39_4, F_39_5, F_39_6, F_39_7, F_39_8, F_39_9, F_39_10, F_39_11, F_39_12, F_39_13, A_2, A_4, A_6, A_7, A_8, A_9, A_10, A_11, A_13, A_15, A_16, A_17, A_18, A_19, A_20, A_22, A_23, A_24, A_25, A_26, A_27, A_29, A_30, A_31, A_32, A_33, A_34, A_36, A_37, A_38, A_40, A_41, A_42, A_43, A_44, A_45, A_46, A_47]
  simp only [sA_sA, sA_cm, sI_sA, sI_sI, sI_cm, sL_sA, sL_sI, sL_sL, sL_cm, Nat.reduceLT]
  exact h2 fun q3 => q3.elim q q2
set_option maxRecDepth 100000 in
theorem v_X5_cut : ∀ as M post, S_X5_cut as M post → wsum as ≤ 3 ∧ RUN (T_X5_cut post) 0 (entL 3 as) [] M := by
  rintro as M post ⟨x, n, u, rfl, hn, hn8, hu, hu10, h1, h2, h3⟩
  refine ⟨by show 2 ≤ 3; omega, run_wp 60 ?_⟩
  dsimp only [k_X5_cut_0, k_X5_cut_1, k_X5_cut_2, k_X5_cut_5, k_X5_cut_8, k_X5_cut_11, k_X5_cut_12, k_X5_cut_13, k_X5_cut_14, k_X5_cut_17, k_X5_cut_18, k_X5_cut_19, k_X5_cut_21, k_X5_cut_24, k_X5_cut_26, k_X5_cut_27, k_X5_cut_28, k_X5_cut_31, k_X5_cut_32, k_X5_cut_33, k_X5_cut_34, k_X5_cut_35, k_X5_cut_38, k_X5_cut_39, k_X5_cut_40, k_X5_cut_41, k_X5_cut_42, k_X5_cut_43, k_X5_cut_44, k_X5_cut_47, k_X5_cut_49, k_X5_cut_50, k_X5_cut_51, k_X5_cut_53, k_X5_cut_54, k_X5_cut_55, k_X5_cut_58, k_X5_cut_59, k_X5_cut_60, k_X5_cut_61, k_X5_cut_62, k_X5_cut_63, k_X5_cut_64, k_X5_cut_65, k_X5_cut_66, k_X5_cut_67, k_X5_cut_68, k_X5_cut_71, k_X5_cut_72, wp1, wp_s, cutIn, kont, Nat.reduceSub, Nat.reduceAdd, nth, o_const, o_lconst, o_ref, o_iload, o_lload, o_aload, o_istore, o_lstore, o_astore, o_iinc, o_bin, o_div, o_un, o_lbin, o_lsh, o_lcmp, o_i2l, o_l2i, o_if, o_icmp, o_goto, o_dup, o_dup2, o_pop, fav, o_getf, o_putI, o_putZ, o_putL, o_ald, o_ast, o_alen, popn, rst, o_callV, o_callT, o_callS, swx, o_sw, o_ret, o_iret, o_zret, o_cret, o_lret, o_aret, lg, lput, lput2, ls1, isL, entL, wsum, rdI1, rdI2, rdA1, rdA21, rdA22, rdL1, rdL22, rdL21, upN_at, rep, sh_0, F_0_0, F_0_1, F_0_2, F_0_3, F_0_4, F_0_5, F_0_6, F_0_7, F_0_8, sh_1, F_1_0, F_1_1, F_1_2, F_1_3, F_1_4, F_1_5, sh_3, F_3_0, F_3_1, F_3_2, F_3_3, F_3_4, F_3_5, sh_5, F_5_0, F_5_1, F_5_2, F_5_3, F_5_4, F_5_5, F_5_6, F_5_7, F_5_8, sh_12, F_12_0, F_12_1, F_12_2, F_12_3, F_12_4, F_12_5, sh_14, F_14_0, F_14_1, F_14_2, F_14_3, F_14_4, F_14_5, F_14_6, F_14_7, F_14_8, sh_21, F_21_0, F_21_1, F_21_2, F_21_3, F_21_4, F_21_5, F_21_6, F_21_7, F_21_8, sh_28, F_28_0, F_28_1, F_28_2, F_28_3, F_28_4, F_28_5, F_28_6, F_28_7, F_28_8, sh_35, F_35_0, sh_39, F_39_0, F_39_1, F_39_2, F_39_3, F_39_4, F_39_5, F_39_6, F_39_7, F_39_8, F_39_9, F_39_10, F_39_11, F_39_12, F_39_13, A_2, A_4, A_6, A_7, A_8, A_9, A_10, A_11, A_13, A_15, A_16, A_17, A_18, A_19, A_20, A_22, A_23, A_24, A_25, A_26, A_27, A_29, A_30, A_31, A_32, A_33, A_34, A_36, A_37, A_38, A_40, A_41, A_42, A_43, A_44, A_45, A_46, A_47]
  refine ⟨x, 0, 511, rfl, fun w1 => ?_, fun w1 => ?_⟩
  · dsimp only [k_X5_cut_0, k_X5_cut_1, k_X5_cut_2, k_X5_cut_5, k_X5_cut_8, k_X5_cut_11, k_X5_cut_12, k_X5_cut_13, k_X5_cut_14, k_X5_cut_17, k_X5_cut_18, k_X5_cut_19, k_X5_cut_21, k_X5_cut_24, k_X5_cut_26, k_X5_cut_27, k_X5_cut_28, k_X5_cut_31, k_X5_cut_32, k_X5_cut_33, k_X5_cut_34, k_X5_cut_35, k_X5_cut_38, k_X5_cut_39, k_X5_cut_40, k_X5_cut_41, k_X5_cut_42, k_X5_cut_43, k_X5_cut_44, k_X5_cut_47, k_X5_cut_49, k_X5_cut_50, k_X5_cut_51, k_X5_cut_53, k_X5_cut_54, k_X5_cut_55, k_X5_cut_58, k_X5_cut_59, k_X5_cut_60, k_X5_cut_61, k_X5_cut_62, k_X5_cut_63, k_X5_cut_64, k_X5_cut_65, k_X5_cut_66, k_X5_cut_67, k_X5_cut_68, k_X5_cut_71, k_X5_cut_72, wp1, wp_s, cutIn, kont, Nat.reduceSub, Nat.reduceAdd, nth, o_const, o_lconst, o_ref, o_iload, o_lload, o_aload, o_istore, o_lstore, o_astore, o_iinc, o_bin, o_div, o_un, o_lbin, o_lsh, o_lcmp, o_i2l, o_l2i, o_if, o_icmp, o_goto, o_dup, o_dup2, o_pop, fav, o_getf, o_putI, o_putZ, o_putL, o_ald, o_ast, o_alen, popn, rst, o_callV, o_callT, o_callS, swx, o_sw, o_ret, o_iret, o_zret, o_cret, o_lret, o_aret, lg, lput, lput2, ls1, isL, entL, wsum, rdI1, rdI2, rdA1, rdA21, rdA22, rdL1, rdL22, rdL21, upN_at, rep, sh_0, F_0_0, F_0_1, F_0_2, F_0_3, F_0_4, F_0_5, F_0_6, F_0_7, F_0_8, sh_1, F_1_0, F_1_1, F_1_2, F_1_3, F_1_4, F_1_5, sh_3, F_3_0, F_3_1, F_3_2, F_3_3, F_3_4, F_3_5, sh_5, F_5_0, F_5_1, F_5_2, F_5_3, F_5_4, F_5_5, F_5_6, F_5_7, F_5_8, sh_12, F_12_0, F_12_1, F_12_2, F_12_3, F_12_4, F_12_5, sh_14, F_14_0, F_14_1, F_14_2, F_14_3, F_14_4, F_14_5, F_14_6, F_14_7, F_14_8, sh_21, F_21_0, F_21_1, F_21_2, F_21_3, F_21_4, F_21_5, F_21_6, F_21_7, F_21_8, sh_28, F_28_0, F_28_1, F_28_2, F_28_3, F_28_4, F_28_5, F_28_6, F_28_7, F_28_8, sh_35, F_35_0, sh_39, F_39_0, F_39_1, F_39_2, F_39_3, F_39_4, F_39_5, F_39_6, F_39_7, F_39_8, F_39_9, F_39_10, F_39_11, F_39_12, F_39_13, A_2, A_4, A_6, A_7, A_8, A_9, A_10, A_11, A_13, A_15, A_16, A_17, A_18, A_19, A_20, A_22, A_23, A_24, A_25, A_26, A_27, A_29, A_30, A_31, A_32, A_33, A_34, A_36, A_37, A_38, A_40, A_41, A_42, A_43, A_44, A_45, A_46, A_47]
    refine ⟨fun q => absurd q (by decide), fun _ => ⟨0, by omega, rfl, fun q => ?_, fun q => ?_⟩⟩
    · rw [hn, show (8 : Int32) = nI 8 from rfl, nI_eq (by omega) (by omega)] at q
      exact h2 w1 q
    · rw [hn, show (8 : Int32) = nI 8 from rfl, nI_eq (by omega) (by omega)] at q
      refine ⟨0, by omega, rfl, 1 + n, by omega, by rw [hn]; exact nI_add 1 n, 9 + n, by omega, by rw [hn]; exact nI_add 9 n, 0, by omega, rfl, 0, by omega, rfl, 0, _, _, u, rfl, ?_, hu10, ?_⟩
      · show upd (upd (upd (M.2.2 33) (1 + n) x) (9 + n) (-4)) 0 (upd (upd (M.2.2 33) (1 + n) x) (9 + n) (-4) 0 + 1) 17 = nI u
        rw [upd_n _ _ (by omega), upd_n _ _ (by omega), upd_n _ _ (by omega)]
        exact hu
      · dsimp only [k_X5_cut_0, k_X5_cut_1, k_X5_cut_2, k_X5_cut_5, k_X5_cut_8, k_X5_cut_11, k_X5_cut_12, k_X5_cut_13, k_X5_cut_14, k_X5_cut_17, k_X5_cut_18, k_X5_cut_19, k_X5_cut_21, k_X5_cut_24, k_X5_cut_26, k_X5_cut_27, k_X5_cut_28, k_X5_cut_31, k_X5_cut_32, k_X5_cut_33, k_X5_cut_34, k_X5_cut_35, k_X5_cut_38, k_X5_cut_39, k_X5_cut_40, k_X5_cut_41, k_X5_cut_42, k_X5_cut_43, k_X5_cut_44, k_X5_cut_47, k_X5_cut_49, k_X5_cut_50, k_X5_cut_51, k_X5_cut_53, k_X5_cut_54, k_X5_cut_55, k_X5_cut_58, k_X5_cut_59, k_X5_cut_60, k_X5_cut_61, k_X5_cut_62, k_X5_cut_63, k_X5_cut_64, k_X5_cut_65, k_X5_cut_66, k_X5_cut_67, k_X5_cut_68, k_X5_cut_71, k_X5_cut_72, wp1, wp_s, cutIn, kont, Nat.reduceSub, Nat.reduceAdd, nth, o_const, o_lconst, o_ref, o_iload, o_lload, o_aload, o_istore, o_lstore, o_astore, o_iinc, o_bin, o_div, o_un, o_lbin, o_lsh, o_lcmp, o_i2l, o_l2i, o_if, o_icmp, o_goto, o_dup, o_dup2, o_pop, fav, o_getf, o_putI, o_putZ, o_putL, o_ald, o_ast, o_alen, popn, rst, o_callV, o_callT, o_callS, swx, o_sw, o_ret, o_iret, o_zret, o_cret, o_lret, o_aret, lg, lput, lput2, ls1, isL, entL, wsum, rdI1, rdI2, rdA1, rdA21, rdA22, rdL1, rdL22, rdL21, upN_at, rep, sh_0, F_0_0, F_0_1, F_0_2, F_0_3, F_0_4, F_0_5, F_0_6, F_0_7, F_0_8, sh_1, F_1_0, F_1_1, F_1_2, F_1_3, F_1_4, F_1_5, sh_3, F_3_0, F_3_1, F_3_2, F_3_3, F_3_4, F_3_5, sh_5, F_5_0, F_5_1, F_5_2, F_5_3, F_5_4, F_5_5, F_5_6, F_5_7, F_5_8, sh_12, F_12_0, F_12_1, F_12_2, F_12_3, F_12_4, F_12_5, sh_14, F_14_0, F_14_1, F_14_2, F_14_3, F_14_4, F_14_5, F_14_6, F_14_7, F_14_8, sh_21, F_21_0, F_21_1, F_21_2, F_21_3, F_21_4, F_21_5, F_21_6, F_21_7, F_21_8, sh_28, F_28_0, F_28_1, F_28_2, F_28_3, F_28_4, F_28_5, F_28_6, F_28_7, F_28_8, sh_35, F_35_0, sh_39, F_39_0, F_39_1, F_39_2, F_39_3, F_39_4, F_39_5, F_39_6, F_39_7, F_39_8, F_39_9, F_39_10, F_39_11, F_39_12, F_39_13, A_2, A_4, A_6, A_7, A_8, A_9, A_10, A_11, A_13, A_15, A_16, A_17, A_18, A_19, A_20, A_22, A_23, A_24, A_25, A_26, A_27, A_29, A_30, A_31, A_32, A_33, A_34, A_36, A_37, A_38, A_40, A_41, A_42, A_43, A_44, A_45, A_46, A_47]
        simp only [sA_sA, sA_cm, sI_sA, sI_sI, sI_cm, sL_sA, sL_sI, sL_sL, sL_cm, Nat.reduceLT]
        rw [upd_n _ _ (by omega), upd_n _ _ (by omega), hn, nI_1]
        exact h3 w1 (by omega)
  · dsimp only [k_X5_cut_0, k_X5_cut_1, k_X5_cut_2, k_X5_cut_5, k_X5_cut_8, k_X5_cut_11, k_X5_cut_12, k_X5_cut_13, k_X5_cut_14, k_X5_cut_17, k_X5_cut_18, k_X5_cut_19, k_X5_cut_21, k_X5_cut_24, k_X5_cut_26, k_X5_cut_27, k_X5_cut_28, k_X5_cut_31, k_X5_cut_32, k_X5_cut_33, k_X5_cut_34, k_X5_cut_35, k_X5_cut_38, k_X5_cut_39, k_X5_cut_40, k_X5_cut_41, k_X5_cut_42, k_X5_cut_43, k_X5_cut_44, k_X5_cut_47, k_X5_cut_49, k_X5_cut_50, k_X5_cut_51, k_X5_cut_53, k_X5_cut_54, k_X5_cut_55, k_X5_cut_58, k_X5_cut_59, k_X5_cut_60, k_X5_cut_61, k_X5_cut_62, k_X5_cut_63, k_X5_cut_64, k_X5_cut_65, k_X5_cut_66, k_X5_cut_67, k_X5_cut_68, k_X5_cut_71, k_X5_cut_72, wp1, wp_s, cutIn, kont, Nat.reduceSub, Nat.reduceAdd, nth, o_const, o_lconst, o_ref, o_iload, o_lload, o_aload, o_istore, o_lstore, o_astore, o_iinc, o_bin, o_div, o_un, o_lbin, o_lsh, o_lcmp, o_i2l, o_l2i, o_if, o_icmp, o_goto, o_dup, o_dup2, o_pop, fav, o_getf, o_putI, o_putZ, o_putL, o_ald, o_ast, o_alen, popn, rst, o_callV, o_callT, o_callS, swx, o_sw, o_ret, o_iret, o_zret, o_cret, o_lret, o_aret, lg, lput, lput2, ls1, isL, entL, wsum, rdI1, rdI2, rdA1, rdA21, rdA22, rdL1, rdL22, rdL21, upN_at, rep, sh_0, F_0_0, F_0_1, F_0_2, F_0_3, F_0_4, F_0_5, F_0_6, F_0_7, F_0_8, sh_1, F_1_0, F_1_1, F_1_2, F_1_3, F_1_4, F_1_5, sh_3, F_3_0, F_3_1, F_3_2, F_3_3, F_3_4, F_3_5, sh_5, F_5_0, F_5_1, F_5_2, F_5_3, F_5_4, F_5_5, F_5_6, F_5_7, F_5_8, sh_12, F_12_0, F_12_1, F_12_2, F_12_3, F_12_4, F_12_5, sh_14, F_14_0, F_14_1, F_14_2, F_14_3, F_14_4, F_14_5, F_14_6, F_14_7, F_14_8, sh_21, F_21_0, F_21_1, F_21_2, F_21_3, F_21_4, F_21_5, F_21_6, F_21_7, F_21_8, sh_28, F_28_0, F_28_1, F_28_2, F_28_3, F_28_4, F_28_5, F_28_6, F_28_7, F_28_8, sh_35, F_35_0, sh_39, F_39_0, F_39_1, F_39_2, F_39_3, F_39_4, F_39_5, F_39_6, F_39_7, F_39_8, F_39_9, F_39_10, F_39_11, F_39_12, F_39_13, A_2, A_4, A_6, A_7, A_8, A_9, A_10, A_11, A_13, A_15, A_16, A_17, A_18, A_19, A_20, A_22, A_23, A_24, A_25, A_26, A_27, A_29, A_30, A_31, A_32, A_33, A_34, A_36, A_37, A_38, A_40, A_41, A_42, A_43, A_44, A_45, A_46, A_47]
    exact ⟨fun _ => h1 w1, fun q => absurd rfl q⟩
set_option maxRecDepth 100000 in
theorem v_X5_forge : ∀ as M post, S_X5_forge as M post → wsum as ≤ 3 ∧ RUN (T_X5_forge post) 0 (entL 3 as) [] M := by
  rintro as M post ⟨x, y, n, c, p, r, h0, lk, u, rfl, hX, hu, hu10, h1, h2, h3⟩
  have hX0 := hX
  obtain ⟨hn, hn8, hc, hc6, hp, hp4, hr, hhk, hl⟩ := hX
  refine ⟨by show 3 ≤ 3; omega, run_wp 60 ?_⟩
  dsimp only [k_X5_forge_0, k_X5_forge_1, k_X5_forge_2, k_X5_forge_5, k_X5_forge_8, k_X5_forge_9, k_X5_forge_10, k_X5_forge_12, k_X5_forge_15, k_X5_forge_18, k_X5_forge_19, k_X5_forge_20, k_X5_forge_21, k_X5_forge_24, k_X5_forge_26, k_X5_forge_27, k_X5_forge_28, k_X5_forge_29, k_X5_forge_31, k_X5_forge_34, k_X5_forge_36, k_X5_forge_37, k_X5_forge_38, k_X5_forge_41, k_X5_forge_42, k_X5_forge_43, k_X5_forge_44, k_X5_forge_45, k_X5_forge_46, k_X5_forge_47, k_X5_forge_48, k_X5_forge_49, k_X5_forge_50, k_X5_forge_51, k_X5_forge_52, k_X5_forge_53, k_X5_forge_54, k_X5_forge_55, k_X5_forge_58, k_X5_forge_59, k_X5_forge_62, k_X5_forge_63, k_X5_forge_64, k_X5_forge_65, k_X5_forge_66, wp1, wp_s, cutIn, kont, Nat.reduceSub, Nat.reduceAdd, nth, o_const, o_lconst, o_ref, o_iload, o_lload, o_aload, o_istore, o_lstore, o_astore, o_iinc, o_bin, o_div, o_un, o_lbin, o_lsh, o_lcmp, o_i2l, o_l2i, o_if, o_icmp, o_goto, o_dup, o_dup2, o_pop, fav, o_getf, o_putI, o_putZ, o_putL, o_ald, o_ast, o_alen, popn, rst, o_callV, o_callT, o_callS, swx, o_sw, o_ret, o_iret, o_zret, o_cret, o_lret, o_aret, lg, lput, lput2, ls1, isL, entL, wsum, rdI1, rdI2, rdA1, rdA21, rdA22, rdL1, rdL22, rdL21, upN_at, rep, sh_0, F_0_0, F_0_1, F_0_2, F_0_3, F_0_4, F_0_5, F_0_6, F_0_7, F_0_8, sh_1, F_1_0, F_1_1, F_1_2, F_1_3, F_1_4, F_1_5, sh_3, F_3_0, F_3_1, F_3_2, F_3_3, F_3_4, F_3_5, sh_5, F_5_0, F_5_1, F_5_2, F_5_3, F_5_4, F_5_5, F_5_6, F_5_7, F_5_8, sh_12, F_12_0, F_12_1, F_12_2, F_12_3, F_12_4, F_12_5, sh_14, F_14_0, F_14_1, F_14_2, F_14_3, F_14_4, F_14_5, F_14_6, F_14_7, F_14_8, sh_21, F_21_0, F_21_1, F_21_2, F_21_3, F_21_4, F_21_5, F_21_6, F_21_7, F_21_8, sh_28, F_28_0, F_28_1, F_28_2, F_28_3, F_28_4, F_28_5, F_28_6, F_28_7, F_28_8, sh_35, F_35_0, sh_39, F_39_0, F_39_1, F_39_2, F_39_3, F_39_4, F_39_5, F_39_6, F_39_7, F_39_8, F_39_9, F_39_10, F_39_11, F_39_12, F_39_13, A_2, A_4, A_6, A_7, A_8, A_9, A_10, A_11, A_13, A_15, A_16, A_17, A_18, A_19, A_20, A_22, A_23, A_24, A_25, A_26, A_27, A_29, A_30, A_31, A_32, A_33, A_34, A_36, A_37, A_38, A_40, A_41, A_42, A_43, A_44, A_45, A_46, A_47]
  refine ⟨x, n, c, p, r, h0, lk, rfl, hX0, fun w1 => ?_, fun w1 => ?_⟩
  · obtain ⟨k, rfl, hk⟩ := rg (by omega) w1
    dsimp only [k_X5_forge_0, k_X5_forge_1, k_X5_forge_2, k_X5_forge_5, k_X5_forge_8, k_X5_forge_9, k_X5_forge_10, k_X5_forge_12, k_X5_forge_15, k_X5_forge_18, k_X5_forge_19, k_X5_forge_20, k_X5_forge_21, k_X5_forge_24, k_X5_forge_26, k_X5_forge_27, k_X5_forge_28, k_X5_forge_29, k_X5_forge_31, k_X5_forge_34, k_X5_forge_36, k_X5_forge_37, k_X5_forge_38, k_X5_forge_41, k_X5_forge_42, k_X5_forge_43, k_X5_forge_44, k_X5_forge_45, k_X5_forge_46, k_X5_forge_47, k_X5_forge_48, k_X5_forge_49, k_X5_forge_50, k_X5_forge_51, k_X5_forge_52, k_X5_forge_53, k_X5_forge_54, k_X5_forge_55, k_X5_forge_58, k_X5_forge_59, k_X5_forge_62, k_X5_forge_63, k_X5_forge_64, k_X5_forge_65, k_X5_forge_66, wp1, wp_s, cutIn, kont, Nat.reduceSub, Nat.reduceAdd, nth, o_const, o_lconst, o_ref, o_iload, o_lload, o_aload, o_istore, o_lstore, o_astore, o_iinc, o_bin, o_div, o_un, o_lbin, o_lsh, o_lcmp, o_i2l, o_l2i, o_if, o_icmp, o_goto, o_dup, o_dup2, o_pop, fav, o_getf, o_putI, o_putZ, o_putL, o_ald, o_ast, o_alen, popn, rst, o_callV, o_callT, o_callS, swx, o_sw, o_ret, o_iret, o_zret, o_cret, o_lret, o_aret, lg, lput, lput2, ls1, isL, entL, wsum, rdI1, rdI2, rdA1, rdA21, rdA22, rdL1, rdL22, rdL21, upN_at, rep, sh_0, F_0_0, F_0_1, F_0_2, F_0_3, F_0_4, F_0_5, F_0_6, F_0_7, F_0_8, sh_1, F_1_0, F_1_1, F_1_2, F_1_3, F_1_4, F_1_5, sh_3, F_3_0, F_3_1, F_3_2, F_3_3, F_3_4, F_3_5, sh_5, F_5_0, F_5_1, F_5_2, F_5_3, F_5_4, F_5_5, F_5_6, F_5_7, F_5_8, sh_12, F_12_0, F_12_1, F_12_2, F_12_3, F_12_4, F_12_5, sh_14, F_14_0, F_14_1, F_14_2, F_14_3, F_14_4, F_14_5, F_14_6, F_14_7, F_14_8, sh_21, F_21_0, F_21_1, F_21_2, F_21_3, F_21_4, F_21_5, F_21_6, F_21_7, F_21_8, sh_28, F_28_0, F_28_1, F_28_2, F_28_3, F_28_4, F_28_5, F_28_6, F_28_7, F_28_8, sh_35, F_35_0, sh_39, F_39_0, F_39_1, F_39_2, F_39_3, F_39_4, F_39_5, F_39_6, F_39_7, F_39_8, F_39_9, F_39_10, F_39_11, F_39_12, F_39_13, A_2, A_4, A_6, A_7, A_8, A_9, A_10, A_11, A_13, A_15, A_16, A_17, A_18, A_19, A_20, A_22, A_23, A_24, A_25, A_26, A_27, A_29, A_30, A_31, A_32, A_33, A_34, A_36, A_37, A_38, A_40, A_41, A_42, A_43, A_44, A_45, A_46, A_47]
    refine ⟨fun q => absurd q (by decide), fun _ => ⟨y, 0, 8, rfl, fun w2 => ?_, fun w2 => ?_⟩⟩
    · obtain ⟨t, ht, rfl⟩ := nI_of (x := y) (Int32.not_lt.mpr w2.1)
      have ht8 : t ≤ 8 := by
        have := w2.2
        rwa [show (8 : Int32) = nI 8 from rfl, nI_leI (by omega) (by omega)] at this
      dsimp only [k_X5_forge_0, k_X5_forge_1, k_X5_forge_2, k_X5_forge_5, k_X5_forge_8, k_X5_forge_9, k_X5_forge_10, k_X5_forge_12, k_X5_forge_15, k_X5_forge_18, k_X5_forge_19, k_X5_forge_20, k_X5_forge_21, k_X5_forge_24, k_X5_forge_26, k_X5_forge_27, k_X5_forge_28, k_X5_forge_29, k_X5_forge_31, k_X5_forge_34, k_X5_forge_36, k_X5_forge_37, k_X5_forge_38, k_X5_forge_41, k_X5_forge_42, k_X5_forge_43, k_X5_forge_44, k_X5_forge_45, k_X5_forge_46, k_X5_forge_47, k_X5_forge_48, k_X5_forge_49, k_X5_forge_50, k_X5_forge_51, k_X5_forge_52, k_X5_forge_53, k_X5_forge_54, k_X5_forge_55, k_X5_forge_58, k_X5_forge_59, k_X5_forge_62, k_X5_forge_63, k_X5_forge_64, k_X5_forge_65, k_X5_forge_66, wp1, wp_s, cutIn, kont, Nat.reduceSub, Nat.reduceAdd, nth, o_const, o_lconst, o_ref, o_iload, o_lload, o_aload, o_istore, o_lstore, o_astore, o_iinc, o_bin, o_div, o_un, o_lbin, o_lsh, o_lcmp, o_i2l, o_l2i, o_if, o_icmp, o_goto, o_dup, o_dup2, o_pop, fav, o_getf, o_putI, o_putZ, o_putL, o_ald, o_ast, o_alen, popn, rst, o_callV, o_callT, o_callS, swx, o_sw, o_ret, o_iret, o_zret, o_cret, o_lret, o_aret, lg, lput, lput2, ls1, isL, entL, wsum, rdI1, rdI2, rdA1, rdA21, rdA22, rdL1, rdL22, rdL21, upN_at, rep, sh_0, F_0_0, F_0_1, F_0_2, F_0_3, F_0_4, F_0_5, F_0_6, F_0_7, F_0_8, sh_1, F_1_0, F_1_1, F_1_2, F_1_3, F_1_4, F_1_5, sh_3, F_3_0, F_3_1, F_3_2, F_3_3, F_3_4, F_3_5, sh_5, F_5_0, F_5_1, F_5_2, F_5_3, F_5_4, F_5_5, F_5_6, F_5_7, F_5_8, sh_12, F_12_0, F_12_1, F_12_2, F_12_3, F_12_4, F_12_5, sh_14, F_14_0, F_14_1, F_14_2, F_14_3, F_14_4, F_14_5, F_14_6, F_14_7, F_14_8, sh_21, F_21_0, F_21_1, F_21_2, F_21_3, F_21_4, F_21_5, F_21_6, F_21_7, F_21_8, sh_28, F_28_0, F_28_1, F_28_2, F_28_3, F_28_4, F_28_5, F_28_6, F_28_7, F_28_8, sh_35, F_35_0, sh_39, F_39_0, F_39_1, F_39_2, F_39_3, F_39_4, F_39_5, F_39_6, F_39_7, F_39_8, F_39_9, F_39_10, F_39_11, F_39_12, F_39_13, A_2, A_4, A_6, A_7, A_8, A_9, A_10, A_11, A_13, A_15, A_16, A_17, A_18, A_19, A_20, A_22, A_23, A_24, A_25, A_26, A_27, A_29, A_30, A_31, A_32, A_33, A_34, A_36, A_37, A_38, A_40, A_41, A_42, A_43, A_44, A_45, A_46, A_47]
      refine ⟨fun q => absurd q (by decide), fun _ => ⟨9 + k, by omega, nI_add 9 k, fun q => ?_, fun q => ⟨1 + k, by omega, nI_add 1 k, 1 + k, by omega, nI_add 1 k, ?_⟩⟩⟩
      · rw [hhk k hk] at q
        exact h2 k rfl hk w2 q
      · rw [hhk k hk] at q
        rw [(hr k hk).1, one_shl (by omega), nI_xor]
        refine ⟨2, _, _, u, rfl, ?_, hu10, ?_⟩
        · show upd (M.2.2 33) (1 + k) _ 17 = nI u
          rw [upd_n _ _ (by omega)]; exact hu
        · dsimp only [k_X5_forge_0, k_X5_forge_1, k_X5_forge_2, k_X5_forge_5, k_X5_forge_8, k_X5_forge_9, k_X5_forge_10, k_X5_forge_12, k_X5_forge_15, k_X5_forge_18, k_X5_forge_19, k_X5_forge_20, k_X5_forge_21, k_X5_forge_24, k_X5_forge_26, k_X5_forge_27, k_X5_forge_28, k_X5_forge_29, k_X5_forge_31, k_X5_forge_34, k_X5_forge_36, k_X5_forge_37, k_X5_forge_38, k_X5_forge_41, k_X5_forge_42, k_X5_forge_43, k_X5_forge_44, k_X5_forge_45, k_X5_forge_46, k_X5_forge_47, k_X5_forge_48, k_X5_forge_49, k_X5_forge_50, k_X5_forge_51, k_X5_forge_52, k_X5_forge_53, k_X5_forge_54, k_X5_forge_55, k_X5_forge_58, k_X5_forge_59, k_X5_forge_62, k_X5_forge_63, k_X5_forge_64, k_X5_forge_65, k_X5_forge_66, wp1, wp_s, cutIn, kont, Nat.reduceSub, Nat.reduceAdd, nth, o_const, o_lconst, o_ref, o_iload, o_lload, o_aload, o_istore, o_lstore, o_astore, o_iinc, o_bin, o_div, o_un, o_lbin, o_lsh, o_lcmp, o_i2l, o_l2i, o_if, o_icmp, o_goto, o_dup, o_dup2, o_pop, fav, o_getf, o_putI, o_putZ, o_putL, o_ald, o_ast, o_alen, popn, rst, o_callV, o_callT, o_callS, swx, o_sw, o_ret, o_iret, o_zret, o_cret, o_lret, o_aret, lg, lput, lput2, ls1, isL, entL, wsum, rdI1, rdI2, rdA1, rdA21, rdA22, rdL1, rdL22, rdL21, upN_at, rep, sh_0, F_0_0, F_0_1, F_0_2, F_0_3, F_0_4, F_0_5, F_0_6, F_0_7, F_0_8, sh_1, F_1_0, F_1_1, F_1_2, F_1_3, F_1_4, F_1_5, sh_3, F_3_0, F_3_1, F_3_2, F_3_3, F_3_4, F_3_5, sh_5, F_5_0, F_5_1, F_5_2, F_5_3, F_5_4, F_5_5, F_5_6, F_5_7, F_5_8, sh_12, F_12_0, F_12_1, F_12_2, F_12_3, F_12_4, F_12_5, sh_14, F_14_0, F_14_1, F_14_2, F_14_3, F_14_4, F_14_5, F_14_6, F_14_7, F_14_8, sh_21, F_21_0, F_21_1, F_21_2, F_21_3, F_21_4, F_21_5, F_21_6, F_21_7, F_21_8, sh_28, F_28_0, F_28_1, F_28_2, F_28_3, F_28_4, F_28_5, F_28_6, F_28_7, F_28_8, sh_35, F_35_0, sh_39, F_39_0, F_39_1, F_39_2, F_39_3, F_39_4, F_39_5, F_39_6, F_39_7, F_39_8, F_39_9, F_39_10, F_39_11, F_39_12, F_39_13, A_2, A_4, A_6, A_7, A_8, A_9, A_10, A_11, A_13, A_15, A_16, A_17, A_18, A_19, A_20, A_22, A_23, A_24, A_25, A_26, A_27, A_29, A_30, A_31, A_32, A_33, A_34, A_36, A_37, A_38, A_40, A_41, A_42, A_43, A_44, A_45, A_46, A_47]
          refine ⟨1 + k, by omega, nI_add 1 k, ?_⟩
          simp only [sA_sA, sA_cm, sI_sA, sI_sI, sI_cm, sL_sA, sL_sI, sL_sL, sL_cm, Nat.reduceLT]
          rw [ac3_17 _ _ _ _ (by omega), upd_s]
          exact h3 k t rfl hk rfl ht8 q
    · dsimp only [k_X5_forge_0, k_X5_forge_1, k_X5_forge_2, k_X5_forge_5, k_X5_forge_8, k_X5_forge_9, k_X5_forge_10, k_X5_forge_12, k_X5_forge_15, k_X5_forge_18, k_X5_forge_19, k_X5_forge_20, k_X5_forge_21, k_X5_forge_24, k_X5_forge_26, k_X5_forge_27, k_X5_forge_28, k_X5_forge_29, k_X5_forge_31, k_X5_forge_34, k_X5_forge_36, k_X5_forge_37, k_X5_forge_38, k_X5_forge_41, k_X5_forge_42, k_X5_forge_43, k_X5_forge_44, k_X5_forge_45, k_X5_forge_46, k_X5_forge_47, k_X5_forge_48, k_X5_forge_49, k_X5_forge_50, k_X5_forge_51, k_X5_forge_52, k_X5_forge_53, k_X5_forge_54, k_X5_forge_55, k_X5_forge_58, k_X5_forge_59, k_X5_forge_62, k_X5_forge_63, k_X5_forge_64, k_X5_forge_65, k_X5_forge_66, wp1, wp_s, cutIn, kont, Nat.reduceSub, Nat.reduceAdd, nth, o_const, o_lconst, o_ref, o_iload, o_lload, o_aload, o_istore, o_lstore, o_astore, o_iinc, o_bin, o_div, o_un, o_lbin, o_lsh, o_lcmp, o_i2l, o_l2i, o_if, o_icmp, o_goto, o_dup, o_dup2, o_pop, fav, o_getf, o_putI, o_putZ, o_putL, o_ald, o_ast, o_alen, popn, rst, o_callV, o_callT, o_callS, swx, o_sw, o_ret, o_iret, o_zret, o_cret, o_lret, o_aret, lg, lput, lput2, ls1, isL, entL, wsum, rdI1, rdI2, rdA1, rdA21, rdA22, rdL1, rdL22, rdL21, upN_at, rep, sh_0, F_0_0, F_0_1, F_0_2, F_0_3, F_0_4, F_0_5, F_0_6, F_0_7, F_0_8, sh_1, F_1_0, F_1_1, F_1_2, F_1_3, F_1_4, F_1_5, sh_3, F_3_0, F_3_1, F_3_2, F_3_3, F_3_4, F_3_5, sh_5, F_5_0, F_5_1, F_5_2, F_5_3, F_5_4, F_5_5, F_5_6, F_5_7, F_5_8, sh_12, F_12_0, F_12_1, F_12_2, F_12_3, F_12_4, F_12_5, sh_14, F_14_0, F_14_1, F_14_2, F_14_3, F_14_4, F_14_5, F_14_6, F_14_7, F_14_8, sh_21, F_21_0, F_21_1, F_21_2, F_21_3, F_21_4, F_21_5, F_21_6, F_21_7, F_21_8, sh_28, F_28_0, F_28_1, F_28_2, F_28_3, F_28_4, F_28_5, F_28_6, F_28_7, F_28_8, sh_35, F_35_0, sh_39, F_39_0, F_39_1, F_39_2, F_39_3, F_39_4, F_39_5, F_39_6, F_39_7, F_39_8, F_39_9, F_39_10, F_39_11, F_39_12, F_39_13, A_2, A_4, A_6, A_7, A_8, A_9, A_10, A_11, A_13, A_15, A_16, A_17, A_18, A_19, A_20, A_22, A_23, A_24, A_25, A_26, A_27, A_29, A_30, A_31, A_32, A_33, A_34, A_36, A_37, A_38, A_40, A_41, A_42, A_43, A_44, A_45, A_46, A_47]
      exact ⟨fun _ => h1 fun q => w2 q.2, fun q => absurd rfl q⟩
  · dsimp only [k_X5_forge_0, k_X5_forge_1, k_X5_forge_2, k_X5_forge_5, k_X5_forge_8, k_X5_forge_9, k_X5_forge_10, k_X5_forge_12, k_X5_forge_15, k_X5_forge_18, k_X5_forge_19, k_X5_forge_20, k_X5_forge_21, k_X5_forge_24, k_X5_forge_26, k_X5_forge_27, k_X5_forge_28, k_X5_forge_29, k_X5_forge_31, k_X5_forge_34, k_X5_forge_36, k_X5_forge_37, k_X5_forge_38, k_X5_forge_41, k_X5_forge_42, k_X5_forge_43, k_X5_forge_44, k_X5_forge_45, k_X5_forge_46, k_X5_forge_47, k_X5_forge_48, k_X5_forge_49, k_X5_forge_50, k_X5_forge_51, k_X5_forge_52, k_X5_forge_53, k_X5_forge_54, k_X5_forge_55, k_X5_forge_58, k_X5_forge_59, k_X5_forge_62, k_X5_forge_63, k_X5_forge_64, k_X5_forge_65, k_X5_forge_66, wp1, wp_s, cutIn, kont, Nat.reduceSub, Nat.reduceAdd, nth, o_const, o_lconst, o_ref, o_iload, o_lload, o_aload, o_istore, o_lstore, o_astore, o_iinc, o_bin, o_div, o_un, o_lbin, o_lsh, o_lcmp, o_i2l, o_l2i, o_if, o_icmp, o_goto, o_dup, o_dup2, o_pop, fav, o_getf, o_putI, o_putZ, o_putL, o_ald, o_ast, o_alen, popn, rst, o_callV, o_callT, o_callS, swx, o_sw, o_ret, o_iret, o_zret, o_cret, o_lret, o_aret, lg, lput, lput2, ls1, isL, entL, wsum, rdI1, rdI2, rdA1, rdA21, rdA22, rdL1, rdL22, rdL21, upN_at, rep, sh_0, F_0_0, F_0_1, F_0_2, F_0_3, F_0_4, F_0_5, F_0_6, F_0_7, F_0_8, sh_1, F_1_0, F_1_1, F_1_2, F_1_3, F_1_4, F_1_5, sh_3, F_3_0, F_3_1, F_3_2, F_3_3, F_3_4, F_3_5, sh_5, F_5_0, F_5_1, F_5_2, F_5_3, F_5_4, F_5_5, F_5_6, F_5_7, F_5_8, sh_12, F_12_0, F_12_1, F_12_2, F_12_3, F_12_4, F_12_5, sh_14, F_14_0, F_14_1, F_14_2, F_14_3, F_14_4, F_14_5, F_14_6, F_14_7, F_14_8, sh_21, F_21_0, F_21_1, F_21_2, F_21_3, F_21_4, F_21_5, F_21_6, F_21_7, F_21_8, sh_28, F_28_0, F_28_1, F_28_2, F_28_3, F_28_4, F_28_5, F_28_6, F_28_7, F_28_8, sh_35, F_35_0, sh_39, F_39_0, F_39_1, F_39_2, F_39_3, F_39_4, F_39_5, F_39_6, F_39_7, F_39_8, F_39_9, F_39_10, F_39_11, F_39_12, F_39_13, A_2, A_4, A_6, A_7, A_8, A_9, A_10, A_11, A_13, A_15, A_16, A_17, A_18, A_19, A_20, A_22, A_23, A_24, A_25, A_26, A_27, A_29, A_30, A_31, A_32, A_33, A_34, A_36, A_37, A_38, A_40, A_41, A_42, A_43, A_44, A_45, A_46, A_47]
    exact ⟨fun _ => h1 fun q => w1 q.1, fun q => absurd rfl q⟩
set_option maxRecDepth 100000 in
theorem v_X5_undo : ∀ as M post, S_X5_undo as M post → wsum as ≤ 3 ∧ RUN (T_X5_undo post) 0 (entL 3 as) [] M := by
  rintro as M post ⟨u, rfl, hu, hu10, h1, h2⟩
  refine ⟨by show 1 ≤ 3; omega, run_wp 80 ?_⟩
  dsimp only [k_X5_undo_0, k_X5_undo_1, k_X5_undo_4, k_X5_undo_6, k_X5_undo_7, k_X5_undo_10, k_X5_undo_12, k_X5_undo_13, k_X5_undo_14, k_X5_undo_17, k_X5_undo_19, k_X5_undo_20, k_X5_undo_21, k_X5_undo_22, k_X5_undo_23, k_X5_undo_24, k_X5_undo_26, k_X5_undo_27, k_X5_undo_28, k_X5_undo_31, k_X5_undo_33, k_X5_undo_34, k_X5_undo_35, k_X5_undo_36, k_X5_undo_37, k_X5_undo_38, k_X5_undo_41, k_X5_undo_42, k_X5_undo_43, k_X5_undo_44, k_X5_undo_45, k_X5_undo_46, k_X5_undo_47, k_X5_undo_50, k_X5_undo_51, k_X5_undo_52, k_X5_undo_55, k_X5_undo_56, k_X5_undo_59, k_X5_undo_60, k_X5_undo_61, k_X5_undo_62, k_X5_undo_63, k_X5_undo_64, k_X5_undo_65, k_X5_undo_68, k_X5_undo_69, k_X5_undo_72, k_X5_undo_73, k_X5_undo_74, k_X5_undo_75, k_X5_undo_78, k_X5_undo_79, k_X5_undo_82, k_X5_undo_84, k_X5_undo_85, k_X5_undo_86, k_X5_undo_87, k_X5_undo_90, k_X5_undo_91, k_X5_undo_92, k_X5_undo_93, k_X5_undo_94, k_X5_undo_95, k_X5_undo_98, k_X5_undo_99, k_X5_undo_102, k_X5_undo_103, k_X5_undo_104, k_X5_undo_105, k_X5_undo_106, k_X5_undo_107, k_X5_undo_108, k_X5_undo_109, k_X5_undo_112, k_X5_undo_113, k_X5_undo_114, k_X5_undo_115, k_X5_undo_116, k_X5_undo_117, k_X5_undo_118, k_X5_undo_119, k_X5_undo_120, k_X5_undo_123, k_X5_undo_125, k_X5_undo_126, wp1, wp_s, cutIn, kont, Nat.reduceSub, Nat.reduceAdd, nth, o_const, o_lconst, o_ref, o_iload, o_lload, o_aload, o_istore, o_lstore, o_astore, o_iinc, o_bin, o_div, o_un, o_lbin, o_lsh, o_lcmp, o_i2l, o_l2i, o_if, o_icmp, o_goto, o_dup, o_dup2, o_pop, fav, o_getf, o_putI, o_putZ, o_putL, o_ald, o_ast, o_alen, popn, rst, o_callV, o_callT, o_callS, swx, o_sw, o_ret, o_iret, o_zret, o_cret, o_lret, o_aret, lg, lput, lput2, ls1, isL, entL, wsum, rdI1, rdI2, rdA1, rdA21, rdA22, rdL1, rdL22, rdL21, upN_at, rep, sh_0, F_0_0, F_0_1, F_0_2, F_0_3, F_0_4, F_0_5, F_0_6, F_0_7, F_0_8, sh_1, F_1_0, F_1_1, F_1_2, F_1_3, F_1_4, F_1_5, sh_3, F_3_0, F_3_1, F_3_2, F_3_3, F_3_4, F_3_5, sh_5, F_5_0, F_5_1, F_5_2, F_5_3, F_5_4, F_5_5, F_5_6, F_5_7, F_5_8, sh_12, F_12_0, F_12_1, F_12_2, F_12_3, F_12_4, F_12_5, sh_14, F_14_0, F_14_1, F_14_2, F_14_3, F_14_4, F_14_5, F_14_6, F_14_7, F_14_8, sh_21, F_21_0, F_21_1, F_21_2, F_21_3, F_21_4, F_21_5, F_21_6, F_21_7, F_21_8, sh_28, F_28_0, F_28_1, F_28_2, F_28_3, F_28_4, F_28_5, F_28_6, F_28_7, F_28_8, sh_35, F_35_0, sh_39, F_39_0, F_39_1, F_39_2, F_39_3, F_39_4, F_39_5, F_39_6, F_39_7, F_39_8, F_39_9, F_39_10, F_39_11, F_39_12, F_39_13, A_2, A_4, A_6, A_7, A_8, A_9, A_10, A_11, A_13, A_15, A_16, A_17, A_18, A_19, A_20, A_22, A_23, A_24, A_25, A_26, A_27, A_29, A_30, A_31, A_32, A_33, A_34, A_36, A_37, A_38, A_40, A_41, A_42, A_43, A_44, A_45, A_46, A_47]
  refine ⟨17, by omega, rfl, ?_⟩
  refine ⟨fun q => ?_, fun q => ?_⟩
  · rw [hu, show (0 : Int32) = nI 0 from rfl, nI_eq (by omega) (by omega)] at q
    exact h1 q
  · rw [hu, show (0 : Int32) = nI 0 from rfl, nI_eq (by omega) (by omega)] at q
    obtain ⟨v, rfl⟩ := Nat.exists_eq_succ_of_ne_zero q
    obtain ⟨k, hk, hk8, g0, g1, g2⟩ := h2 v rfl
    have hv : M.2.2 33 17 - 1 = nI v := by rw [hu]; exact pk_sub (a := v + 1) (b := 1) (by omega)
    refine ⟨17, by omega, rfl, 17, by omega, rfl, ?_⟩
    rw [hv]
    have r17 : upd (M.2.2 33) 17 (nI v) 17 = nI v := upd_s _ _ _
    have rj : ∀ j, j ≠ 17 → upd (M.2.2 33) 17 (nI v) j = M.2.2 33 j := fun j hj => upd_n _ _ hj
    have a0 : (18 : Int32) + 3 * nI v = nI (18 + 3 * v) := by rw [nI_m3]; exact nI_add 18 _
    have a1 : nI (18 + 3 * v) + 1 = nI (18 + 3 * v + 1) := nI_1 _
    have a2 : nI (18 + 3 * v) + 2 = nI (18 + 3 * v + 2) := nI_add _ 2
    refine ⟨17, by omega, rfl, 18 + 3 * v + 1, by omega, by rw [r17, a0, a1], 18 + 3 * v, by omega, by rw [r17, a0], ?_⟩
    rw [r17, rj (18 + 3 * v) (by omega), rj (18 + 3 * v + 1) (by omega), hk, a0, a2]
    refine ⟨fun q2 => ⟨0, by omega, rfl, 0, by omega, rfl, 17, by omega, rfl, ?_⟩, fun q2 => ⟨18 + 3 * v, by omega, rfl, fun q3 => ?_, fun q3 => ?_⟩⟩
    · simp only [sA_sA, sA_cm, sI_sA, sI_sI, sI_cm, sL_sA, sL_sI, sL_sL, sL_cm, Nat.reduceLT]
      rw [upd_n _ _ (show 17 ≠ 0 by omega), r17, rj 0 (by omega)]
      exact g0 q2
    · rw [rj (18 + 3 * v) (by omega)] at q3
      refine ⟨18 + 3 * v + 2, by omega, rfl, 9 + k, by omega, nI_add 9 k, 17, by omega, rfl, ?_⟩
      simp only [sA_sA, sA_cm, sI_sA, sI_sI, sI_cm, sL_sA, sL_sI, sL_sL, sL_cm, Nat.reduceLT]
      rw [upd_n _ _ (show 17 ≠ 9 + k by omega), r17, rj (18 + 3 * v + 2) (by omega)]
      exact g1 q3
    · rw [rj (18 + 3 * v) (by omega)] at q3
      refine ⟨1 + k, by omega, nI_add 1 k, 18 + 3 * v + 2, by omega, rfl, 1 + k, by omega, nI_add 1 k, 17, by omega, rfl, ?_⟩
      simp only [sA_sA, sA_cm, sI_sA, sI_sI, sI_cm, sL_sA, sL_sI, sL_sL, sL_cm, Nat.reduceLT]
      rw [upd_n _ _ (show 17 ≠ 1 + k by omega), r17, rj (18 + 3 * v + 2) (by omega), rj (1 + k) (by omega)]
      exact g2 q2 q3
theorem c_X5_moves : Ctr yX5_moves cX5_moves 4 (some .int) ({ frames := 1, cells := 0, slots := 0, locals := 24 } : Room) S_X5_moves := ctr_of (T := T_X5_moves) (by decide +kernel) (fun post C hr => t_X5_moves post C hr) v_X5_moves
theorem c_X5_cut : Ctr yX5_cut cX5_cut 3 (some .int) ({ frames := 1, cells := 0, slots := 0, locals := 24 } : Room) S_X5_cut := ctr_of (T := T_X5_cut) (by decide +kernel) (fun post C hr => t_X5_cut post C hr) v_X5_cut
theorem c_X5_forge : Ctr yX5_forge cX5_forge 3 (some .int) ({ frames := 2, cells := 0, slots := 0, locals := 43 } : Room) S_X5_forge := ctr_of (T := T_X5_forge) (by decide +kernel) (fun post C hr => t_X5_forge post C hr) v_X5_forge
theorem c_X5_undo : Ctr yX5_undo cX5_undo 3 (some .int) ({ frames := 0, cells := 0, slots := 0, locals := 0 } : Room) S_X5_undo := ctr_of (T := T_X5_undo) (by decide +kernel) (fun post C hr => t_X5_undo post C hr) v_X5_undo
def S_X5_give : SP := fun as M post => ∃ x y n c p r h lk u, as = [VR 39, VI x, VI y] ∧ MW M n c p r h lk ∧ M.2.2 33 17 = nI u ∧ u ≤ 10 ∧ (¬ ((0 ≤ x ∧ x < nI n) ∧ (y = -4 ∨ (0 ≤ y ∧ y < nI p))) → post (some (VI (-1))) M) ∧ (∀ k, x = nI k → k < n → (y = -4 ∨ (0 ≤ y ∧ y < nI p)) → (h k = -3 ∨ h k = y) → post (some (VI (-2))) M) ∧ (∀ k, x = nI k → k < n → (y = -4 ∨ (0 ≤ y ∧ y < nI p)) → ¬ (h k = -3 ∨ h k = y) → post (some (VI (h k))) (sA 33 (ac3 (upd (M.2.2 33) (9 + k) y) u 1 (nI k) (h k)) M))
def S_X5_lose : SP := fun as M post => ∃ x n c p r h lk u, as = [VR 39, VI x] ∧ MW M n c p r h lk ∧ M.2.2 33 17 = nI u ∧ u ≤ 10 ∧ (¬ (0 ≤ x ∧ x < nI n) → post (some (VI (-1))) M) ∧ (∀ k, x = nI k → k < n → h k = -3 → post (some (VI (-2))) M) ∧ (∀ k, x = nI k → k < n → ¬ h k = -3 → post (some (VI (h k))) (sA 33 (ac3 (upd (M.2.2 33) (9 + k) (-3)) u 1 (nI k) (h k)) M))
def S_X5_trace : SP := fun as M post => as = [VR 39] ∧ post (some (VL (M.2.1 1))) M
theorem cw_RX5_117 : ∀ w ∈ ([.methodLink RX5 117 yX5_isPerson, .instanceMethod yX5_isPerson, .selects yX5_isPerson.cls yX5_isPerson yX5_isPerson, .initialized yX5_isPerson.cls, .code yX5_isPerson cX5_isPerson 2 (some .boolean)] : List Cond), w ∈ tb := tb_all [776, 778, 44, 59, 779] (by decide +kernel) (by decide +kernel)
theorem cw_RX5_120 : ∀ w ∈ ([.methodLink RX5 120 yX5_moves, .instanceMethod yX5_moves, .selects yX5_moves.cls yX5_moves yX5_moves, .initialized yX5_moves.cls, .code yX5_moves cX5_moves 4 (some .int)] : List Cond), w ∈ tb := tb_all [780, 782, 45, 59, 783] (by decide +kernel) (by decide +kernel)
theorem dX5_give_0 : decode cX5_give 0 = .ok (.aload_n 0, 1) := by decide +kernel
theorem dX5_give_1 : decode cX5_give 1 = .ok (.iload_n 1, 1) := by decide +kernel
theorem dX5_give_2 : decode cX5_give 2 = .ok (.invokevirtual 98, 3) := by decide +kernel
theorem dX5_give_5 : decode cX5_give 5 = .ok (.ifCond .eq 26, 3) := by decide +kernel
theorem dX5_give_8 : decode cX5_give 8 = .ok (.iload_n 2, 1) := by decide +kernel
theorem dX5_give_9 : decode cX5_give 9 = .ok (.bipush (-4), 2) := by decide +kernel
theorem dX5_give_11 : decode cX5_give 11 = .ok (.if_icmp .eq 11, 3) := by decide +kernel
theorem dX5_give_14 : decode cX5_give 14 = .ok (.aload_n 0, 1) := by decide +kernel
theorem dX5_give_15 : decode cX5_give 15 = .ok (.iload_n 2, 1) := by decide +kernel
theorem dX5_give_16 : decode cX5_give 16 = .ok (.invokevirtual 117, 3) := by decide +kernel
theorem dX5_give_19 : decode cX5_give 19 = .ok (.ifCond .eq 12, 3) := by decide +kernel
theorem dX5_give_22 : decode cX5_give 22 = .ok (.aload_n 0, 1) := by decide +kernel
theorem dX5_give_23 : decode cX5_give 23 = .ok (.iload_n 1, 1) := by decide +kernel
theorem dX5_give_24 : decode cX5_give 24 = .ok (.iload_n 2, 1) := by decide +kernel
theorem dX5_give_25 : decode cX5_give 25 = .ok (.invokevirtual 120, 3) := by decide +kernel
theorem dX5_give_28 : decode cX5_give 28 = .ok (.goto 4, 3) := by decide +kernel
theorem dX5_give_31 : decode cX5_give 31 = .ok (.iconst (-1), 1) := by decide +kernel
theorem dX5_give_32 : decode cX5_give 32 = .ok (.ireturn, 1) := by decide +kernel
def T_X5_give (post : PO) : List (Nat × OP) := [(0, o_aload 0 1), (1, o_iload 1 2), (2, o_callV 5 S_X5_isKey 1 5), (5, o_if (fun x => x = 0) 31 8), (8, o_iload 2 9), (9, o_const (-4) 11), (11, o_icmp (fun x y => x = y) 22 14), (14, o_aload 0 15), (15, o_iload 2 16), (16, o_callV 5 S_X5_isPerson 1 19), (19, o_if (fun x => x = 0) 31 22), (22, o_aload 0 23), (23, o_iload 1 24), (24, o_iload 2 25), (25, o_callV 5 S_X5_moves 2 28), (28, o_goto 32), (31, o_const (-1) 32), (32, o_iret post)]
theorem k_X5_give_0 (post : PO) : lk (T_X5_give post) 0 = o_aload 0 1 := rfl
theorem k_X5_give_1 (post : PO) : lk (T_X5_give post) 1 = o_iload 1 2 := rfl
theorem k_X5_give_2 (post : PO) : lk (T_X5_give post) 2 = o_callV 5 S_X5_isKey 1 5 := rfl
theorem k_X5_give_5 (post : PO) : lk (T_X5_give post) 5 = o_if (fun x => x = 0) 31 8 := rfl
theorem k_X5_give_8 (post : PO) : lk (T_X5_give post) 8 = o_iload 2 9 := rfl
theorem k_X5_give_9 (post : PO) : lk (T_X5_give post) 9 = o_const (-4) 11 := rfl
theorem k_X5_give_11 (post : PO) : lk (T_X5_give post) 11 = o_icmp (fun x y => x = y) 22 14 := rfl
theorem k_X5_give_14 (post : PO) : lk (T_X5_give post) 14 = o_aload 0 15 := rfl
theorem k_X5_give_15 (post : PO) : lk (T_X5_give post) 15 = o_iload 2 16 := rfl
theorem k_X5_give_16 (post : PO) : lk (T_X5_give post) 16 = o_callV 5 S_X5_isPerson 1 19 := rfl
theorem k_X5_give_19 (post : PO) : lk (T_X5_give post) 19 = o_if (fun x => x = 0) 31 22 := rfl
theorem k_X5_give_22 (post : PO) : lk (T_X5_give post) 22 = o_aload 0 23 := rfl
theorem k_X5_give_23 (post : PO) : lk (T_X5_give post) 23 = o_iload 1 24 := rfl
theorem k_X5_give_24 (post : PO) : lk (T_X5_give post) 24 = o_iload 2 25 := rfl
theorem k_X5_give_25 (post : PO) : lk (T_X5_give post) 25 = o_callV 5 S_X5_moves 2 28 := rfl
theorem k_X5_give_28 (post : PO) : lk (T_X5_give post) 28 = o_goto 32 := rfl
theorem k_X5_give_31 (post : PO) : lk (T_X5_give post) 31 = o_const (-1) 32 := rfl
theorem k_X5_give_32 (post : PO) : lk (T_X5_give post) 32 = o_iret post := rfl
set_option maxRecDepth 100000 in
theorem t_X5_give {p : Program} {l : Launch} {e : Env} {s : State} {m : MethodId} {args : Array Value} {below : List Frame} {meth : Method} {c : Code} {D : va_G} {dA : Nat → ClassId} {ad : Nat → Nat} (post : PO) (C : CX p s m args meth c cX5_give 3 yX5_give.cls D dA ad (AA ad s.heap.size)) (hr : meth.sig.returnType = (some .int)) : SndL (WW p l e ({ frames := 2, cells := 0, slots := 0, locals := 47 } : Room) s m args below meth c 0 0 (MQ below (CQ D dA ad post (AA ad s.heap.size)) args s 0 0 (AA ad s.heap.size)) 3 D dA ad (AA ad s.heap.size)) (T_X5_give post) := by
  refine snd_c (s_aload_n C rfl dX5_give_0) ?_
  refine snd_c (s_iload_n C rfl dX5_give_1) ?_
  refine snd_c (s_callV C (ci := 5) c_X5_isKey rfl cw_RX5_98 ⟨rfl, rfl⟩ ⟨by decide +kernel, by decide +kernel, by decide +kernel⟩ ⟨by decide, by decide⟩ ⟨Nat.zero_le _, Nat.zero_le _⟩ dX5_give_2) ?_
  refine snd_c (s_if_eq C dX5_give_5 (by decide)) ?_
  refine snd_c (s_iload_n C rfl dX5_give_8) ?_
  refine snd_c (s_bipush C dX5_give_9 rfl) ?_
  refine snd_c (s_icmp_eq C dX5_give_11 (by decide)) ?_
  refine snd_c (s_aload_n C rfl dX5_give_14) ?_
  refine snd_c (s_iload_n C rfl dX5_give_15) ?_
  refine snd_c (s_callV C (ci := 5) c_X5_isPerson rfl cw_RX5_117 ⟨rfl, rfl⟩ ⟨by decide +kernel, by decide +kernel, by decide +kernel⟩ ⟨by decide, by decide⟩ ⟨Nat.zero_le _, Nat.zero_le _⟩ dX5_give_16) ?_
  refine snd_c (s_if_eq C dX5_give_19 (by decide)) ?_
  refine snd_c (s_aload_n C rfl dX5_give_22) ?_
  refine snd_c (s_iload_n C rfl dX5_give_23) ?_
  refine snd_c (s_iload_n C rfl dX5_give_24) ?_
  refine snd_c (s_callV C (ci := 5) c_X5_moves rfl cw_RX5_120 ⟨rfl, rfl⟩ ⟨by decide +kernel, by decide +kernel, by decide +kernel⟩ ⟨by decide, by decide⟩ ⟨Nat.zero_le _, Nat.zero_le _⟩ dX5_give_25) ?_
  refine snd_c (s_goto C dX5_give_28 (by decide)) ?_
  refine snd_c (s_iconst C dX5_give_31 rfl) ?_
  refine snd_c (s_iret C hr dX5_give_32) ?_
  exact trivial
theorem dX5_lose_0 : decode cX5_lose 0 = .ok (.aload_n 0, 1) := by decide +kernel
theorem dX5_lose_1 : decode cX5_lose 1 = .ok (.iload_n 1, 1) := by decide +kernel
theorem dX5_lose_2 : decode cX5_lose 2 = .ok (.invokevirtual 98, 3) := by decide +kernel
theorem dX5_lose_5 : decode cX5_lose 5 = .ok (.ifCond .eq 13, 3) := by decide +kernel
theorem dX5_lose_8 : decode cX5_lose 8 = .ok (.aload_n 0, 1) := by decide +kernel
theorem dX5_lose_9 : decode cX5_lose 9 = .ok (.iload_n 1, 1) := by decide +kernel
theorem dX5_lose_10 : decode cX5_lose 10 = .ok (.bipush (-3), 2) := by decide +kernel
theorem dX5_lose_12 : decode cX5_lose 12 = .ok (.invokevirtual 120, 3) := by decide +kernel
theorem dX5_lose_15 : decode cX5_lose 15 = .ok (.goto 4, 3) := by decide +kernel
theorem dX5_lose_18 : decode cX5_lose 18 = .ok (.iconst (-1), 1) := by decide +kernel
theorem dX5_lose_19 : decode cX5_lose 19 = .ok (.ireturn, 1) := by decide +kernel
def T_X5_lose (post : PO) : List (Nat × OP) := [(0, o_aload 0 1), (1, o_iload 1 2), (2, o_callV 5 S_X5_isKey 1 5), (5, o_if (fun x => x = 0) 18 8), (8, o_aload 0 9), (9, o_iload 1 10), (10, o_const (-3) 12), (12, o_callV 5 S_X5_moves 2 15), (15, o_goto 19), (18, o_const (-1) 19), (19, o_iret post)]
theorem k_X5_lose_0 (post : PO) : lk (T_X5_lose post) 0 = o_aload 0 1 := rfl
theorem k_X5_lose_1 (post : PO) : lk (T_X5_lose post) 1 = o_iload 1 2 := rfl
theorem k_X5_lose_2 (post : PO) : lk (T_X5_lose post) 2 = o_callV 5 S_X5_isKey 1 5 := rfl
theorem k_X5_lose_5 (post : PO) : lk (T_X5_lose post) 5 = o_if (fun x => x = 0) 18 8 := rfl
theorem k_X5_lose_8 (post : PO) : lk (T_X5_lose post) 8 = o_aload 0 9 := rfl
theorem k_X5_lose_9 (post : PO) : lk (T_X5_lose post) 9 = o_iload 1 10 := rfl
theorem k_X5_lose_10 (post : PO) : lk (T_X5_lose post) 10 = o_const (-3) 12 := rfl
theorem k_X5_lose_12 (post : PO) : lk (T_X5_lose post) 12 = o_callV 5 S_X5_moves 2 15 := rfl
theorem k_X5_lose_15 (post : PO) : lk (T_X5_lose post) 15 = o_goto 19 := rfl
theorem k_X5_lose_18 (post : PO) : lk (T_X5_lose post) 18 = o_const (-1) 19 := rfl
theorem k_X5_lose_19 (post : PO) : lk (T_X5_lose post) 19 = o_iret post := rfl
set_option maxRecDepth 100000 in
theorem t_X5_lose {p : Program} {l : Launch} {e : Env} {s : State} {m : MethodId} {args : Array Value} {below : List Frame} {meth : Method} {c : Code} {D : va_G} {dA : Nat → ClassId} {ad : Nat → Nat} (post : PO) (C : CX p s m args meth c cX5_lose 2 yX5_lose.cls D dA ad (AA ad s.heap.size)) (hr : meth.sig.returnType = (some .int)) : SndL (WW p l e ({ frames := 2, cells := 0, slots := 0, locals := 47 } : Room) s m args below meth c 0 0 (MQ below (CQ D dA ad post (AA ad s.heap.size)) args s 0 0 (AA ad s.heap.size)) 2 D dA ad (AA ad s.heap.size)) (T_X5_lose post) := by
  refine snd_c (s_aload_n C rfl dX5_lose_0) ?_
  refine snd_c (s_iload_n C rfl dX5_lose_1) ?_
  refine snd_c (s_callV C (ci := 5) c_X5_isKey rfl cw_RX5_98 ⟨rfl, rfl⟩ ⟨by decide +kernel, by decide +kernel, by decide +kernel⟩ ⟨by decide, by decide⟩ ⟨Nat.zero_le _, Nat.zero_le _⟩ dX5_lose_2) ?_
  refine snd_c (s_if_eq C dX5_lose_5 (by decide)) ?_
  refine snd_c (s_aload_n C rfl dX5_lose_8) ?_
  refine snd_c (s_iload_n C rfl dX5_lose_9) ?_
  refine snd_c (s_bipush C dX5_lose_10 rfl) ?_
  refine snd_c (s_callV C (ci := 5) c_X5_moves rfl cw_RX5_120 ⟨rfl, rfl⟩ ⟨by decide +kernel, by decide +kernel, by decide +kernel⟩ ⟨by decide, by decide⟩ ⟨Nat.zero_le _, Nat.zero_le _⟩ dX5_lose_12) ?_
  refine snd_c (s_goto C dX5_lose_15 (by decide)) ?_
  refine snd_c (s_iconst C dX5_lose_18 rfl) ?_
  refine snd_c (s_iret C hr dX5_lose_19) ?_
  exact trivial
theorem fl_RX5_151 : Cond.fieldLink RX5 151 (TX5 0).1 (TX5 0).2.1 (TX5 0).2.2.1 ∈ tb := tb_of 633 (by decide +kernel) (by decide +kernel)
theorem dX5_trace_0 : decode cX5_trace 0 = .ok (.aload_n 0, 1) := by decide +kernel
theorem dX5_trace_1 : decode cX5_trace 1 = .ok (.getfield 151, 3) := by decide +kernel
theorem dX5_trace_4 : decode cX5_trace 4 = .ok (.lreturn, 1) := by decide +kernel
def T_X5_trace (post : PO) : List (Nat × OP) := [(0, o_aload 0 1), (1, o_getf 5 0 4), (4, o_lret post)]
theorem k_X5_trace_0 (post : PO) : lk (T_X5_trace post) 0 = o_aload 0 1 := rfl
theorem k_X5_trace_1 (post : PO) : lk (T_X5_trace post) 1 = o_getf 5 0 4 := rfl
theorem k_X5_trace_4 (post : PO) : lk (T_X5_trace post) 4 = o_lret post := rfl
set_option maxRecDepth 100000 in
theorem t_X5_trace {p : Program} {l : Launch} {e : Env} {s : State} {m : MethodId} {args : Array Value} {below : List Frame} {meth : Method} {c : Code} {D : va_G} {dA : Nat → ClassId} {ad : Nat → Nat} (post : PO) (C : CX p s m args meth c cX5_trace 1 yX5_trace.cls D dA ad (AA ad s.heap.size)) (hr : meth.sig.returnType = (some .long)) : SndL (WW p l e ({ frames := 0, cells := 0, slots := 0, locals := 0 } : Room) s m args below meth c 0 0 (MQ below (CQ D dA ad post (AA ad s.heap.size)) args s 0 0 (AA ad s.heap.size)) 1 D dA ad (AA ad s.heap.size)) (T_X5_trace post) := by
  refine snd_c (s_aload_n C rfl dX5_trace_0) ?_
  refine snd_c (s_getf C (ci := 5) (j := 0) (T := TX5) rfl inX5 (by decide) fl_RX5_151 dX5_trace_1) ?_
  refine snd_c (s_lret C hr dX5_trace_4) ?_
  exact trivial
set_option maxRecDepth 100000 in
theorem v_X5_trace : ∀ as M post, S_X5_trace as M post → wsum as ≤ 1 ∧ RUN (T_X5_trace post) 0 (entL 1 as) [] M := by
  rintro as M post ⟨rfl, h⟩
  refine ⟨by show 1 ≤ 1; omega, run_wp 40 ?_⟩
  dsimp only [k_X5_trace_0, k_X5_trace_1, k_X5_trace_4, wp1, wp_s, cutIn, kont, Nat.reduceSub, Nat.reduceAdd, nth, o_const, o_lconst, o_ref, o_iload, o_lload, o_aload, o_istore, o_lstore, o_astore, o_iinc, o_bin, o_div, o_un, o_lbin, o_lsh, o_lcmp, o_i2l, o_l2i, o_if, o_icmp, o_goto, o_dup, o_dup2, o_pop, fav, o_getf, o_putI, o_putZ, o_putL, o_ald, o_ast, o_alen, popn, rst, o_callV, o_callT, o_callS, swx, o_sw, o_ret, o_iret, o_zret, o_cret, o_lret, o_aret, lg, lput, lput2, ls1, isL, entL, wsum, rdI1, rdI2, rdA1, rdA21, rdA22, rdL1, rdL22, rdL21, upN_at, rep, sh_0, F_0_0, F_0_1, F_0_2, F_0_3, F_0_4, F_0_5, F_0_6, F_0_7, F_0_8, sh_1, F_1_0, F_1_1, F_1_2, F_1_3, F_1_4, F_1_5, sh_3, F_3_0, F_3_1, F_3_2, F_3_3, F_3_4, F_3_5, sh_5, F_5_0, F_5_1, F_5_2, F_5_3, F_5_4, F_5_5, F_5_6, F_5_7, F_5_8, sh_12, F_12_0, F_12_1, F_12_2, F_12_3, F_12_4, F_12_5, sh_14, F_14_0, F_14_1, F_14_2, F_14_3, F_14_4, F_14_5, F_14_6, F_14_7, F_14_8, sh_21, F_21_0, F_21_1, F_21_2, F_21_3, F_21_4, F_21_5, F_21_6, F_21_7, F_21_8, sh_28, F_28_0, F_28_1, F_28_2, F_28_3, F_28_4, F_28_5, F_28_6, F_28_7, F_28_8, sh_35, F_35_0, sh_39, F_39_0, F_39_1, F_39_2, F_39_3, F_39_4, F_39_5, F_39_6, F_39_7, F_39_8, F_39_9, F_39_10, F_39_11, F_39_12, F_39_13, A_2, A_4, A_6, A_7, A_8, A_9, A_10, A_11, A_13, A_15, A_16, A_17, A_18, A_19, A_20, A_22, A_23, A_24, A_25, A_26, A_27, A_29, A_30, A_31, A_32, A_33, A_34, A_36, A_37, A_38, A_40, A_41, A_42, A_43, A_44, A_45, A_46, A_47]
  exact h
set_option maxRecDepth 100000 in
theorem v_X5_lose : ∀ as M post, S_X5_lose as M post → wsum as ≤ 2 ∧ RUN (T_X5_lose post) 0 (entL 2 as) [] M := by
  rintro as M post ⟨x, n, c, p, r, h0, lk, u, rfl, hX, hu, hu10, h1, h2, h3⟩
  have hX0 := hX
  obtain ⟨hn, hn8, hc, hc6, hp, hp4, hr, hhk, hl⟩ := hX
  refine ⟨by show 2 ≤ 2; omega, run_wp 60 ?_⟩
  dsimp only [k_X5_lose_0, k_X5_lose_1, k_X5_lose_2, k_X5_lose_5, k_X5_lose_8, k_X5_lose_9, k_X5_lose_10, k_X5_lose_12, k_X5_lose_15, k_X5_lose_18, k_X5_lose_19, wp1, wp_s, cutIn, kont, Nat.reduceSub, Nat.reduceAdd, nth, o_const, o_lconst, o_ref, o_iload, o_lload, o_aload, o_istore, o_lstore, o_astore, o_iinc, o_bin, o_div, o_un, o_lbin, o_lsh, o_lcmp, o_i2l, o_l2i, o_if, o_icmp, o_goto, o_dup, o_dup2, o_pop, fav, o_getf, o_putI, o_putZ, o_putL, o_ald, o_ast, o_alen, popn, rst, o_callV, o_callT, o_callS, swx, o_sw, o_ret, o_iret, o_zret, o_cret, o_lret, o_aret, lg, lput, lput2, ls1, isL, entL, wsum, rdI1, rdI2, rdA1, rdA21, rdA22, rdL1, rdL22, rdL21, upN_at, rep, sh_0, F_0_0, F_0_1, F_0_2, F_0_3, F_0_4, F_0_5, F_0_6, F_0_7, F_0_8, sh_1, F_1_0, F_1_1, F_1_2, F_1_3, F_1_4, F_1_5, sh_3, F_3_0, F_3_1, F_3_2, F_3_3, F_3_4, F_3_5, sh_5, F_5_0, F_5_1, F_5_2, F_5_3, F_5_4, F_5_5, F_5_6, F_5_7, F_5_8, sh_12, F_12_0, F_12_1, F_12_2, F_12_3, F_12_4, F_12_5, sh_14, F_14_0, F_14_1, F_14_2, F_14_3, F_14_4, F_14_5, F_14_6, F_14_7, F_14_8, sh_21, F_21_0, F_21_1, F_21_2, F_21_3, F_21_4, F_21_5, F_21_6, F_21_7, F_21_8, sh_28, F_28_0, F_28_1, F_28_2, F_28_3, F_28_4, F_28_5, F_28_6, F_28_7, F_28_8, sh_35, F_35_0, sh_39, F_39_0, F_39_1, F_39_2, F_39_3, F_39_4, F_39_5, F_39_6, F_39_7, F_39_8, F_39_9, F_39_10, F_39_11, F_39_12, F_39_13, A_2, A_4, A_6, A_7, A_8, A_9, A_10, A_11, A_13, A_15, A_16, A_17, A_18, A_19, A_20, A_22, A_23, A_24, A_25, A_26, A_27, A_29, A_30, A_31, A_32, A_33, A_34, A_36, A_37, A_38, A_40, A_41, A_42, A_43, A_44, A_45, A_46, A_47]
  refine ⟨x, n, c, p, r, h0, lk, rfl, hX0, fun w1 => ?_, fun w1 => ?_⟩
  · obtain ⟨k, rfl, hk⟩ := rg (by omega) w1
    dsimp only [k_X5_lose_0, k_X5_lose_1, k_X5_lose_2, k_X5_lose_5, k_X5_lose_8, k_X5_lose_9, k_X5_lose_10, k_X5_lose_12, k_X5_lose_15, k_X5_lose_18, k_X5_lose_19, wp1, wp_s, cutIn, kont, Nat.reduceSub, Nat.reduceAdd, nth, o_const, o_lconst, o_ref, o_iload, o_lload, o_aload, o_istore, o_lstore, o_astore, o_iinc, o_bin, o_div, o_un, o_lbin, o_lsh, o_lcmp, o_i2l, o_l2i, o_if, o_icmp, o_goto, o_dup, o_dup2, o_pop, fav, o_getf, o_putI, o_putZ, o_putL, o_ald, o_ast, o_alen, popn, rst, o_callV, o_callT, o_callS, swx, o_sw, o_ret, o_iret, o_zret, o_cret, o_lret, o_aret, lg, lput, lput2, ls1, isL, entL, wsum, rdI1, rdI2, rdA1, rdA21, rdA22, rdL1, rdL22, rdL21, upN_at, rep, sh_0, F_0_0, F_0_1, F_0_2, F_0_3, F_0_4, F_0_5, F_0_6, F_0_7, F_0_8, sh_1, F_1_0, F_1_1, F_1_2, F_1_3, F_1_4, F_1_5, sh_3, F_3_0, F_3_1, F_3_2, F_3_3, F_3_4, F_3_5, sh_5, F_5_0, F_5_1, F_5_2, F_5_3, F_5_4, F_5_5, F_5_6, F_5_7, F_5_8, sh_12, F_12_0, F_12_1, F_12_2, F_12_3, F_12_4, F_12_5, sh_14, F_14_0, F_14_1, F_14_2, F_14_3, F_14_4, F_14_5, F_14_6, F_14_7, F_14_8, sh_21, F_21_0, F_21_1, F_21_2, F_21_3, F_21_4, F_21_5, F_21_6, F_21_7, F_21_8, sh_28, F_28_0, F_28_1, F_28_2, F_28_3, F_28_4, F_28_5, F_28_6, F_28_7, F_28_8, sh_35, F_35_0, sh_39, F_39_0, F_39_1, F_39_2, F_39_3, F_39_4, F_39_5, F_39_6, F_39_7, F_39_8, F_39_9, F_39_10, F_39_11, F_39_12, F_39_13, A_2, A_4, A_6, A_7, A_8, A_9, A_10, A_11, A_13, A_15, A_16, A_17, A_18, A_19, A_20, A_22, A_23, A_24, A_25, A_26, A_27, A_29, A_30, A_31, A_32, A_33, A_34, A_36, A_37, A_38, A_40, A_41, A_42, A_43, A_44, A_45, A_46, A_47]
    refine ⟨fun q => absurd q (by decide), fun _ => ⟨k, -3, u, rfl, by omega, hu, hu10, fun q => ?_, fun q => ?_⟩⟩
    · rw [hhk k hk] at q
      dsimp only [k_X5_lose_0, k_X5_lose_1, k_X5_lose_2, k_X5_lose_5, k_X5_lose_8, k_X5_lose_9, k_X5_lose_10, k_X5_lose_12, k_X5_lose_15, k_X5_lose_18, k_X5_lose_19, wp1, wp_s, cutIn, kont, Nat.reduceSub, Nat.reduceAdd, nth, o_const, o_lconst, o_ref, o_iload, o_lload, o_aload, o_istore, o_lstore, o_astore, o_iinc, o_bin, o_div, o_un, o_lbin, o_lsh, o_lcmp, o_i2l, o_l2i, o_if, o_icmp, o_goto, o_dup, o_dup2, o_pop, fav, o_getf, o_putI, o_putZ, o_putL, o_ald, o_ast, o_alen, popn, rst, o_callV, o_callT, o_callS, swx, o_sw, o_ret, o_iret, o_zret, o_cret, o_lret, o_aret, lg, lput, lput2, ls1, isL, entL, wsum, rdI1, rdI2, rdA1, rdA21, rdA22, rdL1, rdL22, rdL21, upN_at, rep, sh_0, F_0_0, F_0_1, F_0_2, F_0_3, F_0_4, F_0_5, F_0_6, F_0_7, F_0_8, sh_1, F_1_0, F_1_1, F_1_2, F_1_3, F_1_4, F_1_5, sh_3, F_3_0, F_3_1, F_3_2, F_3_3, F_3_4, F_3_5, sh_5, F_5_0, F_5_1, F_5_2, F_5_3, F_5_4, F_5_5, F_5_6, F_5_7, F_5_8, sh_12, F_12_0, F_12_1, F_12_2, F_12_3, F_12_4, F_12_5, sh_14, F_14_0, F_14_1, F_14_2, F_14_3, F_14_4, F_14_5, F_14_6, F_14_7, F_14_8, sh_21, F_21_0, F_21_1, F_21_2, F_21_3, F_21_4, F_21_5, F_21_6, F_21_7, F_21_8, sh_28, F_28_0, F_28_1, F_28_2, F_28_3, F_28_4, F_28_5, F_28_6, F_28_7, F_28_8, sh_35, F_35_0, sh_39, F_39_0, F_39_1, F_39_2, F_39_3, F_39_4, F_39_5, F_39_6, F_39_7, F_39_8, F_39_9, F_39_10, F_39_11, F_39_12, F_39_13, A_2, A_4, A_6, A_7, A_8, A_9, A_10, A_11, A_13, A_15, A_16, A_17, A_18, A_19, A_20, A_22, A_23, A_24, A_25, A_26, A_27, A_29, A_30, A_31, A_32, A_33, A_34, A_36, A_37, A_38, A_40, A_41, A_42, A_43, A_44, A_45, A_46, A_47]
      exact h2 k rfl hk (q.elim id id)
    · rw [hhk k hk] at q ⊢
      dsimp only [k_X5_lose_0, k_X5_lose_1, k_X5_lose_2, k_X5_lose_5, k_X5_lose_8, k_X5_lose_9, k_X5_lose_10, k_X5_lose_12, k_X5_lose_15, k_X5_lose_18, k_X5_lose_19, wp1, wp_s, cutIn, kont, Nat.reduceSub, Nat.reduceAdd, nth, o_const, o_lconst, o_ref, o_iload, o_lload, o_aload, o_istore, o_lstore, o_astore, o_iinc, o_bin, o_div, o_un, o_lbin, o_lsh, o_lcmp, o_i2l, o_l2i, o_if, o_icmp, o_goto, o_dup, o_dup2, o_pop, fav, o_getf, o_putI, o_putZ, o_putL, o_ald, o_ast, o_alen, popn, rst, o_callV, o_callT, o_callS, swx, o_sw, o_ret, o_iret, o_zret, o_cret, o_lret, o_aret, lg, lput, lput2, ls1, isL, entL, wsum, rdI1, rdI2, rdA1, rdA21, rdA22, rdL1, rdL22, rdL21, upN_at, rep, sh_0, F_0_0, F_0_1, F_0_2, F_0_3, F_0_4, F_0_5, F_0_6, F_0_7, F_0_8, sh_1, F_1_0, F_1_1, F_1_2, F_1_3, F_1_4, F_1_5, sh_3, F_3_0, F_3_1, F_3_2, F_3_3, F_3_4, F_3_5, sh_5, F_5_0, F_5_1, F_5_2, F_5_3, F_5_4, F_5_5, F_5_6, F_5_7, F_5_8, sh_12, F_12_0, F_12_1, F_12_2, F_12_3, F_12_4, F_12_5, sh_14, F_14_0, F_14_1, F_14_2, F_14_3, F_14_4, F_14_5, F_14_6, F_14_7, F_14_8, sh_21, F_21_0, F_21_1, F_21_2, F_21_3, F_21_4, F_21_5, F_21_6, F_21_7, F_21_8, sh_28, F_28_0, F_28_1, F_28_2, F_28_3, F_28_4, F_28_5, F_28_6, F_28_7, F_28_8, sh_35, F_35_0, sh_39, F_39_0, F_39_1, F_39_2, F_39_3, F_39_4, F_39_5, F_39_6, F_39_7, F_39_8, F_39_9, F_39_10, F_39_11, F_39_12, F_39_13, A_2, A_4, A_6, A_7, A_8, A_9, A_10, A_11, A_13, A_15, A_16, A_17, A_18, A_19, A_20, A_22, A_23, A_24, A_25, A_26, A_27, A_29, A_30, A_31, A_32, A_33, A_34, A_36, A_37, A_38, A_40, A_41, A_42, A_43, A_44, A_45, A_46, A_47]
      exact h3 k rfl hk fun e => q (Or.inl e)
  · dsimp only [k_X5_lose_0, k_X5_lose_1, k_X5_lose_2, k_X5_lose_5, k_X5_lose_8, k_X5_lose_9, k_X5_lose_10, k_X5_lose_12, k_X5_lose_15, k_X5_lose_18, k_X5_lose_19, wp1, wp_s, cutIn, kont, Nat.reduceSub, Nat.reduceAdd, nth, o_const, o_lconst, o_ref, o_iload, o_lload, o_aload, o_istore, o_lstore, o_astore, o_iinc, o_bin, o_div, o_un, o_lbin, o_lsh, o_lcmp, o_i2l, o_l2i, o_if, o_icmp, o_goto, o_dup, o_dup2, o_pop, fav, o_getf, o_putI, o_putZ, o_putL, o_ald, o_ast, o_alen, popn, rst, o_callV, o_callT, o_callS, swx, o_sw, o_ret, o_iret, o_zret, o_cret, o_lret, o_aret, lg, lput, lput2, ls1, isL, entL, wsum, rdI1, rdI2, rdA1, rdA21, rdA22, rdL1, rdL22, rdL21, upN_at, rep, sh_0, F_0_0, F_0_1, F_0_2, F_0_3, F_0_4, F_0_5, F_0_6, F_0_7, F_0_8, sh_1, F_1_0, F_1_1, F_1_2, F_1_3, F_1_4, F_1_5, sh_3, F_3_0, F_3_1, F_3_2, F_3_3, F_3_4, F_3_5, sh_5, F_5_0, F_5_1, F_5_2, F_5_3, F_5_4, F_5_5, F_5_6, F_5_7, F_5_8, sh_12, F_12_0, F_12_1, F_12_2, F_12_3, F_12_4, F_12_5, sh_14, F_14_0, F_14_1, F_14_2, F_14_3, F_14_4, F_14_5, F_14_6, F_14_7, F_14_8, sh_21, F_21_0, F_21_1, F_21_2, F_21_3, F_21_4, F_21_5, F_21_6, F_21_7, F_21_8, sh_28, F_28_0, F_28_1, F_28_2, F_28_3, F_28_4, F_28_5, F_28_6, F_28_7, F_28_8, sh_35, F_35_0, sh_39, F_39_0, F_39_1, F_39_2, F_39_3, F_39_4, F_39_5, F_39_6, F_39_7, F_39_8, F_39_9, F_39_10, F_39_11, F_39_12, F_39_13, A_2, A_4, A_6, A_7, A_8, A_9, A_10, A_11, A_13, A_15, A_16, A_17, A_18, A_19, A_20, A_22, A_23, A_24, A_25, A_26, A_27, A_29, A_30, A_31, A_32, A_33, A_34, A_36, A_37, A_38, A_40, A_41, A_42, A_43, A_44, A_45, A_46, A_47]
    exact ⟨fun _ => h1 w1, fun q => absurd rfl q⟩
set_option maxRecDepth 100000 in
theorem v_X5_give : ∀ as M post, S_X5_give as M post → wsum as ≤ 3 ∧ RUN (T_X5_give post) 0 (entL 3 as) [] M := by
  rintro as M post ⟨x, y, n, c, p, r, h0, lk, u, rfl, hX, hu, hu10, h1, h2, h3⟩
  have hX0 := hX
  obtain ⟨hn, hn8, hc, hc6, hp, hp4, hr, hhk, hl⟩ := hX
  refine ⟨by show 3 ≤ 3; omega, run_wp 60 ?_⟩
  dsimp only [k_X5_give_0, k_X5_give_1, k_X5_give_2, k_X5_give_5, k_X5_give_8, k_X5_give_9, k_X5_give_11, k_X5_give_14, k_X5_give_15, k_X5_give_16, k_X5_give_19, k_X5_give_22, k_X5_give_23, k_X5_give_24, k_X5_give_25, k_X5_give_28, k_X5_give_31, k_X5_give_32, wp1, wp_s, cutIn, kont, Nat.reduceSub, Nat.reduceAdd, nth, o_const, o_lconst, o_ref, o_iload, o_lload, o_aload, o_istore, o_lstore, o_astore, o_iinc, o_bin, o_div, o_un, o_lbin, o_lsh, o_lcmp, o_i2l, o_l2i, o_if, o_icmp, o_goto, o_dup, o_dup2, o_pop, fav, o_getf, o_putI, o_putZ, o_putL, o_ald, o_ast, o_alen, popn, rst, o_callV, o_callT, o_callS, swx, o_sw, o_ret, o_iret, o_zret, o_cret, o_lret, o_aret, lg, lput, lput2, ls1, isL, entL, wsum, rdI1, rdI2, rdA1, rdA21, rdA22, rdL1, rdL22, rdL21, upN_at, rep, sh_0, F_0_0, F_0_1, F_0_2, F_0_3, F_0_4, F_0_5, F_0_6, F_0_7, F_0_8, sh_1, F_1_0, F_1_1, F_1_2, F_1_3, F_1_4, F_1_5, sh_3, F_3_0, F_3_1, F_3_2, F_3_3, F_3_4, F_3_5, sh_5, F_5_0, F_5_1, F_5_2, F_5_3, F_5_4, F_5_5, F_5_6, F_5_7, F_5_8, sh_12, F_12_0, F_12_1, F_12_2, F_12_3, F_12_4, F_12_5, sh_14, F_14_0, F_14_1, F_14_2, F_14_3, F_14_4, F_14_5, F_14_6, F_14_7, F_14_8, sh_21, F_21_0, F_21_1, F_21_2, F_21_3, F_21_4, F_21_5, F_21_6, F_21_7, F_21_8, sh_28, F_28_0, F_28_1, F_28_2, F_28_3, F_28_4, F_28_5, F_28_6, F_28_7, F_28_8, sh_35, F_35_0, sh_39, F_39_0, F_39_1, F_39_2, F_39_3, F_39_4, F_39_5, F_39_6, F_39_7, F_39_8, F_39_9, F_39_10, F_39_11, F_39_12, F_39_13, A_2, A_4, A_6, A_7, A_8, A_9, A_10, A_11, A_13, A_15, A_16, A_17, A_18, A_19, A_20, A_22, A_23, A_24, A_25, A_26, A_27, A_29, A_30, A_31, A_32, A_33, A_34, A_36, A_37, A_38, A_40, A_41, A_42, A_43, A_44, A_45, A_46, A_47]
  refine ⟨x, n, c, p, r, h0, lk, rfl, hX0, fun w1 => ?_, fun w1 => ?_⟩
  · obtain ⟨k, rfl, hk⟩ := rg (by omega) w1
    have go : (y = -4 ∨ (0 ≤ y ∧ y < nI p)) → ((h0 k = -3 ∨ h0 k = y) → post (some (VI (-2))) M) ∧ (¬ (h0 k = -3 ∨ h0 k = y) → post (some (VI (h0 k))) (sA 33 (ac3 (upd (M.2.2 33) (9 + k) y) u 1 (nI k) (h0 k)) M)) := fun w2 => ⟨fun q => h2 k rfl hk w2 q, fun q => h3 k rfl hk w2 q⟩
    dsimp only [k_X5_give_0, k_X5_give_1, k_X5_give_2, k_X5_give_5, k_X5_give_8, k_X5_give_9, k_X5_give_11, k_X5_give_14, k_X5_give_15, k_X5_give_16, k_X5_give_19, k_X5_give_22, k_X5_give_23, k_X5_give_24, k_X5_give_25, k_X5_give_28, k_X5_give_31, k_X5_give_32, wp1, wp_s, cutIn, kont, Nat.reduceSub, Nat.reduceAdd, nth, o_const, o_lconst, o_ref, o_iload, o_lload, o_aload, o_istore, o_lstore, o_astore, o_iinc, o_bin, o_div, o_un, o_lbin, o_lsh, o_lcmp, o_i2l, o_l2i, o_if, o_icmp, o_goto, o_dup, o_dup2, o_pop, fav, o_getf, o_putI, o_putZ, o_putL, o_ald, o_ast, o_alen, popn, rst, o_callV, o_callT, o_callS, swx, o_sw, o_ret, o_iret, o_zret, o_cret, o_lret, o_aret, lg, lput, lput2, ls1, isL, entL, wsum, rdI1, rdI2, rdA1, rdA21, rdA22, rdL1, rdL22, rdL21, upN_at, rep, sh_0, F_0_0, F_0_1, F_0_2, F_0_3, F_0_4, F_0_5, F_0_6, F_0_7, F_0_8, sh_1, F_1_0, F_1_1, F_1_2, F_1_3, F_1_4, F_1_5, sh_3, F_3_0, F_3_1, F_3_2, F_3_3, F_3_4, F_3_5, sh_5, F_5_0, F_5_1, F_5_2, F_5_3, F_5_4, F_5_5, F_5_6, F_5_7, F_5_8, sh_12, F_12_0, F_12_1, F_12_2, F_12_3, F_12_4, F_12_5, sh_14, F_14_0, F_14_1, F_14_2, F_14_3, F_14_4, F_14_5, F_14_6, F_14_7, F_14_8, sh_21, F_21_0, F_21_1, F_21_2, F_21_3, F_21_4, F_21_5, F_21_6, F_21_7, F_21_8, sh_28, F_28_0, F_28_1, F_28_2, F_28_3, F_28_4, F_28_5, F_28_6, F_28_7, F_28_8, sh_35, F_35_0, sh_39, F_39_0, F_39_1, F_39_2, F_39_3, F_39_4, F_39_5, F_39_6, F_39_7, F_39_8, F_39_9, F_39_10, F_39_11, F_39_12, F_39_13, A_2, A_4, A_6, A_7, A_8, A_9, A_10, A_11, A_13, A_15, A_16, A_17, A_18, A_19, A_20, A_22, A_23, A_24, A_25, A_26, A_27, A_29, A_30, A_31, A_32, A_33, A_34, A_36, A_37, A_38, A_40, A_41, A_42, A_43, A_44, A_45, A_46, A_47]
    refine ⟨fun q => absurd q (by decide), fun _ => ⟨fun w2 => ?_, fun w2 => ?_⟩⟩
    · obtain ⟨go1, go2⟩ := go (Or.inl w2)
      refine ⟨k, y, u, rfl, by omega, hu, hu10, fun q => ?_, fun q => ?_⟩
      · rw [hhk k hk] at q
        dsimp only [k_X5_give_0, k_X5_give_1, k_X5_give_2, k_X5_give_5, k_X5_give_8, k_X5_give_9, k_X5_give_11, k_X5_give_14, k_X5_give_15, k_X5_give_16, k_X5_give_19, k_X5_give_22, k_X5_give_23, k_X5_give_24, k_X5_give_25, k_X5_give_28, k_X5_give_31, k_X5_give_32, wp1, wp_s, cutIn, kont, Nat.reduceSub, Nat.reduceAdd, nth, o_const, o_lconst, o_ref, o_iload, o_lload, o_aload, o_istore, o_lstore, o_astore, o_iinc, o_bin, o_div, o_un, o_lbin, o_lsh, o_lcmp, o_i2l, o_l2i, o_if, o_icmp, o_goto, o_dup, o_dup2, o_pop, fav, o_getf, o_putI, o_putZ, o_putL, o_ald, o_ast, o_alen, popn, rst, o_callV, o_callT, o_callS, swx, o_sw, o_ret, o_iret, o_zret, o_cret, o_lret, o_aret, lg, lput, lput2, ls1, isL, entL, wsum, rdI1, rdI2, rdA1, rdA21, rdA22, rdL1, rdL22, rdL21, upN_at, rep, sh_0, F_0_0, F_0_1, F_0_2, F_0_3, F_0_4, F_0_5, F_0_6, F_0_7, F_0_8, sh_1, F_1_0, F_1_1, F_1_2, F_1_3, F_1_4, F_1_5, sh_3, F_3_0, F_3_1, F_3_2, F_3_3, F_3_4, F_3_5, sh_5, F_5_0, F_5_1, F_5_2, F_5_3, F_5_4, F_5_5, F_5_6, F_5_7, F_5_8, sh_12, F_12_0, F_12_1, F_12_2, F_12_3, F_12_4, F_12_5, sh_14, F_14_0, F_14_1, F_14_2, F_14_3, F_14_4, F_14_5, F_14_6, F_14_7, F_14_8, sh_21, F_21_0, F_21_1, F_21_2, F_21_3, F_21_4, F_21_5, F_21_6, F_21_7, F_21_8, sh_28, F_28_0, F_28_1, F_28_2, F_28_3, F_28_4, F_28_5, F_28_6, F_28_7, F_28_8, sh_35, F_35_0, sh_39, F_39_0, F_39_1, F_39_2, F_39_3, F_39_4, F_39_5, F_39_6, F_39_7, F_39_8, F_39_9, F_39_10, F_39_11, F_39_12, F_39_13, A_2, A_4, A_6, A_7, A_8, A_9, A_10, A_11, A_13, A_15, A_16, A_17, A_18, A_19, A_20, A_22, A_23, A_24, A_25, A_26, A_27, A_29, A_30, A_31, A_32, A_33, A_34, A_36, A_37, A_38, A_40, A_41, A_42, A_43, A_44, A_45, A_46, A_47]
        exact go1 q
      · rw [hhk k hk] at q ⊢
        dsimp only [k_X5_give_0, k_X5_give_1, k_X5_give_2, k_X5_give_5, k_X5_give_8, k_X5_give_9, k_X5_give_11, k_X5_give_14, k_X5_give_15, k_X5_give_16, k_X5_give_19, k_X5_give_22, k_X5_give_23, k_X5_give_24, k_X5_give_25, k_X5_give_28, k_X5_give_31, k_X5_give_32, wp1, wp_s, cutIn, kont, Nat.reduceSub, Nat.reduceAdd, nth, o_const, o_lconst, o_ref, o_iload, o_lload, o_aload, o_istore, o_lstore, o_astore, o_iinc, o_bin, o_div, o_un, o_lbin, o_lsh, o_lcmp, o_i2l, o_l2i, o_if, o_icmp, o_goto, o_dup, o_dup2, o_pop, fav, o_getf, o_putI, o_putZ, o_putL, o_ald, o_ast, o_alen, popn, rst, o_callV, o_callT, o_callS, swx, o_sw, o_ret, o_iret, o_zret, o_cret, o_lret, o_aret, lg, lput, lput2, ls1, isL, entL, wsum, rdI1, rdI2, rdA1, rdA21, rdA22, rdL1, rdL22, rdL21, upN_at, rep, sh_0, F_0_0, F_0_1, F_0_2, F_0_3, F_0_4, F_0_5, F_0_6, F_0_7, F_0_8, sh_1, F_1_0, F_1_1, F_1_2, F_1_3, F_1_4, F_1_5, sh_3, F_3_0, F_3_1, F_3_2, F_3_3, F_3_4, F_3_5, sh_5, F_5_0, F_5_1, F_5_2, F_5_3, F_5_4, F_5_5, F_5_6, F_5_7, F_5_8, sh_12, F_12_0, F_12_1, F_12_2, F_12_3, F_12_4, F_12_5, sh_14, F_14_0, F_14_1, F_14_2, F_14_3, F_14_4, F_14_5, F_14_6, F_14_7, F_14_8, sh_21, F_21_0, F_21_1, F_21_2, F_21_3, F_21_4, F_21_5, F_21_6, F_21_7, F_21_8, sh_28, F_28_0, F_28_1, F_28_2, F_28_3, F_28_4, F_28_5, F_28_6, F_28_7, F_28_8, sh_35, F_35_0, sh_39, F_39_0, F_39_1, F_39_2, F_39_3, F_39_4, F_39_5, F_39_6, F_39_7, F_39_8, F_39_9, F_39_10, F_39_11, F_39_12, F_39_13, A_2, A_4, A_6, A_7, A_8, A_9, A_10, A_11, A_13, A_15, A_16, A_17, A_18, A_19, A_20, A_22, A_23, A_24, A_25, A_26, A_27, A_29, A_30, A_31, A_32, A_33, A_34, A_36, A_37, A_38, A_40, A_41, A_42, A_43, A_44, A_45, A_46, A_47]
        exact go2 q
    · refine ⟨y, n, c, p, r, h0, lk, rfl, hX0, fun w3 => ?_, fun w3 => ?_⟩
      · obtain ⟨go1, go2⟩ := go (Or.inr w3)
        dsimp only [k_X5_give_0, k_X5_give_1, k_X5_give_2, k_X5_give_5, k_X5_give_8, k_X5_give_9, k_X5_give_11, k_X5_give_14, k_X5_give_15, k_X5_give_16, k_X5_give_19, k_X5_give_22, k_X5_give_23, k_X5_give_24, k_X5_give_25, k_X5_give_28, k_X5_give_31, k_X5_give_32, wp1, wp_s, cutIn, kont, Nat.reduceSub, Nat.reduceAdd, nth, o_const, o_lconst, o_ref, o_iload, o_lload, o_aload, o_istore, o_lstore, o_astore, o_iinc, o_bin, o_div, o_un, o_lbin, o_lsh, o_lcmp, o_i2l, o_l2i, o_if, o_icmp, o_goto, o_dup, o_dup2, o_pop, fav, o_getf, o_putI, o_putZ, o_putL, o_ald, o_ast, o_alen, popn, rst, o_callV, o_callT, o_callS, swx, o_sw, o_ret, o_iret, o_zret, o_cret, o_lret, o_aret, lg, lput, lput2, ls1, isL, entL, wsum, rdI1, rdI2, rdA1, rdA21, rdA22, rdL1, rdL22, rdL21, upN_at, rep, sh_0, F_0_0, F_0_1, F_0_2, F_0_3, F_0_4, F_0_5, F_0_6, F_0_7, F_0_8, sh_1, F_1_0, F_1_1, F_1_2, F_1_3, F_1_4, F_1_5, sh_3, F_3_0, F_3_1, F_3_2, F_3_3, F_3_4, F_3_5, sh_5, F_5_0, F_5_1, F_5_2, F_5_3, F_5_4, F_5_5, F_5_6, F_5_7, F_5_8, sh_12, F_12_0, F_12_1, F_12_2, F_12_3, F_12_4, F_12_5, sh_14, F_14_0, F_14_1, F_14_2, F_14_3, F_14_4, F_14_5, F_14_6, F_14_7, F_14_8, sh_21, F_21_0, F_21_1, F_21_2, F_21_3, F_21_4, F_21_5, F_21_6, F_21_7, F_21_8, sh_28, F_28_0, F_28_1, F_28_2, F_28_3, F_28_4, F_28_5, F_28_6, F_28_7, F_28_8, sh_35, F_35_0, sh_39, F_39_0, F_39_1, F_39_2, F_39_3, F_39_4, F_39_5, F_39_6, F_39_7, F_39_8, F_39_9, F_39_10, F_39_11, F_39_12, F_39_13, A_2, A_4, A_6, A_7, A_8, A_9, A_10, A_11, A_13, A_15, A_16, A_17, A_18, A_19, A_20, A_22, A_23, A_24, A_25, A_26, A_27, A_29, A_30, A_31, A_32, A_33, A_34, A_36, A_37, A_38, A_40, A_41, A_42, A_43, A_44, A_45, A_46, A_47]
        refine ⟨fun q => absurd q (by decide), fun _ => ⟨k, y, u, rfl, by omega, hu, hu10, fun q => ?_, fun q => ?_⟩⟩
        · rw [hhk k hk] at q
          dsimp only [k_X5_give_0, k_X5_give_1, k_X5_give_2, k_X5_give_5, k_X5_give_8, k_X5_give_9, k_X5_give_11, k_X5_give_14, k_X5_give_15, k_X5_give_16, k_X5_give_19, k_X5_give_22, k_X5_give_23, k_X5_give_24, k_X5_give_25, k_X5_give_28, k_X5_give_31, k_X5_give_32, wp1, wp_s, cutIn, kont, Nat.reduceSub, Nat.reduceAdd, nth, o_const, o_lconst, o_ref, o_iload, o_lload, o_aload, o_istore, o_lstore, o_astore, o_iinc, o_bin, o_div, o_un, o_lbin, o_lsh, o_lcmp, o_i2l, o_l2i, o_if, o_icmp, o_goto, o_dup, o_dup2, o_pop, fav, o_getf, o_putI, o_putZ, o_putL, o_ald, o_ast, o_alen, popn, rst, o_callV, o_callT, o_callS, swx, o_sw, o_ret, o_iret, o_zret, o_cret, o_lret, o_aret, lg, lput, lput2, ls1, isL, entL, wsum, rdI1, rdI2, rdA1, rdA21, rdA22, rdL1, rdL22, rdL21, upN_at, rep, sh_0, F_0_0, F_0_1, F_0_2, F_0_3, F_0_4, F_0_5, F_0_6, F_0_7, F_0_8, sh_1, F_1_0, F_1_1, F_1_2, F_1_3, F_1_4, F_1_5, sh_3, F_3_0, F_3_1, F_3_2, F_3_3, F_3_4, F_3_5, sh_5, F_5_0, F_5_1, F_5_2, F_5_3, F_5_4, F_5_5, F_5_6, F_5_7, F_5_8, sh_12, F_12_0, F_12_1, F_12_2, F_12_3, F_12_4, F_12_5, sh_14, F_14_0, F_14_1, F_14_2, F_14_3, F_14_4, F_14_5, F_14_6, F_14_7, F_14_8, sh_21, F_21_0, F_21_1, F_21_2, F_21_3, F_21_4, F_21_5, F_21_6, F_21_7, F_21_8, sh_28, F_28_0, F_28_1, F_28_2, F_28_3, F_28_4, F_28_5, F_28_6, F_28_7, F_28_8, sh_35, F_35_0, sh_39, F_39_0, F_39_1, F_39_2, F_39_3, F_39_4, F_39_5, F_39_6, F_39_7, F_39_8, F_39_9, F_39_10, F_39_11, F_39_12, F_39_13, A_2, A_4, A_6, A_7, A_8, A_9, A_10, A_11, A_13, A_15, A_16, A_17, A_18, A_19, A_20, A_22, A_23, A_24, A_25, A_26, A_27, A_29, A_30, A_31, A_32, A_33, A_34, A_36, A_37, A_38, A_40, A_41, A_42, A_43, A_44, A_45, A_46, A_47]
          exact go1 q
        · rw [hhk k hk] at q ⊢
          dsimp only [k_X5_give_0, k_X5_give_1, k_X5_give_2, k_X5_give_5, k_X5_give_8, k_X5_give_9, k_X5_give_11, k_X5_give_14, k_X5_give_15, k_X5_give_16, k_X5_give_19, k_X5_give_22, k_X5_give_23, k_X5_give_24, k_X5_give_25, k_X5_give_28, k_X5_give_31, k_X5_give_32, wp1, wp_s, cutIn, kont, Nat.reduceSub, Nat.reduceAdd, nth, o_const, o_lconst, o_ref, o_iload, o_lload, o_aload, o_istore, o_lstore, o_astore, o_iinc, o_bin, o_div, o_un, o_lbin, o_lsh, o_lcmp, o_i2l, o_l2i, o_if, o_icmp, o_goto, o_dup, o_dup2, o_pop, fav, o_getf, o_putI, o_putZ, o_putL, o_ald, o_ast, o_alen, popn, rst, o_callV, o_callT, o_callS, swx, o_sw, o_ret, o_iret, o_zret, o_cret, o_lret, o_aret, lg, lput, lput2, ls1, isL, entL, wsum, rdI1, rdI2, rdA1, rdA21, rdA22, rdL1, rdL22, rdL21, upN_at, rep, sh_0, F_0_0, F_0_1, F_0_2, F_0_3, F_0_4, F_0_5, F_0_6, F_0_7, F_0_8, sh_1, F_1_0, F_1_1, F_1_2, F_1_3, F_1_4, F_1_5, sh_3, F_3_0, F_3_1, F_3_2, F_3_3, F_3_4, F_3_5, sh_5, F_5_0, F_5_1, F_5_2, F_5_3, F_5_4, F_5_5, F_5_6, F_5_7, F_5_8, sh_12, F_12_0, F_12_1, F_12_2, F_12_3, F_12_4, F_12_5, sh_14, F_14_0, F_14_1, F_14_2, F_14_3, F_14_4, F_14_5, F_14_6, F_14_7, F_14_8, sh_21, F_21_0, F_21_1, F_21_2, F_21_3, F_21_4, F_21_5, F_21_6, F_21_7, F_21_8, sh_28, F_28_0, F_28_1, F_28_2, F_28_3, F_28_4, F_28_5, F_28_6, F_28_7, F_28_8, sh_35, F_35_0, sh_39, F_39_0, F_39_1, F_39_2, F_39_3, F_39_4, F_39_5, F_39_6, F_39_7, F_39_8, F_39_9, F_39_10, F_39_11, F_39_12, F_39_13, A_2, A_4, A_6, A_7, A_8, A_9, A_10, A_11, A_13, A_15, A_16, A_17, A_18, A_19, A_20, A_22, A_23, A_24, A_25, A_26, A_27, A_29, A_30, A_31, A_32, A_33, A_34, A_36, A_37, A_38, A_40, A_41, A_42, A_43, A_44, A_45, A_46, A_47]
          exact go2 q
      · dsimp only [k_X5_give_0, k_X5_give_1, k_X5_give_2, k_X5_give_5, k_X5_give_8, k_X5_give_9, k_X5_give_11, k_X5_give_14, k_X5_give_15, k_X5_give_16, k_X5_give_19, k_X5_give_22, k_X5_give_23, k_X5_give_24, k_X5_give_25, k_X5_give_28, k_X5_give_31, k_X5_give_32, wp1, wp_s, cutIn, kont, Nat.reduceSub, Nat.reduceAdd, nth, o_const, o_lconst, o_ref, o_iload, o_lload, o_aload, o_istore, o_lstore, o_astore, o_iinc, o_bin, o_div, o_un, o_lbin, o_lsh, o_lcmp, o_i2l, o_l2i, o_if, o_icmp, o_goto, o_dup, o_dup2, o_pop, fav, o_getf, o_putI, o_putZ, o_putL, o_ald, o_ast, o_alen, popn, rst, o_callV, o_callT, o_callS, swx, o_sw, o_ret, o_iret, o_zret, o_cret, o_lret, o_aret, lg, lput, lput2, ls1, isL, entL, wsum, rdI1, rdI2, rdA1, rdA21, rdA22, rdL1, rdL22, rdL21, upN_at, rep, sh_0, F_0_0, F_0_1, F_0_2, F_0_3, F_0_4, F_0_5, F_0_6, F_0_7, F_0_8, sh_1, F_1_0, F_1_1, F_1_2, F_1_3, F_1_4, F_1_5, sh_3, F_3_0, F_3_1, F_3_2, F_3_3, F_3_4, F_3_5, sh_5, F_5_0, F_5_1, F_5_2, F_5_3, F_5_4, F_5_5, F_5_6, F_5_7, F_5_8, sh_12, F_12_0, F_12_1, F_12_2, F_12_3, F_12_4, F_12_5, sh_14, F_14_0, F_14_1, F_14_2, F_14_3, F_14_4, F_14_5, F_14_6, F_14_7, F_14_8, sh_21, F_21_0, F_21_1, F_21_2, F_21_3, F_21_4, F_21_5, F_21_6, F_21_7, F_21_8, sh_28, F_28_0, F_28_1, F_28_2, F_28_3, F_28_4, F_28_5, F_28_6, F_28_7, F_28_8, sh_35, F_35_0, sh_39, F_39_0, F_39_1, F_39_2, F_39_3, F_39_4, F_39_5, F_39_6, F_39_7, F_39_8, F_39_9, F_39_10, F_39_11, F_39_12, F_39_13, A_2, A_4, A_6, A_7, A_8, A_9, A_10, A_11, A_13, A_15, A_16, A_17, A_18, A_19, A_20, A_22, A_23, A_24, A_25, A_26, A_27, A_29, A_30, A_31, A_32, A_33, A_34, A_36, A_37, A_38, A_40, A_41, A_42, A_43, A_44, A_45, A_46, A_47]
        exact ⟨fun _ => h1 fun q => q.2.elim w2 w3, fun q => absurd rfl q⟩
  · dsimp only [k_X5_give_0, k_X5_give_1, k_X5_give_2, k_X5_give_5, k_X5_give_8, k_X5_give_9, k_X5_give_11, k_X5_give_14, k_X5_give_15, k_X5_give_16, k_X5_give_19, k_X5_give_22, k_X5_give_23, k_X5_give_24, k_X5_give_25, k_X5_give_28, k_X5_give_31, k_X5_give_32, wp1, wp_s, cutIn, kont, Nat.reduceSub, Nat.reduceAdd, nth, o_const, o_lconst, o_ref, o_iload, o_lload, o_aload, o_istore, o_lstore, o_astore, o_iinc, o_bin, o_div, o_un, o_lbin, o_lsh, o_lcmp, o_i2l, o_l2i, o_if, o_icmp, o_goto, o_dup, o_dup2, o_pop, fav, o_getf, o_putI, o_putZ, o_putL, o_ald, o_ast, o_alen, popn, rst, o_callV, o_callT, o_callS, swx, o_sw, o_ret, o_iret, o_zret, o_cret, o_lret, o_aret, lg, lput, lput2, ls1, isL, entL, wsum, rdI1, rdI2, rdA1, rdA21, rdA22, rdL1, rdL22, rdL21, upN_at, rep, sh_0, F_0_0, F_0_1, F_0_2, F_0_3, F_0_4, F_0_5, F_0_6, F_0_7, F_0_8, sh_1, F_1_0, F_1_1, F_1_2, F_1_3, F_1_4, F_1_5, sh_3, F_3_0, F_3_1, F_3_2, F_3_3, F_3_4, F_3_5, sh_5, F_5_0, F_5_1, F_5_2, F_5_3, F_5_4, F_5_5, F_5_6, F_5_7, F_5_8, sh_12, F_12_0, F_12_1, F_12_2, F_12_3, F_12_4, F_12_5, sh_14, F_14_0, F_14_1, F_14_2, F_14_3, F_14_4, F_14_5, F_14_6, F_14_7, F_14_8, sh_21, F_21_0, F_21_1, F_21_2, F_21_3, F_21_4, F_21_5, F_21_6, F_21_7, F_21_8, sh_28, F_28_0, F_28_1, F_28_2, F_28_3, F_28_4, F_28_5, F_28_6, F_28_7, F_28_8, sh_35, F_35_0, sh_39, F_39_0, F_39_1, F_39_2, F_39_3, F_39_4, F_39_5, F_39_6, F_39_7, F_39_8, F_39_9, F_39_10, F_39_11, F_39_12, F_39_13, A_2, A_4, A_6, A_7, A_8, A_9, A_10, A_11, A_13, A_15, A_16, A_17, A_18, A_19, A_20, A_22, A_23, A_24, A_25, A_26, A_27, A_29, A_30, A_31, A_32, A_33, A_34, A_36, A_37, A_38, A_40, A_41, A_42, A_43, A_44, A_45, A_46, A_47]
    exact ⟨fun _ => h1 fun q => w1 q.1, fun q => absurd rfl q⟩
theorem c_X5_give : Ctr yX5_give cX5_give 3 (some .int) ({ frames := 2, cells := 0, slots := 0, locals := 47 } : Room) S_X5_give := ctr_of (T := T_X5_give) (by decide +kernel) (fun post C hr => t_X5_give post C hr) v_X5_give
theorem c_X5_lose : Ctr yX5_lose cX5_lose 2 (some .int) ({ frames := 2, cells := 0, slots := 0, locals := 47 } : Room) S_X5_lose := ctr_of (T := T_X5_lose) (by decide +kernel) (fun post C hr => t_X5_lose post C hr) v_X5_lose
theorem c_X5_trace : Ctr yX5_trace cX5_trace 1 (some .long) ({ frames := 0, cells := 0, slots := 0, locals := 0 } : Room) S_X5_trace := ctr_of (T := T_X5_trace) (by decide +kernel) (fun post C hr => t_X5_trace post C hr) v_X5_trace
