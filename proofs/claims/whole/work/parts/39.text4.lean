/-! The model's text: a verb. -/
/-- a word's letters, packed -/
def cdN (t : Nat → Nat) (s : Nat) : Nat → Nat
  | 0 => 0
  | k + 1 => 256 * cdN t s k + t (s + k)
def cdV (x : Nat) : Int32 := if x = 7038329 then 0 else if x = 1819239275 then 1 else if x = 123581014175598 then 2 else if x = 448545973363 then 3 else -9
/-- what the word at hand begins -/
def vbV (t : Nat → Nat) (L s e : Nat) : Int32 := if srA t L s = 1 ∧ e - s < 7 then cdV (cdN t s (e - s)) else -9
def S_X5_verb : SP := fun as M post => ∃ L t p M0, as = [VR 39] ∧ TT M0 L t ∧ p ≤ 301 ∧ M = tkN t L p M0 ∧ post (some (VI (vbV t L (tkS t L p) (tkE t L p)))) M
theorem ctL_RX5_64 : Cond.constantLong RX5 64 (256) ∈ tb := tb_of 711 (by decide +kernel) (by decide +kernel)
theorem ctL_RX5_66 : Cond.constantLong RX5 66 (7038329) ∈ tb := tb_of 712 (by decide +kernel) (by decide +kernel)
theorem ctL_RX5_68 : Cond.constantLong RX5 68 (1819239275) ∈ tb := tb_of 713 (by decide +kernel) (by decide +kernel)
theorem ctL_RX5_70 : Cond.constantLong RX5 70 (123581014175598) ∈ tb := tb_of 714 (by decide +kernel) (by decide +kernel)
theorem ctL_RX5_72 : Cond.constantLong RX5 72 (448545973363) ∈ tb := tb_of 715 (by decide +kernel) (by decide +kernel)
theorem dX5_verb_0 : decode cX5_verb 0 = .ok (.lconst 0, 1) := by decide +kernel
theorem dX5_verb_1 : decode cX5_verb 1 = .ok (.lstore_n 1, 1) := by decide +kernel
theorem dX5_verb_2 : decode cX5_verb 2 = .ok (.iconst 0, 1) := by decide +kernel
theorem dX5_verb_3 : decode cX5_verb 3 = .ok (.istore_n 3, 1) := by decide +kernel
theorem dX5_verb_4 : decode cX5_verb 4 = .ok (.iload_n 3, 1) := by decide +kernel
theorem dX5_verb_5 : decode cX5_verb 5 = .ok (.aload_n 0, 1) := by decide +kernel
theorem dX5_verb_6 : decode cX5_verb 6 = .ok (.getfield 61, 3) := by decide +kernel
theorem dX5_verb_9 : decode cX5_verb 9 = .ok (.if_icmp .ge 44, 3) := by decide +kernel
theorem dX5_verb_12 : decode cX5_verb 12 = .ok (.aload_n 0, 1) := by decide +kernel
theorem dX5_verb_13 : decode cX5_verb 13 = .ok (.getfield 61, 3) := by decide +kernel
theorem dX5_verb_16 : decode cX5_verb 16 = .ok (.bipush 7, 2) := by decide +kernel
theorem dX5_verb_18 : decode cX5_verb 18 = .ok (.if_icmp .ge 35, 3) := by decide +kernel
theorem dX5_verb_21 : decode cX5_verb 21 = .ok (.aload_n 0, 1) := by decide +kernel
theorem dX5_verb_22 : decode cX5_verb 22 = .ok (.getfield 58, 3) := by decide +kernel
theorem dX5_verb_25 : decode cX5_verb 25 = .ok (.iconst 1, 1) := by decide +kernel
theorem dX5_verb_26 : decode cX5_verb 26 = .ok (.if_icmp .ne 27, 3) := by decide +kernel
theorem dX5_verb_29 : decode cX5_verb 29 = .ok (.ldc2_w 64, 3) := by decide +kernel
theorem dX5_verb_32 : decode cX5_verb 32 = .ok (.lload_n 1, 1) := by decide +kernel
theorem dX5_verb_33 : decode cX5_verb 33 = .ok (.lmul, 1) := by decide +kernel
theorem dX5_verb_34 : decode cX5_verb 34 = .ok (.aload_n 0, 1) := by decide +kernel
theorem dX5_verb_35 : decode cX5_verb 35 = .ok (.aload_n 0, 1) := by decide +kernel
theorem dX5_verb_36 : decode cX5_verb 36 = .ok (.getfield 52, 3) := by decide +kernel
theorem dX5_verb_39 : decode cX5_verb 39 = .ok (.iload_n 3, 1) := by decide +kernel
theorem dX5_verb_40 : decode cX5_verb 40 = .ok (.iadd, 1) := by decide +kernel
theorem dX5_verb_41 : decode cX5_verb 41 = .ok (.invokevirtual 48, 3) := by decide +kernel
theorem dX5_verb_44 : decode cX5_verb 44 = .ok (.i2l, 1) := by decide +kernel
theorem dX5_verb_45 : decode cX5_verb 45 = .ok (.ladd, 1) := by decide +kernel
theorem dX5_verb_46 : decode cX5_verb 46 = .ok (.lstore_n 1, 1) := by decide +kernel
theorem dX5_verb_47 : decode cX5_verb 47 = .ok (.iinc 3 1, 3) := by decide +kernel
theorem dX5_verb_50 : decode cX5_verb 50 = .ok (.goto (-46), 3) := by decide +kernel
theorem dX5_verb_53 : decode cX5_verb 53 = .ok (.lload_n 1, 1) := by decide +kernel
theorem dX5_verb_54 : decode cX5_verb 54 = .ok (.ldc2_w 66, 3) := by decide +kernel
theorem dX5_verb_57 : decode cX5_verb 57 = .ok (.lcmp, 1) := by decide +kernel
theorem dX5_verb_58 : decode cX5_verb 58 = .ok (.ifCond .ne 7, 3) := by decide +kernel
theorem dX5_verb_61 : decode cX5_verb 61 = .ok (.iconst 0, 1) := by decide +kernel
theorem dX5_verb_62 : decode cX5_verb 62 = .ok (.goto 41, 3) := by decide +kernel
theorem dX5_verb_65 : decode cX5_verb 65 = .ok (.lload_n 1, 1) := by decide +kernel
theorem dX5_verb_66 : decode cX5_verb 66 = .ok (.ldc2_w 68, 3) := by decide +kernel
theorem dX5_verb_69 : decode cX5_verb 69 = .ok (.lcmp, 1) := by decide +kernel
theorem dX5_verb_70 : decode cX5_verb 70 = .ok (.ifCond .ne 7, 3) := by decide +kernel
theorem dX5_verb_73 : decode cX5_verb 73 = .ok (.iconst 1, 1) := by decide +kernel
theorem dX5_verb_74 : decode cX5_verb 74 = .ok (.goto 29, 3) := by decide +kernel
theorem dX5_verb_77 : decode cX5_verb 77 = .ok (.lload_n 1, 1) := by decide +kernel
theorem dX5_verb_78 : decode cX5_verb 78 = .ok (.ldc2_w 70, 3) := by decide +kernel
theorem dX5_verb_81 : decode cX5_verb 81 = .ok (.lcmp, 1) := by decide +kernel
theorem dX5_verb_82 : decode cX5_verb 82 = .ok (.ifCond .ne 7, 3) := by decide +kernel
theorem dX5_verb_85 : decode cX5_verb 85 = .ok (.iconst 2, 1) := by decide +kernel
theorem dX5_verb_86 : decode cX5_verb 86 = .ok (.goto 17, 3) := by decide +kernel
theorem dX5_verb_89 : decode cX5_verb 89 = .ok (.lload_n 1, 1) := by decide +kernel
theorem dX5_verb_90 : decode cX5_verb 90 = .ok (.ldc2_w 72, 3) := by decide +kernel
theorem dX5_verb_93 : decode cX5_verb 93 = .ok (.lcmp, 1) := by decide +kernel
theorem dX5_verb_94 : decode cX5_verb 94 = .ok (.ifCond .ne 7, 3) := by decide +kernel
theorem dX5_verb_97 : decode cX5_verb 97 = .ok (.iconst 3, 1) := by decide +kernel
theorem dX5_verb_98 : decode cX5_verb 98 = .ok (.goto 5, 3) := by decide +kernel
theorem dX5_verb_101 : decode cX5_verb 101 = .ok (.bipush (-9), 2) := by decide +kernel
theorem dX5_verb_103 : decode cX5_verb 103 = .ok (.ireturn, 1) := by decide +kernel
def T_X5_verb (post : PO) : List (Nat × OP) := [(0, o_lconst 0 1), (1, o_lstore 1 2), (2, o_const 0 3), (3, o_istore 3 4), (4, o_iload 3 5), (5, o_aload 0 6), (6, o_getf 5 11 9), (9, o_icmp (fun x y => y ≤ x) 53 12), (12, o_aload 0 13), (13, o_getf 5 11 16), (16, o_const 7 18), (18, o_icmp (fun x y => y ≤ x) 53 21), (21, o_aload 0 22), (22, o_getf 5 9 25), (25, o_const 1 26), (26, o_icmp (fun x y => x = y) 29 53), (29, o_lconst 256 32), (32, o_lload 1 33), (33, o_lbin (fun x y => x * y) 34), (34, o_aload 0 35), (35, o_aload 0 36), (36, o_getf 5 10 39), (39, o_iload 3 40), (40, o_bin (fun x y => x + y) 41), (41, o_callV 5 S_X5_byteAt 1 44), (44, o_i2l 45), (45, o_lbin (fun x y => x + y) 46), (46, o_lstore 1 47), (47, o_iinc 3 1 50), (50, o_goto 4), (53, o_lload 1 54), (54, o_lconst 7038329 57), (57, o_lcmp 58), (58, o_if (fun x => x = 0) 61 65), (61, o_const 0 62), (62, o_goto 103), (65, o_lload 1 66), (66, o_lconst 1819239275 69), (69, o_lcmp 70), (70, o_if (fun x => x = 0) 73 77), (73, o_const 1 74), (74, o_goto 103), (77, o_lload 1 78), (78, o_lconst 123581014175598 81), (81, o_lcmp 82), (82, o_if (fun x => x = 0) 85 89), (85, o_const 2 86), (86, o_goto 103), (89, o_lload 1 90), (90, o_lconst 448545973363 93), (93, o_lcmp 94), (94, o_if (fun x => x = 0) 97 101), (97, o_const 3 98), (98, o_goto 103), (101, o_const (-9) 103), (103, o_iret post)]
theorem k_X5_verb_0 (post : PO) : lk (T_X5_verb post) 0 = o_lconst 0 1 := rfl
theorem k_X5_verb_1 (post : PO) : lk (T_X5_verb post) 1 = o_lstore 1 2 := rfl
theorem k_X5_verb_2 (post : PO) : lk (T_X5_verb post) 2 = o_const 0 3 := rfl
theorem k_X5_verb_3 (post : PO) : lk (T_X5_verb post) 3 = o_istore 3 4 := rfl
theorem k_X5_verb_4 (post : PO) : lk (T_X5_verb post) 4 = o_iload 3 5 := rfl
theorem k_X5_verb_5 (post : PO) : lk (T_X5_verb post) 5 = o_aload 0 6 := rfl
theorem k_X5_verb_6 (post : PO) : lk (T_X5_verb post) 6 = o_getf 5 11 9 := rfl
theorem k_X5_verb_9 (post : PO) : lk (T_X5_verb post) 9 = o_icmp (fun x y => y ≤ x) 53 12 := rfl
theorem k_X5_verb_12 (post : PO) : lk (T_X5_verb post) 12 = o_aload 0 13 := rfl
theorem k_X5_verb_13 (post : PO) : lk (T_X5_verb post) 13 = o_getf 5 11 16 := rfl
theorem k_X5_verb_16 (post : PO) : lk (T_X5_verb post) 16 = o_const 7 18 := rfl
theorem k_X5_verb_18 (post : PO) : lk (T_X5_verb post) 18 = o_icmp (fun x y => y ≤ x) 53 21 := rfl
theorem k_X5_verb_21 (post : PO) : lk (T_X5_verb post) 21 = o_aload 0 22 := rfl
theorem k_X5_verb_22 (post : PO) : lk (T_X5_verb post) 22 = o_getf 5 9 25 := rfl
theorem k_X5_verb_25 (post : PO) : lk (T_X5_verb post) 25 = o_const 1 26 := rfl
theorem k_X5_verb_26 (post : PO) : lk (T_X5_verb post) 26 = o_icmp (fun x y => x = y) 29 53 := rfl
theorem k_X5_verb_29 (post : PO) : lk (T_X5_verb post) 29 = o_lconst 256 32 := rfl
theorem k_X5_verb_32 (post : PO) : lk (T_X5_verb post) 32 = o_lload 1 33 := rfl
theorem k_X5_verb_33 (post : PO) : lk (T_X5_verb post) 33 = o_lbin (fun x y => x * y) 34 := rfl
theorem k_X5_verb_34 (post : PO) : lk (T_X5_verb post) 34 = o_aload 0 35 := rfl
theorem k_X5_verb_35 (post : PO) : lk (T_X5_verb post) 35 = o_aload 0 36 := rfl
theorem k_X5_verb_36 (post : PO) : lk (T_X5_verb post) 36 = o_getf 5 10 39 := rfl
theorem k_X5_verb_39 (post : PO) : lk (T_X5_verb post) 39 = o_iload 3 40 := rfl
theorem k_X5_verb_40 (post : PO) : lk (T_X5_verb post) 40 = o_bin (fun x y => x + y) 41 := rfl
theorem k_X5_verb_41 (post : PO) : lk (T_X5_verb post) 41 = o_callV 5 S_X5_byteAt 1 44 := rfl
theorem k_X5_verb_44 (post : PO) : lk (T_X5_verb post) 44 = o_i2l 45 := rfl
theorem k_X5_verb_45 (post : PO) : lk (T_X5_verb post) 45 = o_lbin (fun x y => x + y) 46 := rfl
theorem k_X5_verb_46 (post : PO) : lk (T_X5_verb post) 46 = o_lstore 1 47 := rfl
theorem k_X5_verb_47 (post : PO) : lk (T_X5_verb post) 47 = o_iinc 3 1 50 := rfl
theorem k_X5_verb_50 (post : PO) : lk (T_X5_verb post) 50 = o_goto 4 := rfl
theorem k_X5_verb_53 (post : PO) : lk (T_X5_verb post) 53 = o_lload 1 54 := rfl
theorem k_X5_verb_54 (post : PO) : lk (T_X5_verb post) 54 = o_lconst 7038329 57 := rfl
theorem k_X5_verb_57 (post : PO) : lk (T_X5_verb post) 57 = o_lcmp 58 := rfl
theorem k_X5_verb_58 (post : PO) : lk (T_X5_verb post) 58 = o_if (fun x => x = 0) 61 65 := rfl
theorem k_X5_verb_61 (post : PO) : lk (T_X5_verb post) 61 = o_const 0 62 := rfl
theorem k_X5_verb_62 (post : PO) : lk (T_X5_verb post) 62 = o_goto 103 := rfl
theorem k_X5_verb_65 (post : PO) : lk (T_X5_verb post) 65 = o_lload 1 66 := rfl
theorem k_X5_verb_66 (post : PO) : lk (T_X5_verb post) 66 = o_lconst 1819239275 69 := rfl
theorem k_X5_verb_69 (post : PO) : lk (T_X5_verb post) 69 = o_lcmp 70 := rfl
theorem k_X5_verb_70 (post : PO) : lk (T_X5_verb post) 70 = o_if (fun x => x = 0) 73 77 := rfl
theorem k_X5_verb_73 (post : PO) : lk (T_X5_verb post) 73 = o_const 1 74 := rfl
theorem k_X5_verb_74 (post : PO) : lk (T_X5_verb post) 74 = o_goto 103 := rfl
theorem k_X5_verb_77 (post : PO) : lk (T_X5_verb post) 77 = o_lload 1 78 := rfl
theorem k_X5_verb_78 (post : PO) : lk (T_X5_verb post) 78 = o_lconst 123581014175598 81 := rfl
theorem k_X5_verb_81 (post : PO) : lk (T_X5_verb post) 81 = o_lcmp 82 := rfl
theorem k_X5_verb_82 (post : PO) : lk (T_X5_verb post) 82 = o_if (fun x => x = 0) 85 89 := rfl
theorem k_X5_verb_85 (post : PO) : lk (T_X5_verb post) 85 = o_const 2 86 := rfl
theorem k_X5_verb_86 (post : PO) : lk (T_X5_verb post) 86 = o_goto 103 := rfl
theorem k_X5_verb_89 (post : PO) : lk (T_X5_verb post) 89 = o_lload 1 90 := rfl
theorem k_X5_verb_90 (post : PO) : lk (T_X5_verb post) 90 = o_lconst 448545973363 93 := rfl
theorem k_X5_verb_93 (post : PO) : lk (T_X5_verb post) 93 = o_lcmp 94 := rfl
theorem k_X5_verb_94 (post : PO) : lk (T_X5_verb post) 94 = o_if (fun x => x = 0) 97 101 := rfl
theorem k_X5_verb_97 (post : PO) : lk (T_X5_verb post) 97 = o_const 3 98 := rfl
theorem k_X5_verb_98 (post : PO) : lk (T_X5_verb post) 98 = o_goto 103 := rfl
theorem k_X5_verb_101 (post : PO) : lk (T_X5_verb post) 101 = o_const (-9) 103 := rfl
theorem k_X5_verb_103 (post : PO) : lk (T_X5_verb post) 103 = o_iret post := rfl
set_option maxRecDepth 100000 in
theorem t_X5_verb {p : Program} {l : Launch} {e : Env} {s : State} {m : MethodId} {args : Array Value} {below : List Frame} {meth : Method} {c : Code} {D : va_G} {dA : Nat → ClassId} {ad : Nat → Nat} (post : PO) (C : CX p s m args meth c cX5_verb 4 yX5_verb.cls D dA ad (AA ad s.heap.size)) (hr : meth.sig.returnType = (some .int)) : SndL (WW p l e ({ frames := 1, cells := 0, slots := 0, locals := 21 } : Room) s m args below meth c 0 0 (MQ below (CQ D dA ad post (AA ad s.heap.size)) args s 0 0 (AA ad s.heap.size)) 4 D dA ad (AA ad s.heap.size)) (T_X5_verb post) := by
  refine snd_c (s_lconst C dX5_verb_0 rfl) ?_
  refine snd_c (s_lstore_n C rfl (by decide) dX5_verb_1) ?_
  refine snd_c (s_iconst C dX5_verb_2 rfl) ?_
  refine snd_c (s_istore_n C rfl (by decide) dX5_verb_3) ?_
  refine snd_c (s_iload_n C rfl dX5_verb_4) ?_
  refine snd_c (s_aload_n C rfl dX5_verb_5) ?_
  refine snd_c (s_getf C (ci := 5) (j := 11) (T := TX5) rfl inX5 (by decide) fl_RX5_61 dX5_verb_6) ?_
  refine snd_c (s_icmp_ge C dX5_verb_9 (by decide)) ?_
  refine snd_c (s_aload_n C rfl dX5_verb_12) ?_
  refine snd_c (s_getf C (ci := 5) (j := 11) (T := TX5) rfl inX5 (by decide) fl_RX5_61 dX5_verb_13) ?_
  refine snd_c (s_bipush C dX5_verb_16 rfl) ?_
  refine snd_c (s_icmp_ge C dX5_verb_18 (by decide)) ?_
  refine snd_c (s_aload_n C rfl dX5_verb_21) ?_
  refine snd_c (s_getf C (ci := 5) (j := 9) (T := TX5) rfl inX5 (by decide) fl_RX5_58 dX5_verb_22) ?_
  refine snd_c (s_iconst C dX5_verb_25 rfl) ?_
  refine snd_c (s_icmp_ne C dX5_verb_26 (by decide)) ?_
  refine snd_c (s_ldc2 C ctL_RX5_64 dX5_verb_29) ?_
  refine snd_c (s_lload_n C rfl dX5_verb_32) ?_
  refine snd_c (s_lmul C dX5_verb_33) ?_
  refine snd_c (s_aload_n C rfl dX5_verb_34) ?_
  refine snd_c (s_aload_n C rfl dX5_verb_35) ?_
  refine snd_c (s_getf C (ci := 5) (j := 10) (T := TX5) rfl inX5 (by decide) fl_RX5_52 dX5_verb_36) ?_
  refine snd_c (s_iload_n C rfl dX5_verb_39) ?_
  refine snd_c (s_iadd C dX5_verb_40) ?_
  refine snd_c (s_callV C (ci := 5) c_X5_byteAt rfl cw_RX5_48 ⟨rfl, rfl⟩ ⟨by decide +kernel, by decide +kernel, by decide +kernel⟩ ⟨by decide, by decide⟩ ⟨Nat.zero_le _, Nat.zero_le _⟩ dX5_verb_41) ?_
  refine snd_c (s_i2l C dX5_verb_44) ?_
  refine snd_c (s_ladd C dX5_verb_45) ?_
  refine snd_c (s_lstore_n C rfl (by decide) dX5_verb_46) ?_
  refine snd_c (s_iinc C (by decide) rfl dX5_verb_47) ?_
  refine snd_c (s_goto C dX5_verb_50 (by decide)) ?_
  refine snd_c (s_lload_n C rfl dX5_verb_53) ?_
  refine snd_c (s_ldc2 C ctL_RX5_66 dX5_verb_54) ?_
  refine snd_c (s_lcmp C dX5_verb_57) ?_
  refine snd_c (s_if_ne C dX5_verb_58 (by decide)) ?_
  refine snd_c (s_iconst C dX5_verb_61 rfl) ?_
  refine snd_c (s_goto C dX5_verb_62 (by decide)) ?_
  refine snd_c (s_lload_n C rfl dX5_verb_65) ?_
  refine snd_c (s_ldc2 C ctL_RX5_68 dX5_verb_66) ?_
  refine snd_c (s_lcmp C dX5_verb_69) ?_
  refine snd_c (s_if_ne C dX5_verb_70 (by decide)) ?_
  refine snd_c (s_iconst C dX5_verb_73 rfl) ?_
  refine snd_c (s_goto C dX5_verb_74 (by decide)) ?_
  refine snd_c (s_lload_n C rfl dX5_verb_77) ?_
  refine snd_c (s_ldc2 C ctL_RX5_70 dX5_verb_78) ?_
  refine snd_c (s_lcmp C dX5_verb_81) ?_
  refine snd_c (s_if_ne C dX5_verb_82 (by decide)) ?_
  refine snd_c (s_iconst C dX5_verb_85 rfl) ?_
  refine snd_c (s_goto C dX5_verb_86 (by decide)) ?_
  refine snd_c (s_lload_n C rfl dX5_verb_89) ?_
  refine snd_c (s_ldc2 C ctL_RX5_72 dX5_verb_90) ?_
  refine snd_c (s_lcmp C dX5_verb_93) ?_
  refine snd_c (s_if_ne C dX5_verb_94 (by decide)) ?_
  refine snd_c (s_iconst C dX5_verb_97 rfl) ?_
  refine snd_c (s_goto C dX5_verb_98 (by decide)) ?_
  refine snd_c (s_bipush C dX5_verb_101 rfl) ?_
  refine snd_c (s_iret C hr dX5_verb_103) ?_
  exact trivial
theorem lN_b : ∀ b, b < 256 → (nI b).toInt64 = lN b := by decide +kernel
theorem lN_bv (n : Nat) : (lN n).toBitVec = BitVec.ofNat 64 n := rfl
theorem lNj {a b : Nat} (ha : a < 2 ^ 63) (hb : b < 2 ^ 63) : lN a = lN b ↔ a = b := by
  constructor
  · intro h
    have h1 := congrArg (fun x : Int64 => x.toBitVec.toNat) h
    simp only [lN_bv, BitVec.toNat_ofNat] at h1
    rw [Nat.mod_eq_of_lt (by omega), Nat.mod_eq_of_lt (by omega)] at h1
    exact h1
  · intro h; rw [h]
theorem lN_s (a b : Nat) : (256 : Int64) * lN a + lN b = lN (256 * a + b) := by
  rw [← Int64.toBitVec_inj, Int64.toBitVec_add, Int64.toBitVec_mul, lN_bv, lN_bv, lN_bv, BitVec.ofNat_add, BitVec.ofNat_mul]
  rfl
theorem cd_lt {t : Nat → Nat} {s : Nat} : ∀ k, (∀ j, j < k → t (s + j) < 256) → cdN t s k < 256 ^ k := by
  intro k
  induction k with
  | zero => intro _; show 0 < 1; omega
  | succ k ih =>
    intro h
    have h1 := ih fun j hj => h j (by omega)
    have h2 := h k (by omega)
    rw [cdN, Nat.pow_succ]
    omega
set_option maxRecDepth 100000 in
theorem v_X5_verb : ∀ as M post, S_X5_verb as M post → wsum as ≤ 4 ∧ RUN (T_X5_verb post) 0 (entL 4 as) [] M := by
  rintro as M post ⟨L, t, p, M0, rfl, hT, hpL, rfl, h⟩
  have hT2 := hT.2.1
  obtain ⟨hS, hE⟩ := tkE_le (t := t) hT2 hpL
  have hTT : TT (tkN t L p M0) L t := TT_of hT rfl rfl
  refine ⟨by show 1 ≤ 4; omega, run_of [4] (fun μ pc lv st M' => st = [] ∧ pc = 4 ∧ M' = tkN t L p M0 ∧ ∃ i, (i = 0 ∨ (srA t L (tkS t L p) = 1 ∧ tkE t L p - tkS t L p < 7)) ∧ i ≤ tkE t L p - tkS t L p ∧ 2000 - i = μ ∧ lv = [some (VR 39), some (VL (lN (cdN t (tkS t L p) i))), none, some (VI (nI i))]) 80 4000 ?_ ?_⟩
  · rintro μ pc lv st M' ⟨rfl, rfl, rfl, i, hJ, hi, rfl, rfl⟩
    have r29 : (tkN t L p M0).1 29 = nI (tkE t L p - tkS t L p) := rfl
    have r28 : (tkN t L p M0).1 28 = nI (tkS t L p) := rfl
    have r27 : (tkN t L p M0).1 27 = srA t L (tkS t L p) := rfl
    dsimp only [k_X5_verb_0, k_X5_verb_1, k_X5_verb_2, k_X5_verb_3, k_X5_verb_4, k_X5_verb_5, k_X5_verb_6, k_X5_verb_9, k_X5_verb_12, k_X5_verb_13, k_X5_verb_16, k_X5_verb_18, k_X5_verb_21, k_X5_verb_22, k_X5_verb_25, k_X5_verb_26, k_X5_verb_29, k_X5_verb_32, k_X5_verb_33, k_X5_verb_34, k_X5_verb_35, k_X5_verb_36, k_X5_verb_39, k_X5_verb_40, k_X5_verb_41, k_X5_verb_44, k_X5_verb_45, k_X5_verb_46, k_X5_verb_47, k_X5_verb_50, k_X5_verb_53, k_X5_verb_54, k_X5_verb_57, k_X5_verb_58, k_X5_verb_61, k_X5_verb_62, k_X5_verb_65, k_X5_verb_66, k_X5_verb_69, k_X5_verb_70, k_X5_verb_73, k_X5_verb_74, k_X5_verb_77, k_X5_verb_78, k_X5_verb_81, k_X5_verb_82, k_X5_verb_85, k_X5_verb_86, k_X5_verb_89, k_X5_verb_90, k_X5_verb_93, k_X5_verb_94, k_X5_verb_97, k_X5_verb_98, k_X5_verb_101, k_X5_verb_103, wp1, wp_s, cutIn, kont, Nat.reduceSub, Nat.reduceAdd, nth, o_const, o_lconst, o_ref, o_iload, o_lload, o_aload, o_istore, o_lstore, o_astore, o_iinc, o_bin, o_div, o_un, o_lbin, o_lsh, o_lcmp, o_i2l, o_l2i, o_if, o_icmp, o_goto, o_dup, o_dup2, o_pop, fav, o_getf, o_putI, o_putZ, o_putL, o_ald, o_ast, o_alen, popn, rst, o_callV, o_callT, o_callS, swx, o_sw, o_ret, o_iret, o_zret, o_cret, o_lret, o_aret, lg, lput, lput2, ls1, isL, entL, wsum, rdI1, rdI2, rdA1, rdA21, rdA22, rdL1, rdL22, rdL21, upN_at, rep, sh_0, F_0_0, F_0_1, F_0_2, F_0_3, F_0_4, F_0_5, F_0_6, F_0_7, F_0_8, sh_1, F_1_0, F_1_1, F_1_2, F_1_3, F_1_4, F_1_5, sh_3, F_3_0, F_3_1, F_3_2, F_3_3, F_3_4, F_3_5, sh_5, F_5_0, F_5_1, F_5_2, F_5_3, F_5_4, F_5_5, F_5_6, F_5_7, F_5_8, sh_12, F_12_0, F_12_1, F_12_2, F_12_3, F_12_4, F_12_5, sh_14, F_14_0, F_14_1, F_14_2, F_14_3, F_14_4, F_14_5, F_14_6, F_14_7, F_14_8, sh_21, F_21_0, F_21_1, F_21_2, F_21_3, F_21_4, F_21_5, F_21_6, F_21_7, F_21_8, sh_28, F_28_0, F_28_1, F_28_2, F_28_3, F_28_4, F_28_5, F_28_6, F_28_7, F_28_8, sh_35, F_35_0, sh_39, F_39_0, F_39_1, F_39_2, F_39_3, F_39_4, F_39_5, F_39_6, F_39_7, F_39_8, F_39_9, F_39_10, F_39_11, F_39_12, F_39_13, A_2, A_4, A_6, A_7, A_8, A_9, A_10, A_11, A_13, A_15, A_16, A_17, A_18, A_19, A_20, A_22, A_23, A_24, A_25, A_26, A_27, A_29, A_30, A_31, A_32, A_33, A_34, A_36, A_37, A_38, A_40, A_41, A_42, A_43, A_44, A_45, A_46, A_47]
    rw [r29, r28, r27]
    simp (disch := omega) only [nI_leI, nI_ltI, nI_eq, nI_1, nI_add, one_shl, nI_or, nI_xor, nI_and, bit_0, bit_1, true_or, or_true, true_and, and_true, eq_self, not_true_eq_false, not_false_eq_true, forall_const]
    have cz : ∀ x : Nat, x < 2 ^ 63 → ∀ c : Nat, c < 2 ^ 63 → (lg_cmp (lN x) (lN c) = 0 ↔ x = c) := fun x hx c hc => by
      rw [← lNj hx hc]
      unfold lg_cmp
      constructor
      · intro w
        by_cases w1 : lN x = lN c
        · exact w1
        · simp [w1] at w
          split at w <;> exact absurd w (by decide)
      · intro w; simp [w]
    have fin : ∀ x : Nat, x < 2 ^ 63 → post (some (VI (cdV x))) (tkN t L p M0) → ((lg_cmp (lN x) 7038329 = 0 → post (some (VI 0)) (tkN t L p M0)) ∧ (¬lg_cmp (lN x) 7038329 = 0 → (lg_cmp (lN x) 1819239275 = 0 → post (some (VI 1)) (tkN t L p M0)) ∧ (¬lg_cmp (lN x) 1819239275 = 0 → (lg_cmp (lN x) 123581014175598 = 0 → post (some (VI 2)) (tkN t L p M0)) ∧ (¬lg_cmp (lN x) 123581014175598 = 0 → (lg_cmp (lN x) 448545973363 = 0 → post (some (VI 3)) (tkN t L p M0)) ∧ (¬lg_cmp (lN x) 448545973363 = 0 → post (some (VI (-9))) (tkN t L p M0)))))) := by
      intro x hx hp2
      rw [show (7038329 : Int64) = lN 7038329 from rfl, show (1819239275 : Int64) = lN 1819239275 from rfl, show (123581014175598 : Int64) = lN 123581014175598 from rfl, show (448545973363 : Int64) = lN 448545973363 from rfl, cz x hx _ (by decide), cz x hx _ (by decide), cz x hx _ (by decide), cz x hx _ (by decide)]
      unfold cdV at hp2
      refine ⟨fun e => by rw [if_pos e] at hp2; exact hp2, fun e => ?_⟩
      rw [if_neg e] at hp2
      refine ⟨fun e2 => by rw [if_pos e2] at hp2; exact hp2, fun e2 => ?_⟩
      rw [if_neg e2] at hp2
      refine ⟨fun e3 => by rw [if_pos e3] at hp2; exact hp2, fun e3 => ?_⟩
      rw [if_neg e3] at hp2
      refine ⟨fun e4 => by rw [if_pos e4] at hp2; exact hp2, fun e4 => ?_⟩
      rw [if_neg e4] at hp2
      exact hp2
    have c00 : cdV (cdN t (tkS t L p) 0) = -9 := by unfold cdN; decide
    have hx63 : cdN t (tkS t L p) i < 2 ^ 63 := by
      rcases hJ with rfl | ⟨g1, g2⟩
      · show 0 < 2 ^ 63; decide
      · have hEw := tkE_w g1
        have h5 := cd_lt (t := t) (s := tkS t L p) i fun j hj => (hT.2.2 _ (by omega)).2
        have h6 : 256 ^ i ≤ 256 ^ 6 := Nat.pow_le_pow_right (by omega) (by omega)
        have h7 : 256 ^ 6 < 2 ^ 63 := by decide
        omega
    unfold vbV at h
    rw [show (7 : Int32) = nI 7 from rfl, nI_leI (by omega) (by omega)]
    refine ⟨fun w1 => fin _ hx63 ?_, fun w1 => ⟨fun w2 => fin _ hx63 ?_, fun w2 => ⟨fun w3 => ⟨L, t, tkS t L p + i, rfl, hTT, by omega, ?_⟩, fun w3 => fin _ hx63 ?_⟩⟩⟩
    · have e : i = tkE t L p - tkS t L p := by omega
      rcases hJ with e0 | g
      · rw [e0, c00]
        rw [← e, e0, c00] at h
        split at h <;> exact h
      · rw [if_pos g, ← e] at h; exact h
    · have e0 : i = 0 := hJ.elim id fun g => absurd g.2 (by omega)
      rw [if_neg (fun g => absurd g.2 (by omega))] at h
      rw [e0, c00]; exact h
    · have hEw := tkE_w w3
      have g : tkS t L p + i < L := by omega
      rw [bAt_in g]
      dsimp only [k_X5_verb_0, k_X5_verb_1, k_X5_verb_2, k_X5_verb_3, k_X5_verb_4, k_X5_verb_5, k_X5_verb_6, k_X5_verb_9, k_X5_verb_12, k_X5_verb_13, k_X5_verb_16, k_X5_verb_18, k_X5_verb_21, k_X5_verb_22, k_X5_verb_25, k_X5_verb_26, k_X5_verb_29, k_X5_verb_32, k_X5_verb_33, k_X5_verb_34, k_X5_verb_35, k_X5_verb_36, k_X5_verb_39, k_X5_verb_40, k_X5_verb_41, k_X5_verb_44, k_X5_verb_45, k_X5_verb_46, k_X5_verb_47, k_X5_verb_50, k_X5_verb_53, k_X5_verb_54, k_X5_verb_57, k_X5_verb_58, k_X5_verb_61, k_X5_verb_62, k_X5_verb_65, k_X5_verb_66, k_X5_verb_69, k_X5_verb_70, k_X5_verb_73, k_X5_verb_74, k_X5_verb_77, k_X5_verb_78, k_X5_verb_81, k_X5_verb_82, k_X5_verb_85, k_X5_verb_86, k_X5_verb_89, k_X5_verb_90, k_X5_verb_93, k_X5_verb_94, k_X5_verb_97, k_X5_verb_98, k_X5_verb_101, k_X5_verb_103, wp1, wp_s, cutIn, kont, Nat.reduceSub, Nat.reduceAdd, nth, o_const, o_lconst, o_ref, o_iload, o_lload, o_aload, o_istore, o_lstore, o_astore, o_iinc, o_bin, o_div, o_un, o_lbin, o_lsh, o_lcmp, o_i2l, o_l2i, o_if, o_icmp, o_goto, o_dup, o_dup2, o_pop, fav, o_getf, o_putI, o_putZ, o_putL, o_ald, o_ast, o_alen, popn, rst, o_callV, o_callT, o_callS, swx, o_sw, o_ret, o_iret, o_zret, o_cret, o_lret, o_aret, lg, lput, lput2, ls1, isL, entL, wsum, rdI1, rdI2, rdA1, rdA21, rdA22, rdL1, rdL22, rdL21, upN_at, rep, sh_0, F_0_0, F_0_1, F_0_2, F_0_3, F_0_4, F_0_5, F_0_6, F_0_7, F_0_8, sh_1, F_1_0, F_1_1, F_1_2, F_1_3, F_1_4, F_1_5, sh_3, F_3_0, F_3_1, F_3_2, F_3_3, F_3_4, F_3_5, sh_5, F_5_0, F_5_1, F_5_2, F_5_3, F_5_4, F_5_5, F_5_6, F_5_7, F_5_8, sh_12, F_12_0, F_12_1, F_12_2, F_12_3, F_12_4, F_12_5, sh_14, F_14_0, F_14_1, F_14_2, F_14_3, F_14_4, F_14_5, F_14_6, F_14_7, F_14_8, sh_21, F_21_0, F_21_1, F_21_2, F_21_3, F_21_4, F_21_5, F_21_6, F_21_7, F_21_8, sh_28, F_28_0, F_28_1, F_28_2, F_28_3, F_28_4, F_28_5, F_28_6, F_28_7, F_28_8, sh_35, F_35_0, sh_39, F_39_0, F_39_1, F_39_2, F_39_3, F_39_4, F_39_5, F_39_6, F_39_7, F_39_8, F_39_9, F_39_10, F_39_11, F_39_12, F_39_13, A_2, A_4, A_6, A_7, A_8, A_9, A_10, A_11, A_13, A_15, A_16, A_17, A_18, A_19, A_20, A_22, A_23, A_24, A_25, A_26, A_27, A_29, A_30, A_31, A_32, A_33, A_34, A_36, A_37, A_38, A_40, A_41, A_42, A_43, A_44, A_45, A_46, A_47]
      refine cut _ _ ⟨rfl, rfl, rfl, i + 1, Or.inr ⟨w3, by omega⟩, by omega, rfl, rfl⟩ (by omega) ⟨rfl, ?_, by first | rfl | exact vi_eq (nI_1 _), trivial⟩
      rw [lN_b _ (hT.2.2 _ g).2, lN_s]
      rfl
    · have e0 : i = 0 := hJ.elim id fun g => absurd g.1 w3
      rw [if_neg (fun g => absurd g.1 w3)] at h
      rw [e0, c00]; exact h
  · dsimp only [k_X5_verb_0, k_X5_verb_1, k_X5_verb_2, k_X5_verb_3, k_X5_verb_4, k_X5_verb_5, k_X5_verb_6, k_X5_verb_9, k_X5_verb_12, k_X5_verb_13, k_X5_verb_16, k_X5_verb_18, k_X5_verb_21, k_X5_verb_22, k_X5_verb_25, k_X5_verb_26, k_X5_verb_29, k_X5_verb_32, k_X5_verb_33, k_X5_verb_34, k_X5_verb_35, k_X5_verb_36, k_X5_verb_39, k_X5_verb_40, k_X5_verb_41, k_X5_verb_44, k_X5_verb_45, k_X5_verb_46, k_X5_verb_47, k_X5_verb_50, k_X5_verb_53, k_X5_verb_54, k_X5_verb_57, k_X5_verb_58, k_X5_verb_61, k_X5_verb_62, k_X5_verb_65, k_X5_verb_66, k_X5_verb_69, k_X5_verb_70, k_X5_verb_73, k_X5_verb_74, k_X5_verb_77, k_X5_verb_78, k_X5_verb_81, k_X5_verb_82, k_X5_verb_85, k_X5_verb_86, k_X5_verb_89, k_X5_verb_90, k_X5_verb_93, k_X5_verb_94, k_X5_verb_97, k_X5_verb_98, k_X5_verb_101, k_X5_verb_103, wp1, wp_s, cutIn, kont, Nat.reduceSub, Nat.reduceAdd, nth, o_const, o_lconst, o_ref, o_iload, o_lload, o_aload, o_istore, o_lstore, o_astore, o_iinc, o_bin, o_div, o_un, o_lbin, o_lsh, o_lcmp, o_i2l, o_l2i, o_if, o_icmp, o_goto, o_dup, o_dup2, o_pop, fav, o_getf, o_putI, o_putZ, o_putL, o_ald, o_ast, o_alen, popn, rst, o_callV, o_callT, o_callS, swx, o_sw, o_ret, o_iret, o_zret, o_cret, o_lret, o_aret, lg, lput, lput2, ls1, isL, entL, wsum, rdI1, rdI2, rdA1, rdA21, rdA22, rdL1, rdL22, rdL21, upN_at, rep, sh_0, F_0_0, F_0_1, F_0_2, F_0_3, F_0_4, F_0_5, F_0_6, F_0_7, F_0_8, sh_1, F_1_0, F_1_1, F_1_2, F_1_3, F_1_4, F_1_5, sh_3, F_3_0, F_3_1, F_3_2, F_3_3, F_3_4, F_3_5, sh_5, F_5_0, F_5_1, F_5_2, F_5_3, F_5_4, F_5_5, F_5_6, F_5_7, F_5_8, sh_12, F_12_0, F_12_1, F_12_2, F_12_3, F_12_4, F_12_5, sh_14, F_14_0, F_14_1, F_14_2, F_14_3, F_14_4, F_14_5, F_14_6, F_14_7, F_14_8, sh_21, F_21_0, F_21_1, F_21_2, F_21_3, F_21_4, F_21_5, F_21_6, F_21_7, F_21_8, sh_28, F_28_0, F_28_1, F_28_2, F_28_3, F_28_4, F_28_5, F_28_6, F_28_7, F_28_8, sh_35, F_35_0, sh_39, F_39_0, F_39_1, F_39_2, F_39_3, F_39_4, F_39_5, F_39_6, F_39_7, F_39_8, F_39_9, F_39_10, F_39_11, F_39_12, F_39_13, A_2, A_4, A_6, A_7, A_8, A_9, A_10, A_11, A_13, A_15, A_16, A_17, A_18, A_19, A_20, A_22, A_23, A_24, A_25, A_26, A_27, A_29, A_30, A_31, A_32, A_33, A_34, A_36, A_37, A_38, A_40, A_41, A_42, A_43, A_44, A_45, A_46, A_47]
    exact cut _ _ ⟨rfl, rfl, rfl, 0, Or.inl rfl, by omega, rfl, rfl⟩ (by omega) ⟨rfl, rfl, rfl, trivial⟩
theorem c_X5_verb : Ctr yX5_verb cX5_verb 4 (some .int) ({ frames := 1, cells := 0, slots := 0, locals := 21 } : Room) S_X5_verb := ctr_of (T := T_X5_verb) (by decide +kernel) (fun post C hr => t_X5_verb post C hr) v_X5_verb
