/-! The model hears a text: all of it. -/
theorem cw_RX5_88 : ∀ w ∈ ([.methodLink RX5 88 yX5_verb, .instanceMethod yX5_verb, .selects yX5_verb.cls yX5_verb yX5_verb, .initialized yX5_verb.cls, .code yX5_verb cX5_verb 4 (some .int)] : List Cond), w ∈ tb := tb_all [707, 709, 33, 59, 710] (by decide +kernel) (by decide +kernel)
theorem cw_RX5_91 : ∀ w ∈ ([.methodLink RX5 91 yX5_readsItem, .instanceMethod yX5_readsItem, .selects yX5_readsItem.cls yX5_readsItem yX5_readsItem, .initialized yX5_readsItem.cls, .code yX5_readsItem cX5_readsItem 5 (some .boolean)] : List Cond), w ∈ tb := tb_all [716, 718, 34, 59, 719] (by decide +kernel) (by decide +kernel)
theorem dX5_reads_0 : decode cX5_reads 0 = .ok (.iconst 0, 1) := by decide +kernel
theorem dX5_reads_1 : decode cX5_reads 1 = .ok (.istore_n 1, 1) := by decide +kernel
theorem dX5_reads_2 : decode cX5_reads 2 = .ok (.iload_n 1, 1) := by decide +kernel
theorem dX5_reads_3 : decode cX5_reads 3 = .ok (.bipush 28, 2) := by decide +kernel
theorem dX5_reads_5 : decode cX5_reads 5 = .ok (.if_icmp .ge 32, 3) := by decide +kernel
theorem dX5_reads_8 : decode cX5_reads 8 = .ok (.aload_n 0, 1) := by decide +kernel
theorem dX5_reads_9 : decode cX5_reads 9 = .ok (.getfield 16, 3) := by decide +kernel
theorem dX5_reads_12 : decode cX5_reads 12 = .ok (.iload_n 1, 1) := by decide +kernel
theorem dX5_reads_13 : decode cX5_reads 13 = .ok (.iload_n 1, 1) := by decide +kernel
theorem dX5_reads_14 : decode cX5_reads 14 = .ok (.bipush 18, 2) := by decide +kernel
theorem dX5_reads_16 : decode cX5_reads 16 = .ok (.bipush 25, 2) := by decide +kernel
theorem dX5_reads_18 : decode cX5_reads 18 = .ok (.invokestatic 35, 3) := by decide +kernel
theorem dX5_reads_21 : decode cX5_reads 21 = .ok (.ifCond .eq 8, 3) := by decide +kernel
theorem dX5_reads_24 : decode cX5_reads 24 = .ok (.bipush (-4), 2) := by decide +kernel
theorem dX5_reads_26 : decode cX5_reads 26 = .ok (.goto 4, 3) := by decide +kernel
theorem dX5_reads_29 : decode cX5_reads 29 = .ok (.iconst 0, 1) := by decide +kernel
theorem dX5_reads_30 : decode cX5_reads 30 = .ok (.iastore, 1) := by decide +kernel
theorem dX5_reads_31 : decode cX5_reads 31 = .ok (.iinc 1 1, 3) := by decide +kernel
theorem dX5_reads_34 : decode cX5_reads 34 = .ok (.goto (-32), 3) := by decide +kernel
theorem dX5_reads_37 : decode cX5_reads 37 = .ok (.aload_n 0, 1) := by decide +kernel
theorem dX5_reads_38 : decode cX5_reads 38 = .ok (.iconst 0, 1) := by decide +kernel
theorem dX5_reads_39 : decode cX5_reads 39 = .ok (.putfield 45, 3) := by decide +kernel
theorem dX5_reads_42 : decode cX5_reads 42 = .ok (.aload_n 0, 1) := by decide +kernel
theorem dX5_reads_43 : decode cX5_reads 43 = .ok (.invokevirtual 74, 3) := by decide +kernel
theorem dX5_reads_46 : decode cX5_reads 46 = .ok (.aload_n 0, 1) := by decide +kernel
theorem dX5_reads_47 : decode cX5_reads 47 = .ok (.getfield 58, 3) := by decide +kernel
theorem dX5_reads_50 : decode cX5_reads 50 = .ok (.ifCond .eq 47, 3) := by decide +kernel
theorem dX5_reads_53 : decode cX5_reads 53 = .ok (.aload_n 0, 1) := by decide +kernel
theorem dX5_reads_54 : decode cX5_reads 54 = .ok (.aload_n 0, 1) := by decide +kernel
theorem dX5_reads_55 : decode cX5_reads 55 = .ok (.invokevirtual 88, 3) := by decide +kernel
theorem dX5_reads_58 : decode cX5_reads 58 = .ok (.invokevirtual 91, 3) := by decide +kernel
theorem dX5_reads_61 : decode cX5_reads 61 = .ok (.ifCond .ne 5, 3) := by decide +kernel
theorem dX5_reads_64 : decode cX5_reads 64 = .ok (.iconst 0, 1) := by decide +kernel
theorem dX5_reads_65 : decode cX5_reads 65 = .ok (.ireturn, 1) := by decide +kernel
theorem dX5_reads_66 : decode cX5_reads 66 = .ok (.aload_n 0, 1) := by decide +kernel
theorem dX5_reads_67 : decode cX5_reads 67 = .ok (.invokevirtual 74, 3) := by decide +kernel
theorem dX5_reads_70 : decode cX5_reads 70 = .ok (.aload_n 0, 1) := by decide +kernel
theorem dX5_reads_71 : decode cX5_reads 71 = .ok (.getfield 58, 3) := by decide +kernel
theorem dX5_reads_74 : decode cX5_reads 74 = .ok (.iconst 3, 1) := by decide +kernel
theorem dX5_reads_75 : decode cX5_reads 75 = .ok (.if_icmp .eq 5, 3) := by decide +kernel
theorem dX5_reads_78 : decode cX5_reads 78 = .ok (.iconst 0, 1) := by decide +kernel
theorem dX5_reads_79 : decode cX5_reads 79 = .ok (.ireturn, 1) := by decide +kernel
theorem dX5_reads_80 : decode cX5_reads 80 = .ok (.aload_n 0, 1) := by decide +kernel
theorem dX5_reads_81 : decode cX5_reads 81 = .ok (.getfield 16, 3) := by decide +kernel
theorem dX5_reads_84 : decode cX5_reads 84 = .ok (.iconst 2, 1) := by decide +kernel
theorem dX5_reads_85 : decode cX5_reads 85 = .ok (.dup2, 1) := by decide +kernel
theorem dX5_reads_86 : decode cX5_reads 86 = .ok (.iaload, 1) := by decide +kernel
theorem dX5_reads_87 : decode cX5_reads 87 = .ok (.iconst 1, 1) := by decide +kernel
theorem dX5_reads_88 : decode cX5_reads 88 = .ok (.iadd, 1) := by decide +kernel
theorem dX5_reads_89 : decode cX5_reads 89 = .ok (.iastore, 1) := by decide +kernel
theorem dX5_reads_90 : decode cX5_reads 90 = .ok (.aload_n 0, 1) := by decide +kernel
theorem dX5_reads_91 : decode cX5_reads 91 = .ok (.invokevirtual 74, 3) := by decide +kernel
theorem dX5_reads_94 : decode cX5_reads 94 = .ok (.goto (-48), 3) := by decide +kernel
theorem dX5_reads_97 : decode cX5_reads 97 = .ok (.iconst 1, 1) := by decide +kernel
theorem dX5_reads_98 : decode cX5_reads 98 = .ok (.ireturn, 1) := by decide +kernel
def T_X5_reads (post : PO) : List (Nat × OP) := [(0, o_const 0 1), (1, o_istore 1 2), (2, o_iload 1 3), (3, o_const 28 5), (5, o_icmp (fun x y => y ≤ x) 37 8), (8, o_aload 0 9), (9, o_getf 5 4 12), (12, o_iload 1 13), (13, o_iload 1 14), (14, o_const 18 16), (16, o_const 25 18), (18, o_callS S_X5_in 3 21), (21, o_if (fun x => x = 0) 29 24), (24, o_const (-4) 26), (26, o_goto 30), (29, o_const 0 30), (30, o_ast 0 (fun x => x) 31), (31, o_iinc 1 1 34), (34, o_goto 2), (37, o_aload 0 38), (38, o_const 0 39), (39, o_putI 5 8 42), (42, o_aload 0 43), (43, o_callV 5 S_X5_token 0 46), (46, o_aload 0 47), (47, o_getf 5 9 50), (50, o_if (fun x => x = 0) 97 53), (53, o_aload 0 54), (54, o_aload 0 55), (55, o_callV 5 S_X5_verb 0 58), (58, o_callV 5 S_X5_readsItem 1 61), (61, o_if (fun x => x = 0) 64 66), (64, o_const 0 65), (65, o_zret post), (66, o_aload 0 67), (67, o_callV 5 S_X5_token 0 70), (70, o_aload 0 71), (71, o_getf 5 9 74), (74, o_const 3 75), (75, o_icmp (fun x y => x = y) 80 78), (78, o_const 0 79), (79, o_zret post), (80, o_aload 0 81), (81, o_getf 5 4 84), (84, o_const 2 85), (85, o_dup2 86), (86, o_ald 0 87), (87, o_const 1 88), (88, o_bin (fun x y => x + y) 89), (89, o_ast 0 (fun x => x) 90), (90, o_aload 0 91), (91, o_callV 5 S_X5_token 0 94), (94, o_goto 46), (97, o_const 1 98), (98, o_zret post)]
theorem k_X5_reads_0 (post : PO) : lk (T_X5_reads post) 0 = o_const 0 1 := rfl
theorem k_X5_reads_1 (post : PO) : lk (T_X5_reads post) 1 = o_istore 1 2 := rfl
theorem k_X5_reads_2 (post : PO) : lk (T_X5_reads post) 2 = o_iload 1 3 := rfl
theorem k_X5_reads_3 (post : PO) : lk (T_X5_reads post) 3 = o_const 28 5 := rfl
theorem k_X5_reads_5 (post : PO) : lk (T_X5_reads post) 5 = o_icmp (fun x y => y ≤ x) 37 8 := rfl
theorem k_X5_reads_8 (post : PO) : lk (T_X5_reads post) 8 = o_aload 0 9 := rfl
theorem k_X5_reads_9 (post : PO) : lk (T_X5_reads post) 9 = o_getf 5 4 12 := rfl
theorem k_X5_reads_12 (post : PO) : lk (T_X5_reads post) 12 = o_iload 1 13 := rfl
theorem k_X5_reads_13 (post : PO) : lk (T_X5_reads post) 13 = o_iload 1 14 := rfl
theorem k_X5_reads_14 (post : PO) : lk (T_X5_reads post) 14 = o_const 18 16 := rfl
theorem k_X5_reads_16 (post : PO) : lk (T_X5_reads post) 16 = o_const 25 18 := rfl
theorem k_X5_reads_18 (post : PO) : lk (T_X5_reads post) 18 = o_callS S_X5_in 3 21 := rfl
theorem k_X5_reads_21 (post : PO) : lk (T_X5_reads post) 21 = o_if (fun x => x = 0) 29 24 := rfl
theorem k_X5_reads_24 (post : PO) : lk (T_X5_reads post) 24 = o_const (-4) 26 := rfl
theorem k_X5_reads_26 (post : PO) : lk (T_X5_reads post) 26 = o_goto 30 := rfl
theorem k_X5_reads_29 (post : PO) : lk (T_X5_reads post) 29 = o_const 0 30 := rfl
theorem k_X5_reads_30 (post : PO) : lk (T_X5_reads post) 30 = o_ast 0 (fun x => x) 31 := rfl
theorem k_X5_reads_31 (post : PO) : lk (T_X5_reads post) 31 = o_iinc 1 1 34 := rfl
theorem k_X5_reads_34 (post : PO) : lk (T_X5_reads post) 34 = o_goto 2 := rfl
theorem k_X5_reads_37 (post : PO) : lk (T_X5_reads post) 37 = o_aload 0 38 := rfl
theorem k_X5_reads_38 (post : PO) : lk (T_X5_reads post) 38 = o_const 0 39 := rfl
theorem k_X5_reads_39 (post : PO) : lk (T_X5_reads post) 39 = o_putI 5 8 42 := rfl
theorem k_X5_reads_42 (post : PO) : lk (T_X5_reads post) 42 = o_aload 0 43 := rfl
theorem k_X5_reads_43 (post : PO) : lk (T_X5_reads post) 43 = o_callV 5 S_X5_token 0 46 := rfl
theorem k_X5_reads_46 (post : PO) : lk (T_X5_reads post) 46 = o_aload 0 47 := rfl
theorem k_X5_reads_47 (post : PO) : lk (T_X5_reads post) 47 = o_getf 5 9 50 := rfl
theorem k_X5_reads_50 (post : PO) : lk (T_X5_reads post) 50 = o_if (fun x => x = 0) 97 53 := rfl
theorem k_X5_reads_53 (post : PO) : lk (T_X5_reads post) 53 = o_aload 0 54 := rfl
theorem k_X5_reads_54 (post : PO) : lk (T_X5_reads post) 54 = o_aload 0 55 := rfl
theorem k_X5_reads_55 (post : PO) : lk (T_X5_reads post) 55 = o_callV 5 S_X5_verb 0 58 := rfl
theorem k_X5_reads_58 (post : PO) : lk (T_X5_reads post) 58 = o_callV 5 S_X5_readsItem 1 61 := rfl
theorem k_X5_reads_61 (post : PO) : lk (T_X5_reads post) 61 = o_if (fun x => x = 0) 64 66 := rfl
theorem k_X5_reads_64 (post : PO) : lk (T_X5_reads post) 64 = o_const 0 65 := rfl
theorem k_X5_reads_65 (post : PO) : lk (T_X5_reads post) 65 = o_zret post := rfl
theorem k_X5_reads_66 (post : PO) : lk (T_X5_reads post) 66 = o_aload 0 67 := rfl
theorem k_X5_reads_67 (post : PO) : lk (T_X5_reads post) 67 = o_callV 5 S_X5_token 0 70 := rfl
theorem k_X5_reads_70 (post : PO) : lk (T_X5_reads post) 70 = o_aload 0 71 := rfl
theorem k_X5_reads_71 (post : PO) : lk (T_X5_reads post) 71 = o_getf 5 9 74 := rfl
theorem k_X5_reads_74 (post : PO) : lk (T_X5_reads post) 74 = o_const 3 75 := rfl
theorem k_X5_reads_75 (post : PO) : lk (T_X5_reads post) 75 = o_icmp (fun x y => x = y) 80 78 := rfl
theorem k_X5_reads_78 (post : PO) : lk (T_X5_reads post) 78 = o_const 0 79 := rfl
theorem k_X5_reads_79 (post : PO) : lk (T_X5_reads post) 79 = o_zret post := rfl
theorem k_X5_reads_80 (post : PO) : lk (T_X5_reads post) 80 = o_aload 0 81 := rfl
theorem k_X5_reads_81 (post : PO) : lk (T_X5_reads post) 81 = o_getf 5 4 84 := rfl
theorem k_X5_reads_84 (post : PO) : lk (T_X5_reads post) 84 = o_const 2 85 := rfl
theorem k_X5_reads_85 (post : PO) : lk (T_X5_reads post) 85 = o_dup2 86 := rfl
theorem k_X5_reads_86 (post : PO) : lk (T_X5_reads post) 86 = o_ald 0 87 := rfl
theorem k_X5_reads_87 (post : PO) : lk (T_X5_reads post) 87 = o_const 1 88 := rfl
theorem k_X5_reads_88 (post : PO) : lk (T_X5_reads post) 88 = o_bin (fun x y => x + y) 89 := rfl
theorem k_X5_reads_89 (post : PO) : lk (T_X5_reads post) 89 = o_ast 0 (fun x => x) 90 := rfl
theorem k_X5_reads_90 (post : PO) : lk (T_X5_reads post) 90 = o_aload 0 91 := rfl
theorem k_X5_reads_91 (post : PO) : lk (T_X5_reads post) 91 = o_callV 5 S_X5_token 0 94 := rfl
theorem k_X5_reads_94 (post : PO) : lk (T_X5_reads post) 94 = o_goto 46 := rfl
theorem k_X5_reads_97 (post : PO) : lk (T_X5_reads post) 97 = o_const 1 98 := rfl
theorem k_X5_reads_98 (post : PO) : lk (T_X5_reads post) 98 = o_zret post := rfl
set_option maxRecDepth 100000 in
theorem t_X5_reads {p : Program} {l : Launch} {e : Env} {s : State} {m : MethodId} {args : Array Value} {below : List Frame} {meth : Method} {c : Code} {D : va_G} {dA : Nat → ClassId} {ad : Nat → Nat} (post : PO) (C : CX p s m args meth c cX5_reads 2 yX5_reads.cls D dA ad (AA ad s.heap.size)) (hr : meth.sig.returnType = (some .boolean)) : SndL (WW p l e ({ frames := 6, cells := 0, slots := 0, locals := 130 } : Room) s m args below meth c 0 0 (MQ below (CQ D dA ad post (AA ad s.heap.size)) args s 0 0 (AA ad s.heap.size)) 2 D dA ad (AA ad s.heap.size)) (T_X5_reads post) := by
  refine snd_c (s_iconst C dX5_reads_0 rfl) ?_
  refine snd_c (s_istore_n C rfl (by decide) dX5_reads_1) ?_
  refine snd_c (s_iload_n C rfl dX5_reads_2) ?_
  refine snd_c (s_bipush C dX5_reads_3 rfl) ?_
  refine snd_c (s_icmp_ge C dX5_reads_5 (by decide)) ?_
  refine snd_c (s_aload_n C rfl dX5_reads_8) ?_
  refine snd_c (s_getf C (ci := 5) (j := 4) (T := TX5) rfl inX5 (by decide) fl_RX5_16 dX5_reads_9) ?_
  refine snd_c (s_iload_n C rfl dX5_reads_12) ?_
  refine snd_c (s_iload_n C rfl dX5_reads_13) ?_
  refine snd_c (s_bipush C dX5_reads_14 rfl) ?_
  refine snd_c (s_bipush C dX5_reads_16 rfl) ?_
  refine snd_c (s_callS C c_X5_in cw_RX5_35 ⟨rfl, rfl⟩ ⟨by decide +kernel, by decide +kernel, by decide +kernel⟩ ⟨by decide, by decide⟩ ⟨Nat.zero_le _, Nat.zero_le _⟩ dX5_reads_18) ?_
  refine snd_c (s_if_eq C dX5_reads_21 (by decide)) ?_
  refine snd_c (s_bipush C dX5_reads_24 rfl) ?_
  refine snd_c (s_goto C dX5_reads_26 (by decide)) ?_
  refine snd_c (s_iconst C dX5_reads_29 rfl) ?_
  refine snd_c (s_iast C dX5_reads_30) ?_
  refine snd_c (s_iinc C (by decide) rfl dX5_reads_31) ?_
  refine snd_c (s_goto C dX5_reads_34 (by decide)) ?_
  refine snd_c (s_aload_n C rfl dX5_reads_37) ?_
  refine snd_c (s_iconst C dX5_reads_38 rfl) ?_
  refine snd_c (s_putI C (ci := 5) (j := 8) (T := TX5) tyX5 tyX5_ok nmX5 rfl inX5 (by decide) rfl rfl fl_RX5_45 dX5_reads_39) ?_
  refine snd_c (s_aload_n C rfl dX5_reads_42) ?_
  refine snd_c (s_callV C (ci := 5) c_X5_token rfl cw_RX5_74 ⟨rfl, rfl⟩ ⟨by decide +kernel, by decide +kernel, by decide +kernel⟩ ⟨by decide, by decide⟩ ⟨Nat.zero_le _, Nat.zero_le _⟩ dX5_reads_43) ?_
  refine snd_c (s_aload_n C rfl dX5_reads_46) ?_
  refine snd_c (s_getf C (ci := 5) (j := 9) (T := TX5) rfl inX5 (by decide) fl_RX5_58 dX5_reads_47) ?_
  refine snd_c (s_if_eq C dX5_reads_50 (by decide)) ?_
  refine snd_c (s_aload_n C rfl dX5_reads_53) ?_
  refine snd_c (s_aload_n C rfl dX5_reads_54) ?_
  refine snd_c (s_callV C (ci := 5) c_X5_verb rfl cw_RX5_88 ⟨rfl, rfl⟩ ⟨by decide +kernel, by decide +kernel, by decide +kernel⟩ ⟨by decide, by decide⟩ ⟨Nat.zero_le _, Nat.zero_le _⟩ dX5_reads_55) ?_
  refine snd_c (s_callV C (ci := 5) c_X5_readsItem rfl cw_RX5_91 ⟨rfl, rfl⟩ ⟨by decide +kernel, by decide +kernel, by decide +kernel⟩ ⟨by decide, by decide⟩ ⟨Nat.zero_le _, Nat.zero_le _⟩ dX5_reads_58) ?_
  refine snd_c (s_if_ne C dX5_reads_61 (by decide)) ?_
  refine snd_c (s_iconst C dX5_reads_64 rfl) ?_
  refine snd_c (s_zret C hr ⟨rfl, rfl⟩ dX5_reads_65) ?_
  refine snd_c (s_aload_n C rfl dX5_reads_66) ?_
  refine snd_c (s_callV C (ci := 5) c_X5_token rfl cw_RX5_74 ⟨rfl, rfl⟩ ⟨by decide +kernel, by decide +kernel, by decide +kernel⟩ ⟨by decide, by decide⟩ ⟨Nat.zero_le _, Nat.zero_le _⟩ dX5_reads_67) ?_
  refine snd_c (s_aload_n C rfl dX5_reads_70) ?_
  refine snd_c (s_getf C (ci := 5) (j := 9) (T := TX5) rfl inX5 (by decide) fl_RX5_58 dX5_reads_71) ?_
  refine snd_c (s_iconst C dX5_reads_74 rfl) ?_
  refine snd_c (s_icmp_eq C dX5_reads_75 (by decide)) ?_
  refine snd_c (s_iconst C dX5_reads_78 rfl) ?_
  refine snd_c (s_zret C hr ⟨rfl, rfl⟩ dX5_reads_79) ?_
  refine snd_c (s_aload_n C rfl dX5_reads_80) ?_
  refine snd_c (s_getf C (ci := 5) (j := 4) (T := TX5) rfl inX5 (by decide) fl_RX5_16 dX5_reads_81) ?_
  refine snd_c (s_iconst C dX5_reads_84 rfl) ?_
  refine snd_c (s_dup2 C dX5_reads_85) ?_
  refine snd_c (s_iald C dX5_reads_86) ?_
  refine snd_c (s_iconst C dX5_reads_87 rfl) ?_
  refine snd_c (s_iadd C dX5_reads_88) ?_
  refine snd_c (s_iast C dX5_reads_89) ?_
  refine snd_c (s_aload_n C rfl dX5_reads_90) ?_
  refine snd_c (s_callV C (ci := 5) c_X5_token rfl cw_RX5_74 ⟨rfl, rfl⟩ ⟨by decide +kernel, by decide +kernel, by decide +kernel⟩ ⟨by decide, by decide⟩ ⟨Nat.zero_le _, Nat.zero_le _⟩ dX5_reads_91) ?_
  refine snd_c (s_goto C dX5_reads_94 (by decide)) ?_
  refine snd_c (s_iconst C dX5_reads_97 rfl) ?_
  refine snd_c (s_zret C hr ⟨rfl, rfl⟩ dX5_reads_98) ?_
  exact trivial
theorem in28 : ∀ k, k < 28 → ((18 ≤ nI k ∧ nI k ≤ 25) → d0 k = -4) ∧ (¬ (18 ≤ nI k ∧ nI k ≤ 25) → d0 k = 0) := by decide +kernel
set_option maxRecDepth 100000 in
theorem v_X5_reads : ∀ as M post, S_X5_reads as M post → wsum as ≤ 2 ∧ RUN (T_X5_reads post) 0 (entL 2 as) [] M := by
  rintro as M post ⟨L, t, rfl, hT, hn, hs⟩
  have hT2 := hT.2.1
  have htb : ∀ j, j < L → t j < 256 := fun j hj => (hT.2.2 j hj).2
  have hPR : prs t L 301 0 0 0 d0 = PR t L 0 0 0 d0 := rfl
  rw [hPR] at hn hs
  refine ⟨by show 1 ≤ 2; omega, run_of [2, 46] (fun μ pc lv st M' => st = [] ∧ ((pc = 2 ∧ ∃ i f, i ≤ 28 ∧ (∀ k, k < i → f k = d0 k) ∧ M' = sA 32 f M ∧ 3000 - i = μ ∧ lv = [some (VR 39), some (VI (nI i))]) ∨ (pc = 46 ∧ ∃ p q d M0, frM M M0 ∧ DM M0 d ∧ M' = tkN t L p M0 ∧ p ≤ L ∧ PR t L p 0 q d = PR t L 0 0 0 d0 ∧ 1000 - p = μ ∧ lv = [some (VR 39), none]))) 80 4000 ?_ ?_⟩
  · rintro μ pc lv st M' ⟨rfl, ⟨rfl, i, f, hi, hf, rfl, rfl, rfl⟩ | ⟨rfl, p, q, d, M0, hf0, hD, rfl, hpL, he, rfl, rfl⟩⟩
    · dsimp only [k_X5_reads_0, k_X5_reads_1, k_X5_reads_2, k_X5_reads_3, k_X5_reads_5, k_X5_reads_8, k_X5_reads_9, k_X5_reads_12, k_X5_reads_13, k_X5_reads_14, k_X5_reads_16, k_X5_reads_18, k_X5_reads_21, k_X5_reads_24, k_X5_reads_26, k_X5_reads_29, k_X5_reads_30, k_X5_reads_31, k_X5_reads_34, k_X5_reads_37, k_X5_reads_38, k_X5_reads_39, k_X5_reads_42, k_X5_reads_43, k_X5_reads_46, k_X5_reads_47, k_X5_reads_50, k_X5_reads_53, k_X5_reads_54, k_X5_reads_55, k_X5_reads_58, k_X5_reads_61, k_X5_reads_64, k_X5_reads_65, k_X5_reads_66, k_X5_reads_67, k_X5_reads_70, k_X5_reads_71, k_X5_reads_74, k_X5_reads_75, k_X5_reads_78, k_X5_reads_79, k_X5_reads_80, k_X5_reads_81, k_X5_reads_84, k_X5_reads_85, k_X5_reads_86, k_X5_reads_87, k_X5_reads_88, k_X5_reads_89, k_X5_reads_90, k_X5_reads_91, k_X5_reads_94, k_X5_reads_97, k_X5_reads_98, wp1, wp_s, cutIn, kont, Nat.reduceSub, Nat.reduceAdd, nth, o_const, o_lconst, o_ref, o_iload, o_lload, o_aload, o_istore, o_lstore, o_astore, o_iinc, o_bin, o_div, o_un, o_lbin, o_lsh, o_lcmp, o_i2l, o_l2i, o_if, o_icmp, o_goto, o_dup, o_dup2, o_pop, fav, o_getf, o_putI, o_putZ, o_putL, o_ald, o_ast, o_alen, popn, rst, o_callV, o_callT, o_callS, swx, o_sw, o_ret, o_iret, o_zret, o_cret, o_lret, o_aret, lg, lput, lput2, ls1, isL, entL, wsum, rdI1, rdI2, rdA1, rdA21, rdA22, rdL1, rdL22, rdL21, upN_at, rep, sh_0, F_0_0, F_0_1, F_0_2, F_0_3, F_0_4, F_0_5, F_0_6, F_0_7, F_0_8, sh_1, F_1_0, F_1_1, F_1_2, F_1_3, F_1_4, F_1_5, sh_3, F_3_0, F_3_1, F_3_2, F_3_3, F_3_4, F_3_5, sh_5, F_5_0, F_5_1, F_5_2, F_5_3, F_5_4, F_5_5, F_5_6, F_5_7, F_5_8, sh_12, F_12_0, F_12_1, F_12_2, F_12_3, F_12_4, F_12_5, sh_14, F_14_0, F_14_1, F_14_2, F_14_3, F_14_4, F_14_5, F_14_6, F_14_7, F_14_8, sh_21, F_21_0, F_21_1, F_21_2, F_21_3, F_21_4, F_21_5, F_21_6, F_21_7, F_21_8, sh_28, F_28_0, F_28_1, F_28_2, F_28_3, F_28_4, F_28_5, F_28_6, F_28_7, F_28_8, sh_35, F_35_0, sh_39, F_39_0, F_39_1, F_39_2, F_39_3, F_39_4, F_39_5, F_39_6, F_39_7, F_39_8, F_39_9, F_39_10, F_39_11, F_39_12, F_39_13, A_2, A_4, A_6, A_7, A_8, A_9, A_10, A_11, A_13, A_15, A_16, A_17, A_18, A_19, A_20, A_22, A_23, A_24, A_25, A_26, A_27, A_29, A_30, A_31, A_32, A_33, A_34, A_36, A_37, A_38, A_40, A_41, A_42, A_43, A_44, A_45, A_46, A_47]
      rw [show (28 : Int32) = nI 28 from rfl]
      simp (disch := omega) only [nI_leI, nI_ltI, nI_eq, nI_1, nI_add, one_shl, nI_or, nI_xor, nI_and, bit_0, bit_1, true_or, or_true, true_and, and_true, eq_self, not_true_eq_false, not_false_eq_true, forall_const]
      refine ⟨fun z => ?_, fun z => ⟨nI i, 18, 25, rfl, fun w1 => ?_, fun w1 => ?_⟩⟩
      · have e : i = 28 := by omega
        subst e
        refine ⟨L, t, 0, rfl, TT_of hT rfl rfl, rfl, by omega, ?_⟩
        dsimp only [k_X5_reads_0, k_X5_reads_1, k_X5_reads_2, k_X5_reads_3, k_X5_reads_5, k_X5_reads_8, k_X5_reads_9, k_X5_reads_12, k_X5_reads_13, k_X5_reads_14, k_X5_reads_16, k_X5_reads_18, k_X5_reads_21, k_X5_reads_24, k_X5_reads_26, k_X5_reads_29, k_X5_reads_30, k_X5_reads_31, k_X5_reads_34, k_X5_reads_37, k_X5_reads_38, k_X5_reads_39, k_X5_reads_42, k_X5_reads_43, k_X5_reads_46, k_X5_reads_47, k_X5_reads_50, k_X5_reads_53, k_X5_reads_54, k_X5_reads_55, k_X5_reads_58, k_X5_reads_61, k_X5_reads_64, k_X5_reads_65, k_X5_reads_66, k_X5_reads_67, k_X5_reads_70, k_X5_reads_71, k_X5_reads_74, k_X5_reads_75, k_X5_reads_78, k_X5_reads_79, k_X5_reads_80, k_X5_reads_81, k_X5_reads_84, k_X5_reads_85, k_X5_reads_86, k_X5_reads_87, k_X5_reads_88, k_X5_reads_89, k_X5_reads_90, k_X5_reads_91, k_X5_reads_94, k_X5_reads_97, k_X5_reads_98, wp1, wp_s, cutIn, kont, Nat.reduceSub, Nat.reduceAdd, nth, o_const, o_lconst, o_ref, o_iload, o_lload, o_aload, o_istore, o_lstore, o_astore, o_iinc, o_bin, o_div, o_un, o_lbin, o_lsh, o_lcmp, o_i2l, o_l2i, o_if, o_icmp, o_goto, o_dup, o_dup2, o_pop, fav, o_getf, o_putI, o_putZ, o_putL, o_ald, o_ast, o_alen, popn, rst, o_callV, o_callT, o_callS, swx, o_sw, o_ret, o_iret, o_zret, o_cret, o_lret, o_aret, lg, lput, lput2, ls1, isL, entL, wsum, rdI1, rdI2, rdA1, rdA21, rdA22, rdL1, rdL22, rdL21, upN_at, rep, sh_0, F_0_0, F_0_1, F_0_2, F_0_3, F_0_4, F_0_5, F_0_6, F_0_7, F_0_8, sh_1, F_1_0, F_1_1, F_1_2, F_1_3, F_1_4, F_1_5, sh_3, F_3_0, F_3_1, F_3_2, F_3_3, F_3_4, F_3_5, sh_5, F_5_0, F_5_1, F_5_2, F_5_3, F_5_4, F_5_5, F_5_6, F_5_7, F_5_8, sh_12, F_12_0, F_12_1, F_12_2, F_12_3, F_12_4, F_12_5, sh_14, F_14_0, F_14_1, F_14_2, F_14_3, F_14_4, F_14_5, F_14_6, F_14_7, F_14_8, sh_21, F_21_0, F_21_1, F_21_2, F_21_3, F_21_4, F_21_5, F_21_6, F_21_7, F_21_8, sh_28, F_28_0, F_28_1, F_28_2, F_28_3, F_28_4, F_28_5, F_28_6, F_28_7, F_28_8, sh_35, F_35_0, sh_39, F_39_0, F_39_1, F_39_2, F_39_3, F_39_4, F_39_5, F_39_6, F_39_7, F_39_8, F_39_9, F_39_10, F_39_11, F_39_12, F_39_13, A_2, A_4, A_6, A_7, A_8, A_9, A_10, A_11, A_13, A_15, A_16, A_17, A_18, A_19, A_20, A_22, A_23, A_24, A_25, A_26, A_27, A_29, A_30, A_31, A_32, A_33, A_34, A_36, A_37, A_38, A_40, A_41, A_42, A_43, A_44, A_45, A_46, A_47]
        refine cut _ _ ⟨rfl, Or.inr ⟨rfl, 0, 0, d0, sI 26 0 (sA 32 f M), frM_I (frM_A (frM_rf M) f) (by omega) _, ⟨hf, 0, 0, 0, by omega, by omega, by omega, rfl, rfl, rfl⟩, rfl, by omega, rfl, rfl, rfl⟩⟩ (by omega) ⟨rfl, trivial⟩
      · have e := (in28 i (by omega)).1 w1
        dsimp only [k_X5_reads_0, k_X5_reads_1, k_X5_reads_2, k_X5_reads_3, k_X5_reads_5, k_X5_reads_8, k_X5_reads_9, k_X5_reads_12, k_X5_reads_13, k_X5_reads_14, k_X5_reads_16, k_X5_reads_18, k_X5_reads_21, k_X5_reads_24, k_X5_reads_26, k_X5_reads_29, k_X5_reads_30, k_X5_reads_31, k_X5_reads_34, k_X5_reads_37, k_X5_reads_38, k_X5_reads_39, k_X5_reads_42, k_X5_reads_43, k_X5_reads_46, k_X5_reads_47, k_X5_reads_50, k_X5_reads_53, k_X5_reads_54, k_X5_reads_55, k_X5_reads_58, k_X5_reads_61, k_X5_reads_64, k_X5_reads_65, k_X5_reads_66, k_X5_reads_67, k_X5_reads_70, k_X5_reads_71, k_X5_reads_74, k_X5_reads_75, k_X5_reads_78, k_X5_reads_79, k_X5_reads_80, k_X5_reads_81, k_X5_reads_84, k_X5_reads_85, k_X5_reads_86, k_X5_reads_87, k_X5_reads_88, k_X5_reads_89, k_X5_reads_90, k_X5_reads_91, k_X5_reads_94, k_X5_reads_97, k_X5_reads_98, wp1, wp_s, cutIn, kont, Nat.reduceSub, Nat.reduceAdd, nth, o_const, o_lconst, o_ref, o_iload, o_lload, o_aload, o_istore, o_lstore, o_astore, o_iinc, o_bin, o_div, o_un, o_lbin, o_lsh, o_lcmp, o_i2l, o_l2i, o_if, o_icmp, o_goto, o_dup, o_dup2, o_pop, fav, o_getf, o_putI, o_putZ, o_putL, o_ald, o_ast, o_alen, popn, rst, o_callV, o_callT, o_callS, swx, o_sw, o_ret, o_iret, o_zret, o_cret, o_lret, o_aret, lg, lput, lput2, ls1, isL, entL, wsum, rdI1, rdI2, rdA1, rdA21, rdA22, rdL1, rdL22, rdL21, upN_at, rep, sh_0, F_0_0, F_0_1, F_0_2, F_0_3, F_0_4, F_0_5, F_0_6, F_0_7, F_0_8, sh_1, F_1_0, F_1_1, F_1_2, F_1_3, F_1_4, F_1_5, sh_3, F_3_0, F_3_1, F_3_2, F_3_3, F_3_4, F_3_5, sh_5, F_5_0, F_5_1, F_5_2, F_5_3, F_5_4, F_5_5, F_5_6, F_5_7, F_5_8, sh_12, F_12_0, F_12_1, F_12_2, F_12_3, F_12_4, F_12_5, sh_14, F_14_0, F_14_1, F_14_2, F_14_3, F_14_4, F_14_5, F_14_6, F_14_7, F_14_8, sh_21, F_21_0, F_21_1, F_21_2, F_21_3, F_21_4, F_21_5, F_21_6, F_21_7, F_21_8, sh_28, F_28_0, F_28_1, F_28_2, F_28_3, F_28_4, F_28_5, F_28_6, F_28_7, F_28_8, sh_35, F_35_0, sh_39, F_39_0, F_39_1, F_39_2, F_39_3, F_39_4, F_39_5, F_39_6, F_39_7, F_39_8, F_39_9, F_39_10, F_39_11, F_39_12, F_39_13, A_2, A_4, A_6, A_7, A_8, A_9, A_10, A_11, A_13, A_15, A_16, A_17, A_18, A_19, A_20, A_22, A_23, A_24, A_25, A_26, A_27, A_29, A_30, A_31, A_32, A_33, A_34, A_36, A_37, A_38, A_40, A_41, A_42, A_43, A_44, A_45, A_46, A_47]
        simp (config := { decide := true }) only [true_implies, false_implies, and_true, true_and, not_true_eq_false, not_false_eq_true, forall_const]
        refine ⟨i, by omega, rfl, cut _ _ ⟨rfl, Or.inl ⟨rfl, i + 1, upd f i (-4), by omega, fun k hk => ?_, ?_, rfl, rfl⟩⟩ (by omega) ⟨rfl, by first | rfl | exact vi_eq (nI_1 _), trivial⟩⟩
        · by_cases g : k = i
          · rw [g, upd_s, e]
          · rw [upd_n _ _ g]; exact hf k (by omega)
        · rw [sA_sA]
      · have e := (in28 i (by omega)).2 w1
        dsimp only [k_X5_reads_0, k_X5_reads_1, k_X5_reads_2, k_X5_reads_3, k_X5_reads_5, k_X5_reads_8, k_X5_reads_9, k_X5_reads_12, k_X5_reads_13, k_X5_reads_14, k_X5_reads_16, k_X5_reads_18, k_X5_reads_21, k_X5_reads_24, k_X5_reads_26, k_X5_reads_29, k_X5_reads_30, k_X5_reads_31, k_X5_reads_34, k_X5_reads_37, k_X5_reads_38, k_X5_reads_39, k_X5_reads_42, k_X5_reads_43, k_X5_reads_46, k_X5_reads_47, k_X5_reads_50, k_X5_reads_53, k_X5_reads_54, k_X5_reads_55, k_X5_reads_58, k_X5_reads_61, k_X5_reads_64, k_X5_reads_65, k_X5_reads_66, k_X5_reads_67, k_X5_reads_70, k_X5_reads_71, k_X5_reads_74, k_X5_reads_75, k_X5_reads_78, k_X5_reads_79, k_X5_reads_80, k_X5_reads_81, k_X5_reads_84, k_X5_reads_85, k_X5_reads_86, k_X5_reads_87, k_X5_reads_88, k_X5_reads_89, k_X5_reads_90, k_X5_reads_91, k_X5_reads_94, k_X5_reads_97, k_X5_reads_98, wp1, wp_s, cutIn, kont, Nat.reduceSub, Nat.reduceAdd, nth, o_const, o_lconst, o_ref, o_iload, o_lload, o_aload, o_istore, o_lstore, o_astore, o_iinc, o_bin, o_div, o_un, o_lbin, o_lsh, o_lcmp, o_i2l, o_l2i, o_if, o_icmp, o_goto, o_dup, o_dup2, o_pop, fav, o_getf, o_putI, o_putZ, o_putL, o_ald, o_ast, o_alen, popn, rst, o_callV, o_callT, o_callS, swx, o_sw, o_ret, o_iret, o_zret, o_cret, o_lret, o_aret, lg, lput, lput2, ls1, isL, entL, wsum, rdI1, rdI2, rdA1, rdA21, rdA22, rdL1, rdL22, rdL21, upN_at, rep, sh_0, F_0_0, F_0_1, F_0_2, F_0_3, F_0_4, F_0_5, F_0_6, F_0_7, F_0_8, sh_1, F_1_0, F_1_1, F_1_2, F_1_3, F_1_4, F_1_5, sh_3, F_3_0, F_3_1, F_3_2, F_3_3, F_3_4, F_3_5, sh_5, F_5_0, F_5_1, F_5_2, F_5_3, F_5_4, F_5_5, F_5_6, F_5_7, F_5_8, sh_12, F_12_0, F_12_1, F_12_2, F_12_3, F_12_4, F_12_5, sh_14, F_14_0, F_14_1, F_14_2, F_14_3, F_14_4, F_14_5, F_14_6, F_14_7, F_14_8, sh_21, F_21_0, F_21_1, F_21_2, F_21_3, F_21_4, F_21_5, F_21_6, F_21_7, F_21_8, sh_28, F_28_0, F_28_1, F_28_2, F_28_3, F_28_4, F_28_5, F_28_6, F_28_7, F_28_8, sh_35, F_35_0, sh_39, F_39_0, F_39_1, F_39_2, F_39_3, F_39_4, F_39_5, F_39_6, F_39_7, F_39_8, F_39_9, F_39_10, F_39_11, F_39_12, F_39_13, A_2, A_4, A_6, A_7, A_8, A_9, A_10, A_11, A_13, A_15, A_16, A_17, A_18, A_19, A_20, A_22, A_23, A_24, A_25, A_26, A_27, A_29, A_30, A_31, A_32, A_33, A_34, A_36, A_37, A_38, A_40, A_41, A_42, A_43, A_44, A_45, A_46, A_47]
        simp (config := { decide := true }) only [true_implies, false_implies, and_true, true_and, not_true_eq_false, not_false_eq_true, forall_const]
        refine ⟨i, by omega, rfl, cut _ _ ⟨rfl, Or.inl ⟨rfl, i + 1, upd f i 0, by omega, fun k hk => ?_, ?_, rfl, rfl⟩⟩ (by omega) ⟨rfl, by first | rfl | exact vi_eq (nI_1 _), trivial⟩⟩
        · by_cases g : k = i
          · rw [g, upd_s, e]
          · rw [upd_n _ _ g]; exact hf k (by omega)
        · rw [sA_sA]
    · have hT0 := frM_TT hf0 hT
      have hf1 : frM M (tkN t L p M0) := frM_N hf0 t L p
      have r27 : (tkN t L p M0).1 27 = srA t L (tkS t L p) := rfl
      dsimp only [k_X5_reads_0, k_X5_reads_1, k_X5_reads_2, k_X5_reads_3, k_X5_reads_5, k_X5_reads_8, k_X5_reads_9, k_X5_reads_12, k_X5_reads_13, k_X5_reads_14, k_X5_reads_16, k_X5_reads_18, k_X5_reads_21, k_X5_reads_24, k_X5_reads_26, k_X5_reads_29, k_X5_reads_30, k_X5_reads_31, k_X5_reads_34, k_X5_reads_37, k_X5_reads_38, k_X5_reads_39, k_X5_reads_42, k_X5_reads_43, k_X5_reads_46, k_X5_reads_47, k_X5_reads_50, k_X5_reads_53, k_X5_reads_54, k_X5_reads_55, k_X5_reads_58, k_X5_reads_61, k_X5_reads_64, k_X5_reads_65, k_X5_reads_66, k_X5_reads_67, k_X5_reads_70, k_X5_reads_71, k_X5_reads_74, k_X5_reads_75, k_X5_reads_78, k_X5_reads_79, k_X5_reads_80, k_X5_reads_81, k_X5_reads_84, k_X5_reads_85, k_X5_reads_86, k_X5_reads_87, k_X5_reads_88, k_X5_reads_89, k_X5_reads_90, k_X5_reads_91, k_X5_reads_94, k_X5_reads_97, k_X5_reads_98, wp1, wp_s, cutIn, kont, Nat.reduceSub, Nat.reduceAdd, nth, o_const, o_lconst, o_ref, o_iload, o_lload, o_aload, o_istore, o_lstore, o_astore, o_iinc, o_bin, o_div, o_un, o_lbin, o_lsh, o_lcmp, o_i2l, o_l2i, o_if, o_icmp, o_goto, o_dup, o_dup2, o_pop, fav, o_getf, o_putI, o_putZ, o_putL, o_ald, o_ast, o_alen, popn, rst, o_callV, o_callT, o_callS, swx, o_sw, o_ret, o_iret, o_zret, o_cret, o_lret, o_aret, lg, lput, lput2, ls1, isL, entL, wsum, rdI1, rdI2, rdA1, rdA21, rdA22, rdL1, rdL22, rdL21, upN_at, rep, sh_0, F_0_0, F_0_1, F_0_2, F_0_3, F_0_4, F_0_5, F_0_6, F_0_7, F_0_8, sh_1, F_1_0, F_1_1, F_1_2, F_1_3, F_1_4, F_1_5, sh_3, F_3_0, F_3_1, F_3_2, F_3_3, F_3_4, F_3_5, sh_5, F_5_0, F_5_1, F_5_2, F_5_3, F_5_4, F_5_5, F_5_6, F_5_7, F_5_8, sh_12, F_12_0, F_12_1, F_12_2, F_12_3, F_12_4, F_12_5, sh_14, F_14_0, F_14_1, F_14_2, F_14_3, F_14_4, F_14_5, F_14_6, F_14_7, F_14_8, sh_21, F_21_0, F_21_1, F_21_2, F_21_3, F_21_4, F_21_5, F_21_6, F_21_7, F_21_8, sh_28, F_28_0, F_28_1, F_28_2, F_28_3, F_28_4, F_28_5, F_28_6, F_28_7, F_28_8, sh_35, F_35_0, sh_39, F_39_0, F_39_1, F_39_2, F_39_3, F_39_4, F_39_5, F_39_6, F_39_7, F_39_8, F_39_9, F_39_10, F_39_11, F_39_12, F_39_13, A_2, A_4, A_6, A_7, A_8, A_9, A_10, A_11, A_13, A_15, A_16, A_17, A_18, A_19, A_20, A_22, A_23, A_24, A_25, A_26, A_27, A_29, A_30, A_31, A_32, A_33, A_34, A_36, A_37, A_38, A_40, A_41, A_42, A_43, A_44, A_45, A_46, A_47]
      rw [r27]
      refine ⟨fun z => ?_, fun z => ⟨L, t, p, M0, rfl, hT0, by omega, rfl, ?_⟩⟩
      · have hk := tk_stop.2.1.mpr z
        rw [PR_0 hpL hT2 hk, if_pos rfl] at he
        exact ⟨Or.inr rfl, hs d he.symm _ hf1 (DM_of hD rfl)⟩
      · have hk : tkK t L p ≠ 0 := fun w => z (tk_stop.2.1.mp w)
        dsimp only [k_X5_reads_0, k_X5_reads_1, k_X5_reads_2, k_X5_reads_3, k_X5_reads_5, k_X5_reads_8, k_X5_reads_9, k_X5_reads_12, k_X5_reads_13, k_X5_reads_14, k_X5_reads_16, k_X5_reads_18, k_X5_reads_21, k_X5_reads_24, k_X5_reads_26, k_X5_reads_29, k_X5_reads_30, k_X5_reads_31, k_X5_reads_34, k_X5_reads_37, k_X5_reads_38, k_X5_reads_39, k_X5_reads_42, k_X5_reads_43, k_X5_reads_46, k_X5_reads_47, k_X5_reads_50, k_X5_reads_53, k_X5_reads_54, k_X5_reads_55, k_X5_reads_58, k_X5_reads_61, k_X5_reads_64, k_X5_reads_65, k_X5_reads_66, k_X5_reads_67, k_X5_reads_70, k_X5_reads_71, k_X5_reads_74, k_X5_reads_75, k_X5_reads_78, k_X5_reads_79, k_X5_reads_80, k_X5_reads_81, k_X5_reads_84, k_X5_reads_85, k_X5_reads_86, k_X5_reads_87, k_X5_reads_88, k_X5_reads_89, k_X5_reads_90, k_X5_reads_91, k_X5_reads_94, k_X5_reads_97, k_X5_reads_98, wp1, wp_s, cutIn, kont, Nat.reduceSub, Nat.reduceAdd, nth, o_const, o_lconst, o_ref, o_iload, o_lload, o_aload, o_istore, o_lstore, o_astore, o_iinc, o_bin, o_div, o_un, o_lbin, o_lsh, o_lcmp, o_i2l, o_l2i, o_if, o_icmp, o_goto, o_dup, o_dup2, o_pop, fav, o_getf, o_putI, o_putZ, o_putL, o_ald, o_ast, o_alen, popn, rst, o_callV, o_callT, o_callS, swx, o_sw, o_ret, o_iret, o_zret, o_cret, o_lret, o_aret, lg, lput, lput2, ls1, isL, entL, wsum, rdI1, rdI2, rdA1, rdA21, rdA22, rdL1, rdL22, rdL21, upN_at, rep, sh_0, F_0_0, F_0_1, F_0_2, F_0_3, F_0_4, F_0_5, F_0_6, F_0_7, F_0_8, sh_1, F_1_0, F_1_1, F_1_2, F_1_3, F_1_4, F_1_5, sh_3, F_3_0, F_3_1, F_3_2, F_3_3, F_3_4, F_3_5, sh_5, F_5_0, F_5_1, F_5_2, F_5_3, F_5_4, F_5_5, F_5_6, F_5_7, F_5_8, sh_12, F_12_0, F_12_1, F_12_2, F_12_3, F_12_4, F_12_5, sh_14, F_14_0, F_14_1, F_14_2, F_14_3, F_14_4, F_14_5, F_14_6, F_14_7, F_14_8, sh_21, F_21_0, F_21_1, F_21_2, F_21_3, F_21_4, F_21_5, F_21_6, F_21_7, F_21_8, sh_28, F_28_0, F_28_1, F_28_2, F_28_3, F_28_4, F_28_5, F_28_6, F_28_7, F_28_8, sh_35, F_35_0, sh_39, F_39_0, F_39_1, F_39_2, F_39_3, F_39_4, F_39_5, F_39_6, F_39_7, F_39_8, F_39_9, F_39_10, F_39_11, F_39_12, F_39_13, A_2, A_4, A_6, A_7, A_8, A_9, A_10, A_11, A_13, A_15, A_16, A_17, A_18, A_19, A_20, A_22, A_23, A_24, A_25, A_26, A_27, A_29, A_30, A_31, A_32, A_33, A_34, A_36, A_37, A_38, A_40, A_41, A_42, A_43, A_44, A_45, A_46, A_47]
        refine ⟨L, t, p, q, d, M0, rfl, hT0, hpL, rfl, hD, hk, fun s e M2 hf2 hm => ?_, fun p2 q2 d2 b1 b2 e M2 hf2 hm hD2 => ?_⟩
        · dsimp only [k_X5_reads_0, k_X5_reads_1, k_X5_reads_2, k_X5_reads_3, k_X5_reads_5, k_X5_reads_8, k_X5_reads_9, k_X5_reads_12, k_X5_reads_13, k_X5_reads_14, k_X5_reads_16, k_X5_reads_18, k_X5_reads_21, k_X5_reads_24, k_X5_reads_26, k_X5_reads_29, k_X5_reads_30, k_X5_reads_31, k_X5_reads_34, k_X5_reads_37, k_X5_reads_38, k_X5_reads_39, k_X5_reads_42, k_X5_reads_43, k_X5_reads_46, k_X5_reads_47, k_X5_reads_50, k_X5_reads_53, k_X5_reads_54, k_X5_reads_55, k_X5_reads_58, k_X5_reads_61, k_X5_reads_64, k_X5_reads_65, k_X5_reads_66, k_X5_reads_67, k_X5_reads_70, k_X5_reads_71, k_X5_reads_74, k_X5_reads_75, k_X5_reads_78, k_X5_reads_79, k_X5_reads_80, k_X5_reads_81, k_X5_reads_84, k_X5_reads_85, k_X5_reads_86, k_X5_reads_87, k_X5_reads_88, k_X5_reads_89, k_X5_reads_90, k_X5_reads_91, k_X5_reads_94, k_X5_reads_97, k_X5_reads_98, wp1, wp_s, cutIn, kont, Nat.reduceSub, Nat.reduceAdd, nth, o_const, o_lconst, o_ref, o_iload, o_lload, o_aload, o_istore, o_lstore, o_astore, o_iinc, o_bin, o_div, o_un, o_lbin, o_lsh, o_lcmp, o_i2l, o_l2i, o_if, o_icmp, o_goto, o_dup, o_dup2, o_pop, fav, o_getf, o_putI, o_putZ, o_putL, o_ald, o_ast, o_alen, popn, rst, o_callV, o_callT, o_callS, swx, o_sw, o_ret, o_iret, o_zret, o_cret, o_lret, o_aret, lg, lput, lput2, ls1, isL, entL, wsum, rdI1, rdI2, rdA1, rdA21, rdA22, rdL1, rdL22, rdL21, upN_at, rep, sh_0, F_0_0, F_0_1, F_0_2, F_0_3, F_0_4, F_0_5, F_0_6, F_0_7, F_0_8, sh_1, F_1_0, F_1_1, F_1_2, F_1_3, F_1_4, F_1_5, sh_3, F_3_0, F_3_1, F_3_2, F_3_3, F_3_4, F_3_5, sh_5, F_5_0, F_5_1, F_5_2, F_5_3, F_5_4, F_5_5, F_5_6, F_5_7, F_5_8, sh_12, F_12_0, F_12_1, F_12_2, F_12_3, F_12_4, F_12_5, sh_14, F_14_0, F_14_1, F_14_2, F_14_3, F_14_4, F_14_5, F_14_6, F_14_7, F_14_8, sh_21, F_21_0, F_21_1, F_21_2, F_21_3, F_21_4, F_21_5, F_21_6, F_21_7, F_21_8, sh_28, F_28_0, F_28_1, F_28_2, F_28_3, F_28_4, F_28_5, F_28_6, F_28_7, F_28_8, sh_35, F_35_0, sh_39, F_39_0, F_39_1, F_39_2, F_39_3, F_39_4, F_39_5, F_39_6, F_39_7, F_39_8, F_39_9, F_39_10, F_39_11, F_39_12, F_39_13, A_2, A_4, A_6, A_7, A_8, A_9, A_10, A_11, A_13, A_15, A_16, A_17, A_18, A_19, A_20, A_22, A_23, A_24, A_25, A_26, A_27, A_29, A_30, A_31, A_32, A_33, A_34, A_36, A_37, A_38, A_40, A_41, A_42, A_43, A_44, A_45, A_46, A_47]
          simp (config := { decide := true }) only [true_implies, false_implies, and_true, true_and, not_true_eq_false, not_false_eq_true, forall_const]
          exact hn s (he.symm.trans e) M2 (frM_tr hf1 hf2) hm
        · have hf3 := frM_tr hf1 hf2
          have e2 := he.symm.trans e
          dsimp only [k_X5_reads_0, k_X5_reads_1, k_X5_reads_2, k_X5_reads_3, k_X5_reads_5, k_X5_reads_8, k_X5_reads_9, k_X5_reads_12, k_X5_reads_13, k_X5_reads_14, k_X5_reads_16, k_X5_reads_18, k_X5_reads_21, k_X5_reads_24, k_X5_reads_26, k_X5_reads_29, k_X5_reads_30, k_X5_reads_31, k_X5_reads_34, k_X5_reads_37, k_X5_reads_38, k_X5_reads_39, k_X5_reads_42, k_X5_reads_43, k_X5_reads_46, k_X5_reads_47, k_X5_reads_50, k_X5_reads_53, k_X5_reads_54, k_X5_reads_55, k_X5_reads_58, k_X5_reads_61, k_X5_reads_64, k_X5_reads_65, k_X5_reads_66, k_X5_reads_67, k_X5_reads_70, k_X5_reads_71, k_X5_reads_74, k_X5_reads_75, k_X5_reads_78, k_X5_reads_79, k_X5_reads_80, k_X5_reads_81, k_X5_reads_84, k_X5_reads_85, k_X5_reads_86, k_X5_reads_87, k_X5_reads_88, k_X5_reads_89, k_X5_reads_90, k_X5_reads_91, k_X5_reads_94, k_X5_reads_97, k_X5_reads_98, wp1, wp_s, cutIn, kont, Nat.reduceSub, Nat.reduceAdd, nth, o_const, o_lconst, o_ref, o_iload, o_lload, o_aload, o_istore, o_lstore, o_astore, o_iinc, o_bin, o_div, o_un, o_lbin, o_lsh, o_lcmp, o_i2l, o_l2i, o_if, o_icmp, o_goto, o_dup, o_dup2, o_pop, fav, o_getf, o_putI, o_putZ, o_putL, o_ald, o_ast, o_alen, popn, rst, o_callV, o_callT, o_callS, swx, o_sw, o_ret, o_iret, o_zret, o_cret, o_lret, o_aret, lg, lput, lput2, ls1, isL, entL, wsum, rdI1, rdI2, rdA1, rdA21, rdA22, rdL1, rdL22, rdL21, upN_at, rep, sh_0, F_0_0, F_0_1, F_0_2, F_0_3, F_0_4, F_0_5, F_0_6, F_0_7, F_0_8, sh_1, F_1_0, F_1_1, F_1_2, F_1_3, F_1_4, F_1_5, sh_3, F_3_0, F_3_1, F_3_2, F_3_3, F_3_4, F_3_5, sh_5, F_5_0, F_5_1, F_5_2, F_5_3, F_5_4, F_5_5, F_5_6, F_5_7, F_5_8, sh_12, F_12_0, F_12_1, F_12_2, F_12_3, F_12_4, F_12_5, sh_14, F_14_0, F_14_1, F_14_2, F_14_3, F_14_4, F_14_5, F_14_6, F_14_7, F_14_8, sh_21, F_21_0, F_21_1, F_21_2, F_21_3, F_21_4, F_21_5, F_21_6, F_21_7, F_21_8, sh_28, F_28_0, F_28_1, F_28_2, F_28_3, F_28_4, F_28_5, F_28_6, F_28_7, F_28_8, sh_35, F_35_0, sh_39, F_39_0, F_39_1, F_39_2, F_39_3, F_39_4, F_39_5, F_39_6, F_39_7, F_39_8, F_39_9, F_39_10, F_39_11, F_39_12, F_39_13, A_2, A_4, A_6, A_7, A_8, A_9, A_10, A_11, A_13, A_15, A_16, A_17, A_18, A_19, A_20, A_22, A_23, A_24, A_25, A_26, A_27, A_29, A_30, A_31, A_32, A_33, A_34, A_36, A_37, A_38, A_40, A_41, A_42, A_43, A_44, A_45, A_46, A_47]
          simp (config := { decide := true }) only [true_implies, false_implies, and_true, true_and, not_true_eq_false, not_false_eq_true, forall_const]
          refine ⟨L, t, p2, rfl, frM_TT hf3 hT, hm, by omega, ?_⟩
          have r27' : (tkN t L p2 M2).1 27 = srA t L (tkS t L p2) := rfl
          have hst : ∀ k v, stp 1 q2 d2 k v = if k = 1 then some (0, q2, d2) else none := fun k v => rfl
          dsimp only [k_X5_reads_0, k_X5_reads_1, k_X5_reads_2, k_X5_reads_3, k_X5_reads_5, k_X5_reads_8, k_X5_reads_9, k_X5_reads_12, k_X5_reads_13, k_X5_reads_14, k_X5_reads_16, k_X5_reads_18, k_X5_reads_21, k_X5_reads_24, k_X5_reads_26, k_X5_reads_29, k_X5_reads_30, k_X5_reads_31, k_X5_reads_34, k_X5_reads_37, k_X5_reads_38, k_X5_reads_39, k_X5_reads_42, k_X5_reads_43, k_X5_reads_46, k_X5_reads_47, k_X5_reads_50, k_X5_reads_53, k_X5_reads_54, k_X5_reads_55, k_X5_reads_58, k_X5_reads_61, k_X5_reads_64, k_X5_reads_65, k_X5_reads_66, k_X5_reads_67, k_X5_reads_70, k_X5_reads_71, k_X5_reads_74, k_X5_reads_75, k_X5_reads_78, k_X5_reads_79, k_X5_reads_80, k_X5_reads_81, k_X5_reads_84, k_X5_reads_85, k_X5_reads_86, k_X5_reads_87, k_X5_reads_88, k_X5_reads_89, k_X5_reads_90, k_X5_reads_91, k_X5_reads_94, k_X5_reads_97, k_X5_reads_98, wp1, wp_s, cutIn, kont, Nat.reduceSub, Nat.reduceAdd, nth, o_const, o_lconst, o_ref, o_iload, o_lload, o_aload, o_istore, o_lstore, o_astore, o_iinc, o_bin, o_div, o_un, o_lbin, o_lsh, o_lcmp, o_i2l, o_l2i, o_if, o_icmp, o_goto, o_dup, o_dup2, o_pop, fav, o_getf, o_putI, o_putZ, o_putL, o_ald, o_ast, o_alen, popn, rst, o_callV, o_callT, o_callS, swx, o_sw, o_ret, o_iret, o_zret, o_cret, o_lret, o_aret, lg, lput, lput2, ls1, isL, entL, wsum, rdI1, rdI2, rdA1, rdA21, rdA22, rdL1, rdL22, rdL21, upN_at, rep, sh_0, F_0_0, F_0_1, F_0_2, F_0_3, F_0_4, F_0_5, F_0_6, F_0_7, F_0_8, sh_1, F_1_0, F_1_1, F_1_2, F_1_3, F_1_4, F_1_5, sh_3, F_3_0, F_3_1, F_3_2, F_3_3, F_3_4, F_3_5, sh_5, F_5_0, F_5_1, F_5_2, F_5_3, F_5_4, F_5_5, F_5_6, F_5_7, F_5_8, sh_12, F_12_0, F_12_1, F_12_2, F_12_3, F_12_4, F_12_5, sh_14, F_14_0, F_14_1, F_14_2, F_14_3, F_14_4, F_14_5, F_14_6, F_14_7, F_14_8, sh_21, F_21_0, F_21_1, F_21_2, F_21_3, F_21_4, F_21_5, F_21_6, F_21_7, F_21_8, sh_28, F_28_0, F_28_1, F_28_2, F_28_3, F_28_4, F_28_5, F_28_6, F_28_7, F_28_8, sh_35, F_35_0, sh_39, F_39_0, F_39_1, F_39_2, F_39_3, F_39_4, F_39_5, F_39_6, F_39_7, F_39_8, F_39_9, F_39_10, F_39_11, F_39_12, F_39_13, A_2, A_4, A_6, A_7, A_8, A_9, A_10, A_11, A_13, A_15, A_16, A_17, A_18, A_19, A_20, A_22, A_23, A_24, A_25, A_26, A_27, A_29, A_30, A_31, A_32, A_33, A_34, A_36, A_37, A_38, A_40, A_41, A_42, A_43, A_44, A_45, A_46, A_47]
          rw [r27']
          refine ⟨fun z2 => ?_, fun z2 => ?_⟩
          · have hk1 := tk_stop.1.mpr z2
            have hs1 := hst (tkK t L p2) (tkV t L p2 0)
            rw [if_pos hk1] at hs1
            obtain ⟨w1, w2, w3⟩ := PR_s b2 hT2 (by rw [hk1]; decide) hs1
            rw [if_pos hk1] at w1
            dsimp only at w1
            rw [tk_stop.2.2 hk1] at w1 w2 w3
            have hd2 := hD2.1
            refine ⟨2, by omega, rfl, 2, by omega, rfl, ?_⟩
            have hf4 : frM M (sA 32 (upd ((tkN t L p2 M2).2.2 32) 2 ((tkN t L p2 M2).2.2 32 2 + 1)) (tkN t L p2 M2)) := frM_A (frM_N hf3 t L p2) _
            refine ⟨L, t, tkE t L p2, rfl, frM_TT hf4 hT, rfl, by omega, ?_⟩
            dsimp only [k_X5_reads_0, k_X5_reads_1, k_X5_reads_2, k_X5_reads_3, k_X5_reads_5, k_X5_reads_8, k_X5_reads_9, k_X5_reads_12, k_X5_reads_13, k_X5_reads_14, k_X5_reads_16, k_X5_reads_18, k_X5_reads_21, k_X5_reads_24, k_X5_reads_26, k_X5_reads_29, k_X5_reads_30, k_X5_reads_31, k_X5_reads_34, k_X5_reads_37, k_X5_reads_38, k_X5_reads_39, k_X5_reads_42, k_X5_reads_43, k_X5_reads_46, k_X5_reads_47, k_X5_reads_50, k_X5_reads_53, k_X5_reads_54, k_X5_reads_55, k_X5_reads_58, k_X5_reads_61, k_X5_reads_64, k_X5_reads_65, k_X5_reads_66, k_X5_reads_67, k_X5_reads_70, k_X5_reads_71, k_X5_reads_74, k_X5_reads_75, k_X5_reads_78, k_X5_reads_79, k_X5_reads_80, k_X5_reads_81, k_X5_reads_84, k_X5_reads_85, k_X5_reads_86, k_X5_reads_87, k_X5_reads_88, k_X5_reads_89, k_X5_reads_90, k_X5_reads_91, k_X5_reads_94, k_X5_reads_97, k_X5_reads_98, wp1, wp_s, cutIn, kont, Nat.reduceSub, Nat.reduceAdd, nth, o_const, o_lconst, o_ref, o_iload, o_lload, o_aload, o_istore, o_lstore, o_astore, o_iinc, o_bin, o_div, o_un, o_lbin, o_lsh, o_lcmp, o_i2l, o_l2i, o_if, o_icmp, o_goto, o_dup, o_dup2, o_pop, fav, o_getf, o_putI, o_putZ, o_putL, o_ald, o_ast, o_alen, popn, rst, o_callV, o_callT, o_callS, swx, o_sw, o_ret, o_iret, o_zret, o_cret, o_lret, o_aret, lg, lput, lput2, ls1, isL, entL, wsum, rdI1, rdI2, rdA1, rdA21, rdA22, rdL1, rdL22, rdL21, upN_at, rep, sh_0, F_0_0, F_0_1, F_0_2, F_0_3, F_0_4, F_0_5, F_0_6, F_0_7, F_0_8, sh_1, F_1_0, F_1_1, F_1_2, F_1_3, F_1_4, F_1_5, sh_3, F_3_0, F_3_1, F_3_2, F_3_3, F_3_4, F_3_5, sh_5, F_5_0, F_5_1, F_5_2, F_5_3, F_5_4, F_5_5, F_5_6, F_5_7, F_5_8, sh_12, F_12_0, F_12_1, F_12_2, F_12_3, F_12_4, F_12_5, sh_14, F_14_0, F_14_1, F_14_2, F_14_3, F_14_4, F_14_5, F_14_6, F_14_7, F_14_8, sh_21, F_21_0, F_21_1, F_21_2, F_21_3, F_21_4, F_21_5, F_21_6, F_21_7, F_21_8, sh_28, F_28_0, F_28_1, F_28_2, F_28_3, F_28_4, F_28_5, F_28_6, F_28_7, F_28_8, sh_35, F_35_0, sh_39, F_39_0, F_39_1, F_39_2, F_39_3, F_39_4, F_39_5, F_39_6, F_39_7, F_39_8, F_39_9, F_39_10, F_39_11, F_39_12, F_39_13, A_2, A_4, A_6, A_7, A_8, A_9, A_10, A_11, A_13, A_15, A_16, A_17, A_18, A_19, A_20, A_22, A_23, A_24, A_25, A_26, A_27, A_29, A_30, A_31, A_32, A_33, A_34, A_36, A_37, A_38, A_40, A_41, A_42, A_43, A_44, A_45, A_46, A_47]
            refine cut _ _ ⟨rfl, Or.inr ⟨rfl, tkE t L p2, q2, upd d2 2 (d2 2 + 1), _, hf4, ⟨?_, ?_⟩, rfl, w3, (e2.trans w1).symm, rfl, rfl⟩⟩ (by omega) ⟨rfl, trivial⟩
            · intro k hk2
              show upd (M2.2.2 32) 2 (M2.2.2 32 2 + 1) k = _
              rw [hd2 2 (by omega)]
              exact upd_cg hd2 2 _ k hk2
            · obtain ⟨c, pp, n, g1, g2, g3, g4, g5, g6⟩ := hD2.2
              refine ⟨c, pp, n, g1, g2, g3, ?_, ?_, ?_⟩
              · rw [upd_n _ _ (by omega)]; exact g4
              · rw [upd_n _ _ (by omega)]; exact g5
              · rw [upd_n _ _ (by omega)]; exact g6
          · have hs1 := hst (tkK t L p2) (tkV t L p2 0)
            rw [if_neg (fun w => z2 (tk_stop.1.mp w))] at hs1
            exact ⟨Or.inl rfl, hn _ (e2.trans (PR_n b2 hT2 (Or.inl (by omega)) hs1)) _ (frM_N hf3 t L p2) rfl⟩
  · dsimp only [k_X5_reads_0, k_X5_reads_1, k_X5_reads_2, k_X5_reads_3, k_X5_reads_5, k_X5_reads_8, k_X5_reads_9, k_X5_reads_12, k_X5_reads_13, k_X5_reads_14, k_X5_reads_16, k_X5_reads_18, k_X5_reads_21, k_X5_reads_24, k_X5_reads_26, k_X5_reads_29, k_X5_reads_30, k_X5_reads_31, k_X5_reads_34, k_X5_reads_37, k_X5_reads_38, k_X5_reads_39, k_X5_reads_42, k_X5_reads_43, k_X5_reads_46, k_X5_reads_47, k_X5_reads_50, k_X5_reads_53, k_X5_reads_54, k_X5_reads_55, k_X5_reads_58, k_X5_reads_61, k_X5_reads_64, k_X5_reads_65, k_X5_reads_66, k_X5_reads_67, k_X5_reads_70, k_X5_reads_71, k_X5_reads_74, k_X5_reads_75, k_X5_reads_78, k_X5_reads_79, k_X5_reads_80, k_X5_reads_81, k_X5_reads_84, k_X5_reads_85, k_X5_reads_86, k_X5_reads_87, k_X5_reads_88, k_X5_reads_89, k_X5_reads_90, k_X5_reads_91, k_X5_reads_94, k_X5_reads_97, k_X5_reads_98, wp1, wp_s, cutIn, kont, Nat.reduceSub, Nat.reduceAdd, nth, o_const, o_lconst, o_ref, o_iload, o_lload, o_aload, o_istore, o_lstore, o_astore, o_iinc, o_bin, o_div, o_un, o_lbin, o_lsh, o_lcmp, o_i2l, o_l2i, o_if, o_icmp, o_goto, o_dup, o_dup2, o_pop, fav, o_getf, o_putI, o_putZ, o_putL, o_ald, o_ast, o_alen, popn, rst, o_callV, o_callT, o_callS, swx, o_sw, o_ret, o_iret, o_zret, o_cret, o_lret, o_aret, lg, lput, lput2, ls1, isL, entL, wsum, rdI1, rdI2, rdA1, rdA21, rdA22, rdL1, rdL22, rdL21, upN_at, rep, sh_0, F_0_0, F_0_1, F_0_2, F_0_3, F_0_4, F_0_5, F_0_6, F_0_7, F_0_8, sh_1, F_1_0, F_1_1, F_1_2, F_1_3, F_1_4, F_1_5, sh_3, F_3_0, F_3_1, F_3_2, F_3_3, F_3_4, F_3_5, sh_5, F_5_0, F_5_1, F_5_2, F_5_3, F_5_4, F_5_5, F_5_6, F_5_7, F_5_8, sh_12, F_12_0, F_12_1, F_12_2, F_12_3, F_12_4, F_12_5, sh_14, F_14_0, F_14_1, F_14_2, F_14_3, F_14_4, F_14_5, F_14_6, F_14_7, F_14_8, sh_21, F_21_0, F_21_1, F_21_2, F_21_3, F_21_4, F_21_5, F_21_6, F_21_7, F_21_8, sh_28, F_28_0, F_28_1, F_28_2, F_28_3, F_28_4, F_28_5, F_28_6, F_28_7, F_28_8, sh_35, F_35_0, sh_39, F_39_0, F_39_1, F_39_2, F_39_3, F_39_4, F_39_5, F_39_6, F_39_7, F_39_8, F_39_9, F_39_10, F_39_11, F_39_12, F_39_13, A_2, A_4, A_6, A_7, A_8, A_9, A_10, A_11, A_13, A_15, A_16, A_17, A_18, A_19, A_20, A_22, A_23, A_24, A_25, A_26, A_27, A_29, A_30, A_31, A_32, A_33, A_34, A_36, A_37, A_38, A_40, A_41, A_42, A_43, A_44, A_45, A_46, A_47]
    refine cut _ _ ⟨rfl, Or.inl ⟨rfl, 0, M.2.2 32, by omega, fun k hk => absurd hk (by omega), (sA_self 32 M).symm, rfl, rfl⟩⟩ (by omega) ⟨rfl, rfl, trivial⟩
theorem c_X5_reads : Ctr yX5_reads cX5_reads 2 (some .boolean) ({ frames := 6, cells := 0, slots := 0, locals := 130 } : Room) S_X5_reads := ctr_of (T := T_X5_reads) (by decide +kernel) (fun post C hr => t_X5_reads post C hr) v_X5_reads
/-- all but what is told, the keys, the images' flags, the text's length, the token, the draft stays -/
def frO (M M' : AM) : Prop := (∀ i, ¬ (25 ≤ i ∧ i ≤ 29) → M'.1 i = M.1 i) ∧ M'.2.1 = M.2.1 ∧ ∀ a, a ≠ 31 → a ≠ 32 → a ≠ 33 → a ≠ 35 → M'.2.2 a = M.2.2 a
theorem frO_M {M M' : AM} (h : frM M M') : frO M M' := ⟨fun i hi => h.1 i (by omega), h.2.1, fun a _ h2 _ _ => h.2.2 a h2⟩
theorem frO_I {M M' : AM} (h : frO M M') {i : Nat} (hi : 25 ≤ i ∧ i ≤ 29) (x : Int32) : frO M (sI i x M') :=
  ⟨fun j hj => by
    rw [rdI1, upN_n _ _ (fun e => hj (by rw [e]; exact hi))]
    exact h.1 j hj, h.2.1, h.2.2⟩
theorem frO_A {M M' : AM} (h : frO M M') {i : Nat} (hi : i = 31 ∨ i = 32 ∨ i = 33 ∨ i = 35) (f : Nat → Int32) : frO M (sA i f M') :=
  ⟨h.1, h.2.1, fun b h1 h2 h3 h4 => by
    rw [rdA22, upN_n _ _ (fun e => by omega)]
    exact h.2.2 b h1 h2 h3 h4⟩
def S_X5_house : SP := fun as M post => ∃ L t, as = [VR 39] ∧ TT M L t ∧ (∀ s, prs t L 301 0 0 0 d0 = .inl s → ∀ M', frM M M' → post (some (VI (-10 - nI s))) M') ∧
  (∀ d, prs t L 301 0 0 0 d0 = .inr d → ∀ M', frO M M' → (∀ k, k < 28 → M'.2.2 31 k = d k) → M'.2.2 33 0 = d 3 → M'.2.2 33 17 = 0 → (∀ k, k < 8 → M'.2.2 33 (1 + k) = d (10 + k) ∧ M'.2.2 33 (9 + k) = d (18 + k)) → M'.2.2 35 0 = 0 → M'.2.2 35 1 = 0 → M'.1 25 = 0 → post (some (VI (d 2))) M')
theorem cw_RX5_95 : ∀ w ∈ ([.methodLink RX5 95 yX5_reads, .instanceMethod yX5_reads, .selects yX5_reads.cls yX5_reads yX5_reads, .initialized yX5_reads.cls, .code yX5_reads cX5_reads 2 (some .boolean)] : List Cond), w ∈ tb := tb_all [692, 694, 30, 59, 695] (by decide +kernel) (by decide +kernel)
theorem dX5_house_0 : decode cX5_house 0 = .ok (.aload_n 0, 1) := by decide +kernel
theorem dX5_house_1 : decode cX5_house 1 = .ok (.invokevirtual 95, 3) := by decide +kernel
theorem dX5_house_4 : decode cX5_house 4 = .ok (.ifCond .ne 11, 3) := by decide +kernel
theorem dX5_house_7 : decode cX5_house 7 = .ok (.bipush (-10), 2) := by decide +kernel
theorem dX5_house_9 : decode cX5_house 9 = .ok (.aload_n 0, 1) := by decide +kernel
theorem dX5_house_10 : decode cX5_house 10 = .ok (.getfield 52, 3) := by decide +kernel
theorem dX5_house_13 : decode cX5_house 13 = .ok (.isub, 1) := by decide +kernel
theorem dX5_house_14 : decode cX5_house 14 = .ok (.ireturn, 1) := by decide +kernel
theorem dX5_house_15 : decode cX5_house 15 = .ok (.iconst 0, 1) := by decide +kernel
theorem dX5_house_16 : decode cX5_house 16 = .ok (.istore_n 1, 1) := by decide +kernel
theorem dX5_house_17 : decode cX5_house 17 = .ok (.iload_n 1, 1) := by decide +kernel
theorem dX5_house_18 : decode cX5_house 18 = .ok (.bipush 28, 2) := by decide +kernel
theorem dX5_house_20 : decode cX5_house 20 = .ok (.if_icmp .ge 21, 3) := by decide +kernel
theorem dX5_house_23 : decode cX5_house 23 = .ok (.aload_n 0, 1) := by decide +kernel
theorem dX5_house_24 : decode cX5_house 24 = .ok (.getfield 13, 3) := by decide +kernel
theorem dX5_house_27 : decode cX5_house 27 = .ok (.iload_n 1, 1) := by decide +kernel
theorem dX5_house_28 : decode cX5_house 28 = .ok (.aload_n 0, 1) := by decide +kernel
theorem dX5_house_29 : decode cX5_house 29 = .ok (.getfield 16, 3) := by decide +kernel
theorem dX5_house_32 : decode cX5_house 32 = .ok (.iload_n 1, 1) := by decide +kernel
theorem dX5_house_33 : decode cX5_house 33 = .ok (.iaload, 1) := by decide +kernel
theorem dX5_house_34 : decode cX5_house 34 = .ok (.iastore, 1) := by decide +kernel
theorem dX5_house_35 : decode cX5_house 35 = .ok (.iinc 1 1, 3) := by decide +kernel
theorem dX5_house_38 : decode cX5_house 38 = .ok (.goto (-21), 3) := by decide +kernel
theorem dX5_house_41 : decode cX5_house 41 = .ok (.aload_n 0, 1) := by decide +kernel
theorem dX5_house_42 : decode cX5_house 42 = .ok (.getfield 19, 3) := by decide +kernel
theorem dX5_house_45 : decode cX5_house 45 = .ok (.iconst 0, 1) := by decide +kernel
theorem dX5_house_46 : decode cX5_house 46 = .ok (.aload_n 0, 1) := by decide +kernel
theorem dX5_house_47 : decode cX5_house 47 = .ok (.getfield 13, 3) := by decide +kernel
theorem dX5_house_50 : decode cX5_house 50 = .ok (.iconst 3, 1) := by decide +kernel
theorem dX5_house_51 : decode cX5_house 51 = .ok (.iaload, 1) := by decide +kernel
theorem dX5_house_52 : decode cX5_house 52 = .ok (.iastore, 1) := by decide +kernel
theorem dX5_house_53 : decode cX5_house 53 = .ok (.aload_n 0, 1) := by decide +kernel
theorem dX5_house_54 : decode cX5_house 54 = .ok (.getfield 19, 3) := by decide +kernel
theorem dX5_house_57 : decode cX5_house 57 = .ok (.bipush 17, 2) := by decide +kernel
theorem dX5_house_59 : decode cX5_house 59 = .ok (.iconst 0, 1) := by decide +kernel
theorem dX5_house_60 : decode cX5_house 60 = .ok (.iastore, 1) := by decide +kernel
theorem dX5_house_61 : decode cX5_house 61 = .ok (.iconst 0, 1) := by decide +kernel
theorem dX5_house_62 : decode cX5_house 62 = .ok (.istore_n 1, 1) := by decide +kernel
theorem dX5_house_63 : decode cX5_house 63 = .ok (.iload_n 1, 1) := by decide +kernel
theorem dX5_house_64 : decode cX5_house 64 = .ok (.bipush 8, 2) := by decide +kernel
theorem dX5_house_66 : decode cX5_house 66 = .ok (.if_icmp .ge 44, 3) := by decide +kernel
theorem dX5_house_69 : decode cX5_house 69 = .ok (.aload_n 0, 1) := by decide +kernel
theorem dX5_house_70 : decode cX5_house 70 = .ok (.getfield 19, 3) := by decide +kernel
theorem dX5_house_73 : decode cX5_house 73 = .ok (.iconst 1, 1) := by decide +kernel
theorem dX5_house_74 : decode cX5_house 74 = .ok (.iload_n 1, 1) := by decide +kernel
theorem dX5_house_75 : decode cX5_house 75 = .ok (.iadd, 1) := by decide +kernel
theorem dX5_house_76 : decode cX5_house 76 = .ok (.aload_n 0, 1) := by decide +kernel
theorem dX5_house_77 : decode cX5_house 77 = .ok (.getfield 13, 3) := by decide +kernel
theorem dX5_house_80 : decode cX5_house 80 = .ok (.bipush 10, 2) := by decide +kernel
theorem dX5_house_82 : decode cX5_house 82 = .ok (.iload_n 1, 1) := by decide +kernel
theorem dX5_house_83 : decode cX5_house 83 = .ok (.iadd, 1) := by decide +kernel
theorem dX5_house_84 : decode cX5_house 84 = .ok (.iaload, 1) := by decide +kernel
theorem dX5_house_85 : decode cX5_house 85 = .ok (.iastore, 1) := by decide +kernel
theorem dX5_house_86 : decode cX5_house 86 = .ok (.aload_n 0, 1) := by decide +kernel
theorem dX5_house_87 : decode cX5_house 87 = .ok (.getfield 19, 3) := by decide +kernel
theorem dX5_house_90 : decode cX5_house 90 = .ok (.bipush 9, 2) := by decide +kernel
theorem dX5_house_92 : decode cX5_house 92 = .ok (.iload_n 1, 1) := by decide +kernel
theorem dX5_house_93 : decode cX5_house 93 = .ok (.iadd, 1) := by decide +kernel
theorem dX5_house_94 : decode cX5_house 94 = .ok (.aload_n 0, 1) := by decide +kernel
theorem dX5_house_95 : decode cX5_house 95 = .ok (.getfield 13, 3) := by decide +kernel
theorem dX5_house_98 : decode cX5_house 98 = .ok (.bipush 18, 2) := by decide +kernel
theorem dX5_house_100 : decode cX5_house 100 = .ok (.iload_n 1, 1) := by decide +kernel
theorem dX5_house_101 : decode cX5_house 101 = .ok (.iadd, 1) := by decide +kernel
theorem dX5_house_102 : decode cX5_house 102 = .ok (.iaload, 1) := by decide +kernel
theorem dX5_house_103 : decode cX5_house 103 = .ok (.iastore, 1) := by decide +kernel
theorem dX5_house_104 : decode cX5_house 104 = .ok (.iinc 1 1, 3) := by decide +kernel
theorem dX5_house_107 : decode cX5_house 107 = .ok (.goto (-44), 3) := by decide +kernel
theorem dX5_house_110 : decode cX5_house 110 = .ok (.aload_n 0, 1) := by decide +kernel
theorem dX5_house_111 : decode cX5_house 111 = .ok (.getfield 25, 3) := by decide +kernel
theorem dX5_house_114 : decode cX5_house 114 = .ok (.iconst 0, 1) := by decide +kernel
theorem dX5_house_115 : decode cX5_house 115 = .ok (.iconst 0, 1) := by decide +kernel
theorem dX5_house_116 : decode cX5_house 116 = .ok (.bastore, 1) := by decide +kernel
theorem dX5_house_117 : decode cX5_house 117 = .ok (.aload_n 0, 1) := by decide +kernel
theorem dX5_house_118 : decode cX5_house 118 = .ok (.getfield 25, 3) := by decide +kernel
theorem dX5_house_121 : decode cX5_house 121 = .ok (.iconst 1, 1) := by decide +kernel
theorem dX5_house_122 : decode cX5_house 122 = .ok (.iconst 0, 1) := by decide +kernel
theorem dX5_house_123 : decode cX5_house 123 = .ok (.bastore, 1) := by decide +kernel
theorem dX5_house_124 : decode cX5_house 124 = .ok (.aload_n 0, 1) := by decide +kernel
theorem dX5_house_125 : decode cX5_house 125 = .ok (.iconst 0, 1) := by decide +kernel
theorem dX5_house_126 : decode cX5_house 126 = .ok (.putfield 39, 3) := by decide +kernel
theorem dX5_house_129 : decode cX5_house 129 = .ok (.aload_n 0, 1) := by decide +kernel
theorem dX5_house_130 : decode cX5_house 130 = .ok (.getfield 13, 3) := by decide +kernel
theorem dX5_house_133 : decode cX5_house 133 = .ok (.iconst 2, 1) := by decide +kernel
theorem dX5_house_134 : decode cX5_house 134 = .ok (.iaload, 1) := by decide +kernel
theorem dX5_house_135 : decode cX5_house 135 = .ok (.ireturn, 1) := by decide +kernel
def T_X5_house (post : PO) : List (Nat × OP) := [(0, o_aload 0 1), (1, o_callV 5 S_X5_reads 0 4), (4, o_if (fun x => x = 0) 7 15), (7, o_const (-10) 9), (9, o_aload 0 10), (10, o_getf 5 10 13), (13, o_bin (fun x y => x - y) 14), (14, o_iret post), (15, o_const 0 16), (16, o_istore 1 17), (17, o_iload 1 18), (18, o_const 28 20), (20, o_icmp (fun x y => y ≤ x) 41 23), (23, o_aload 0 24), (24, o_getf 5 3 27), (27, o_iload 1 28), (28, o_aload 0 29), (29, o_getf 5 4 32), (32, o_iload 1 33), (33, o_ald 0 34), (34, o_ast 0 (fun x => x) 35), (35, o_iinc 1 1 38), (38, o_goto 17), (41, o_aload 0 42), (42, o_getf 5 5 45), (45, o_const 0 46), (46, o_aload 0 47), (47, o_getf 5 3 50), (50, o_const 3 51), (51, o_ald 0 52), (52, o_ast 0 (fun x => x) 53), (53, o_aload 0 54), (54, o_getf 5 5 57), (57, o_const 17 59), (59, o_const 0 60), (60, o_ast 0 (fun x => x) 61), (61, o_const 0 62), (62, o_istore 1 63), (63, o_iload 1 64), (64, o_const 8 66), (66, o_icmp (fun x y => y ≤ x) 110 69), (69, o_aload 0 70), (70, o_getf 5 5 73), (73, o_const 1 74), (74, o_iload 1 75), (75, o_bin (fun x y => x + y) 76), (76, o_aload 0 77), (77, o_getf 5 3 80), (80, o_const 10 82), (82, o_iload 1 83), (83, o_bin (fun x y => x + y) 84), (84, o_ald 0 85), (85, o_ast 0 (fun x => x) 86), (86, o_aload 0 87), (87, o_getf 5 5 90), (90, o_const 9 92), (92, o_iload 1 93), (93, o_bin (fun x y => x + y) 94), (94, o_aload 0 95), (95, o_getf 5 3 98), (98, o_const 18 100), (100, o_iload 1 101), (101, o_bin (fun x y => x + y) 102), (102, o_ald 0 103), (103, o_ast 0 (fun x => x) 104), (104, o_iinc 1 1 107), (107, o_goto 63), (110, o_aload 0 111), (111, o_getf 5 7 114), (114, o_const 0 115), (115, o_const 0 116), (116, o_ast 2 (vp_nar .boolean) 117), (117, o_aload 0 118), (118, o_getf 5 7 121), (121, o_const 1 122), (122, o_const 0 123), (123, o_ast 2 (vp_nar .boolean) 124), (124, o_aload 0 125), (125, o_const 0 126), (126, o_putI 5 2 129), (129, o_aload 0 130), (130, o_getf 5 3 133), (133, o_const 2 134), (134, o_ald 0 135), (135, o_iret post)]
theorem k_X5_house_0 (post : PO) : lk (T_X5_house post) 0 = o_aload 0 1 := rfl
theorem k_X5_house_1 (post : PO) : lk (T_X5_house post) 1 = o_callV 5 S_X5_reads 0 4 := rfl
theorem k_X5_house_4 (post : PO) : lk (T_X5_house post) 4 = o_if (fun x => x = 0) 7 15 := rfl
theorem k_X5_house_7 (post : PO) : lk (T_X5_house post) 7 = o_const (-10) 9 := rfl
theorem k_X5_house_9 (post : PO) : lk (T_X5_house post) 9 = o_aload 0 10 := rfl
theorem k_X5_house_10 (post : PO) : lk (T_X5_house post) 10 = o_getf 5 10 13 := rfl
theorem k_X5_house_13 (post : PO) : lk (T_X5_house post) 13 = o_bin (fun x y => x - y) 14 := rfl
theorem k_X5_house_14 (post : PO) : lk (T_X5_house post) 14 = o_iret post := rfl
theorem k_X5_house_15 (post : PO) : lk (T_X5_house post) 15 = o_const 0 16 := rfl
theorem k_X5_house_16 (post : PO) : lk (T_X5_house post) 16 = o_istore 1 17 := rfl
theorem k_X5_house_17 (post : PO) : lk (T_X5_house post) 17 = o_iload 1 18 := rfl
theorem k_X5_house_18 (post : PO) : lk (T_X5_house post) 18 = o_const 28 20 := rfl
theorem k_X5_house_20 (post : PO) : lk (T_X5_house post) 20 = o_icmp (fun x y => y ≤ x) 41 23 := rfl
theorem k_X5_house_23 (post : PO) : lk (T_X5_house post) 23 = o_aload 0 24 := rfl
theorem k_X5_house_24 (post : PO) : lk (T_X5_house post) 24 = o_getf 5 3 27 := rfl
theorem k_X5_house_27 (post : PO) : lk (T_X5_house post) 27 = o_iload 1 28 := rfl
theorem k_X5_house_28 (post : PO) : lk (T_X5_house post) 28 = o_aload 0 29 := rfl
theorem k_X5_house_29 (post : PO) : lk (T_X5_house post) 29 = o_getf 5 4 32 := rfl
theorem k_X5_house_32 (post : PO) : lk (T_X5_house post) 32 = o_iload 1 33 := rfl
theorem k_X5_house_33 (post : PO) : lk (T_X5_house post) 33 = o_ald 0 34 := rfl
theorem k_X5_house_34 (post : PO) : lk (T_X5_house post) 34 = o_ast 0 (fun x => x) 35 := rfl
theorem k_X5_house_35 (post : PO) : lk (T_X5_house post) 35 = o_iinc 1 1 38 := rfl
theorem k_X5_house_38 (post : PO) : lk (T_X5_house post) 38 = o_goto 17 := rfl
theorem k_X5_house_41 (post : PO) : lk (T_X5_house post) 41 = o_aload 0 42 := rfl
theorem k_X5_house_42 (post : PO) : lk (T_X5_house post) 42 = o_getf 5 5 45 := rfl
theorem k_X5_house_45 (post : PO) : lk (T_X5_house post) 45 = o_const 0 46 := rfl
theorem k_X5_house_46 (post : PO) : lk (T_X5_house post) 46 = o_aload 0 47 := rfl
theorem k_X5_house_47 (post : PO) : lk (T_X5_house post) 47 = o_getf 5 3 50 := rfl
theorem k_X5_house_50 (post : PO) : lk (T_X5_house post) 50 = o_const 3 51 := rfl
theorem k_X5_house_51 (post : PO) : lk (T_X5_house post) 51 = o_ald 0 52 := rfl
theorem k_X5_house_52 (post : PO) : lk (T_X5_house post) 52 = o_ast 0 (fun x => x) 53 := rfl
theorem k_X5_house_53 (post : PO) : lk (T_X5_house post) 53 = o_aload 0 54 := rfl
theorem k_X5_house_54 (post : PO) : lk (T_X5_house post) 54 = o_getf 5 5 57 := rfl
theorem k_X5_house_57 (post : PO) : lk (T_X5_house post) 57 = o_const 17 59 := rfl
theorem k_X5_house_59 (post : PO) : lk (T_X5_house post) 59 = o_const 0 60 := rfl
theorem k_X5_house_60 (post : PO) : lk (T_X5_house post) 60 = o_ast 0 (fun x => x) 61 := rfl
theorem k_X5_house_61 (post : PO) : lk (T_X5_house post) 61 = o_const 0 62 := rfl
theorem k_X5_house_62 (post : PO) : lk (T_X5_house post) 62 = o_istore 1 63 := rfl
theorem k_X5_house_63 (post : PO) : lk (T_X5_house post) 63 = o_iload 1 64 := rfl
theorem k_X5_house_64 (post : PO) : lk (T_X5_house post) 64 = o_const 8 66 := rfl
theorem k_X5_house_66 (post : PO) : lk (T_X5_house post) 66 = o_icmp (fun x y => y ≤ x) 110 69 := rfl
theorem k_X5_house_69 (post : PO) : lk (T_X5_house post) 69 = o_aload 0 70 := rfl
theorem k_X5_house_70 (post : PO) : lk (T_X5_house post) 70 = o_getf 5 5 73 := rfl
theorem k_X5_house_73 (post : PO) : lk (T_X5_house post) 73 = o_const 1 74 := rfl
theorem k_X5_house_74 (post : PO) : lk (T_X5_house post) 74 = o_iload 1 75 := rfl
theorem k_X5_house_75 (post : PO) : lk (T_X5_house post) 75 = o_bin (fun x y => x + y) 76 := rfl
theorem k_X5_house_76 (post : PO) : lk (T_X5_house post) 76 = o_aload 0 77 := rfl
theorem k_X5_house_77 (post : PO) : lk (T_X5_house post) 77 = o_getf 5 3 80 := rfl
theorem k_X5_house_80 (post : PO) : lk (T_X5_house post) 80 = o_const 10 82 := rfl
theorem k_X5_house_82 (post : PO) : lk (T_X5_house post) 82 = o_iload 1 83 := rfl
theorem k_X5_house_83 (post : PO) : lk (T_X5_house post) 83 = o_bin (fun x y => x + y) 84 := rfl
theorem k_X5_house_84 (post : PO) : lk (T_X5_house post) 84 = o_ald 0 85 := rfl
theorem k_X5_house_85 (post : PO) : lk (T_X5_house post) 85 = o_ast 0 (fun x => x) 86 := rfl
theorem k_X5_house_86 (post : PO) : lk (T_X5_house post) 86 = o_aload 0 87 := rfl
theorem k_X5_house_87 (post : PO) : lk (T_X5_house post) 87 = o_getf 5 5 90 := rfl
theorem k_X5_house_90 (post : PO) : lk (T_X5_house post) 90 = o_const 9 92 := rfl
theorem k_X5_house_92 (post : PO) : lk (T_X5_house post) 92 = o_iload 1 93 := rfl
theorem k_X5_house_93 (post : PO) : lk (T_X5_house post) 93 = o_bin (fun x y => x + y) 94 := rfl
theorem k_X5_house_94 (post : PO) : lk (T_X5_house post) 94 = o_aload 0 95 := rfl
theorem k_X5_house_95 (post : PO) : lk (T_X5_house post) 95 = o_getf 5 3 98 := rfl
theorem k_X5_house_98 (post : PO) : lk (T_X5_house post) 98 = o_const 18 100 := rfl
theorem k_X5_house_100 (post : PO) : lk (T_X5_house post) 100 = o_iload 1 101 := rfl
theorem k_X5_house_101 (post : PO) : lk (T_X5_house post) 101 = o_bin (fun x y => x + y) 102 := rfl
theorem k_X5_house_102 (post : PO) : lk (T_X5_house post) 102 = o_ald 0 103 := rfl
theorem k_X5_house_103 (post : PO) : lk (T_X5_house post) 103 = o_ast 0 (fun x => x) 104 := rfl
theorem k_X5_house_104 (post : PO) : lk (T_X5_house post) 104 = o_iinc 1 1 107 := rfl
theorem k_X5_house_107 (post : PO) : lk (T_X5_house post) 107 = o_goto 63 := rfl
theorem k_X5_house_110 (post : PO) : lk (T_X5_house post) 110 = o_aload 0 111 := rfl
theorem k_X5_house_111 (post : PO) : lk (T_X5_house post) 111 = o_getf 5 7 114 := rfl
theorem k_X5_house_114 (post : PO) : lk (T_X5_house post) 114 = o_const 0 115 := rfl
theorem k_X5_house_115 (post : PO) : lk (T_X5_house post) 115 = o_const 0 116 := rfl
theorem k_X5_house_116 (post : PO) : lk (T_X5_house post) 116 = o_ast 2 (vp_nar .boolean) 117 := rfl
theorem k_X5_house_117 (post : PO) : lk (T_X5_house post) 117 = o_aload 0 118 := rfl
theorem k_X5_house_118 (post : PO) : lk (T_X5_house post) 118 = o_getf 5 7 121 := rfl
theorem k_X5_house_121 (post : PO) : lk (T_X5_house post) 121 = o_const 1 122 := rfl
theorem k_X5_house_122 (post : PO) : lk (T_X5_house post) 122 = o_const 0 123 := rfl
theorem k_X5_house_123 (post : PO) : lk (T_X5_house post) 123 = o_ast 2 (vp_nar .boolean) 124 := rfl
theorem k_X5_house_124 (post : PO) : lk (T_X5_house post) 124 = o_aload 0 125 := rfl
theorem k_X5_house_125 (post : PO) : lk (T_X5_house post) 125 = o_const 0 126 := rfl
theorem k_X5_house_126 (post : PO) : lk (T_X5_house post) 126 = o_putI 5 2 129 := rfl
theorem k_X5_house_129 (post : PO) : lk (T_X5_house post) 129 = o_aload 0 130 := rfl
theorem k_X5_house_130 (post : PO) : lk (T_X5_house post) 130 = o_getf 5 3 133 := rfl
theorem k_X5_house_133 (post : PO) : lk (T_X5_house post) 133 = o_const 2 134 := rfl
theorem k_X5_house_134 (post : PO) : lk (T_X5_house post) 134 = o_ald 0 135 := rfl
theorem k_X5_house_135 (post : PO) : lk (T_X5_house post) 135 = o_iret post := rfl
set_option maxRecDepth 100000 in
theorem t_X5_house {p : Program} {l : Launch} {e : Env} {s : State} {m : MethodId} {args : Array Value} {below : List Frame} {meth : Method} {c : Code} {D : va_G} {dA : Nat → ClassId} {ad : Nat → Nat} (post : PO) (C : CX p s m args meth c cX5_house 2 yX5_house.cls D dA ad (AA ad s.heap.size)) (hr : meth.sig.returnType = (some .int)) : SndL (WW p l e ({ frames := 7, cells := 0, slots := 0, locals := 151 } : Room) s m args below meth c 0 0 (MQ below (CQ D dA ad post (AA ad s.heap.size)) args s 0 0 (AA ad s.heap.size)) 2 D dA ad (AA ad s.heap.size)) (T_X5_house post) := by
  refine snd_c (s_aload_n C rfl dX5_house_0) ?_
  refine snd_c (s_callV C (ci := 5) c_X5_reads rfl cw_RX5_95 ⟨rfl, rfl⟩ ⟨by decide +kernel, by decide +kernel, by decide +kernel⟩ ⟨by decide, by decide⟩ ⟨Nat.zero_le _, Nat.zero_le _⟩ dX5_house_1) ?_
  refine snd_c (s_if_ne C dX5_house_4 (by decide)) ?_
  refine snd_c (s_bipush C dX5_house_7 rfl) ?_
  refine snd_c (s_aload_n C rfl dX5_house_9) ?_
  refine snd_c (s_getf C (ci := 5) (j := 10) (T := TX5) rfl inX5 (by decide) fl_RX5_52 dX5_house_10) ?_
  refine snd_c (s_isub C dX5_house_13) ?_
  refine snd_c (s_iret C hr dX5_house_14) ?_
  refine snd_c (s_iconst C dX5_house_15 rfl) ?_
  refine snd_c (s_istore_n C rfl (by decide) dX5_house_16) ?_
  refine snd_c (s_iload_n C rfl dX5_house_17) ?_
  refine snd_c (s_bipush C dX5_house_18 rfl) ?_
  refine snd_c (s_icmp_ge C dX5_house_20 (by decide)) ?_
  refine snd_c (s_aload_n C rfl dX5_house_23) ?_
  refine snd_c (s_getf C (ci := 5) (j := 3) (T := TX5) rfl inX5 (by decide) fl_RX5_13 dX5_house_24) ?_
  refine snd_c (s_iload_n C rfl dX5_house_27) ?_
  refine snd_c (s_aload_n C rfl dX5_house_28) ?_
  refine snd_c (s_getf C (ci := 5) (j := 4) (T := TX5) rfl inX5 (by decide) fl_RX5_16 dX5_house_29) ?_
  refine snd_c (s_iload_n C rfl dX5_house_32) ?_
  refine snd_c (s_iald C dX5_house_33) ?_
  refine snd_c (s_iast C dX5_house_34) ?_
  refine snd_c (s_iinc C (by decide) rfl dX5_house_35) ?_
  refine snd_c (s_goto C dX5_house_38 (by decide)) ?_
  refine snd_c (s_aload_n C rfl dX5_house_41) ?_
  refine snd_c (s_getf C (ci := 5) (j := 5) (T := TX5) rfl inX5 (by decide) fl_RX5_19 dX5_house_42) ?_
  refine snd_c (s_iconst C dX5_house_45 rfl) ?_
  refine snd_c (s_aload_n C rfl dX5_house_46) ?_
  refine snd_c (s_getf C (ci := 5) (j := 3) (T := TX5) rfl inX5 (by decide) fl_RX5_13 dX5_house_47) ?_
  refine snd_c (s_iconst C dX5_house_50 rfl) ?_
  refine snd_c (s_iald C dX5_house_51) ?_
  refine snd_c (s_iast C dX5_house_52) ?_
  refine snd_c (s_aload_n C rfl dX5_house_53) ?_
  refine snd_c (s_getf C (ci := 5) (j := 5) (T := TX5) rfl inX5 (by decide) fl_RX5_19 dX5_house_54) ?_
  refine snd_c (s_bipush C dX5_house_57 rfl) ?_
  refine snd_c (s_iconst C dX5_house_59 rfl) ?_
  refine snd_c (s_iast C dX5_house_60) ?_
  refine snd_c (s_iconst C dX5_house_61 rfl) ?_
  refine snd_c (s_istore_n C rfl (by decide) dX5_house_62) ?_
  refine snd_c (s_iload_n C rfl dX5_house_63) ?_
  refine snd_c (s_bipush C dX5_house_64 rfl) ?_
  refine snd_c (s_icmp_ge C dX5_house_66 (by decide)) ?_
  refine snd_c (s_aload_n C rfl dX5_house_69) ?_
  refine snd_c (s_getf C (ci := 5) (j := 5) (T := TX5) rfl inX5 (by decide) fl_RX5_19 dX5_house_70) ?_
  refine snd_c (s_iconst C dX5_house_73 rfl) ?_
  refine snd_c (s_iload_n C rfl dX5_house_74) ?_
  refine snd_c (s_iadd C dX5_house_75) ?_
  refine snd_c (s_aload_n C rfl dX5_house_76) ?_
  refine snd_c (s_getf C (ci := 5) (j := 3) (T := TX5) rfl inX5 (by decide) fl_RX5_13 dX5_house_77) ?_
  refine snd_c (s_bipush C dX5_house_80 rfl) ?_
  refine snd_c (s_iload_n C rfl dX5_house_82) ?_
  refine snd_c (s_iadd C dX5_house_83) ?_
  refine snd_c (s_iald C dX5_house_84) ?_
  refine snd_c (s_iast C dX5_house_85) ?_
  refine snd_c (s_aload_n C rfl dX5_house_86) ?_
  refine snd_c (s_getf C (ci := 5) (j := 5) (T := TX5) rfl inX5 (by decide) fl_RX5_19 dX5_house_87) ?_
  refine snd_c (s_bipush C dX5_house_90 rfl) ?_
  refine snd_c (s_iload_n C rfl dX5_house_92) ?_
  refine snd_c (s_iadd C dX5_house_93) ?_
  refine snd_c (s_aload_n C rfl dX5_house_94) ?_
  refine snd_c (s_getf C (ci := 5) (j := 3) (T := TX5) rfl inX5 (by decide) fl_RX5_13 dX5_house_95) ?_
  refine snd_c (s_bipush C dX5_house_98 rfl) ?_
  refine snd_c (s_iload_n C rfl dX5_house_100) ?_
  refine snd_c (s_iadd C dX5_house_101) ?_
  refine snd_c (s_iald C dX5_house_102) ?_
  refine snd_c (s_iast C dX5_house_103) ?_
  refine snd_c (s_iinc C (by decide) rfl dX5_house_104) ?_
  refine snd_c (s_goto C dX5_house_107 (by decide)) ?_
  refine snd_c (s_aload_n C rfl dX5_house_110) ?_
  refine snd_c (s_getf C (ci := 5) (j := 7) (T := TX5) rfl inX5 (by decide) fl_RX5_25 dX5_house_111) ?_
  refine snd_c (s_iconst C dX5_house_114 rfl) ?_
  refine snd_c (s_iconst C dX5_house_115 rfl) ?_
  refine snd_c (s_bast2 C dX5_house_116) ?_
  refine snd_c (s_aload_n C rfl dX5_house_117) ?_
  refine snd_c (s_getf C (ci := 5) (j := 7) (T := TX5) rfl inX5 (by decide) fl_RX5_25 dX5_house_118) ?_
  refine snd_c (s_iconst C dX5_house_121 rfl) ?_
  refine snd_c (s_iconst C dX5_house_122 rfl) ?_
  refine snd_c (s_bast2 C dX5_house_123) ?_
  refine snd_c (s_aload_n C rfl dX5_house_124) ?_
  refine snd_c (s_iconst C dX5_house_125 rfl) ?_
  refine snd_c (s_putI C (ci := 5) (j := 2) (T := TX5) tyX5 tyX5_ok nmX5 rfl inX5 (by decide) rfl rfl fl_RX5_39 dX5_house_126) ?_
  refine snd_c (s_aload_n C rfl dX5_house_129) ?_
  refine snd_c (s_getf C (ci := 5) (j := 3) (T := TX5) rfl inX5 (by decide) fl_RX5_13 dX5_house_130) ?_
  refine snd_c (s_iconst C dX5_house_133 rfl) ?_
  refine snd_c (s_iald C dX5_house_134) ?_
  refine snd_c (s_iret C hr dX5_house_135) ?_
  exact trivial
set_option maxRecDepth 100000 in
theorem v_X5_house : ∀ as M post, S_X5_house as M post → wsum as ≤ 2 ∧ RUN (T_X5_house post) 0 (entL 2 as) [] M := by
  rintro as M post ⟨L, t, rfl, hT, hn, hs⟩
  refine ⟨by show 1 ≤ 2; omega, run_of [17, 63] (fun μ pc lv st M' => st = [] ∧ ∃ d, prs t L 301 0 0 0 d0 = .inr d ∧ frO M M' ∧ ((pc = 17 ∧ ∃ i, i ≤ 28 ∧ (∀ k, k < i → M'.2.2 31 k = d k) ∧ (∀ k, k < 28 → M'.2.2 32 k = d k) ∧ 3000 - i = μ ∧ lv = [some (VR 39), some (VI (nI i))]) ∨ (pc = 63 ∧ ∃ i, i ≤ 8 ∧ (∀ k, k < 28 → M'.2.2 31 k = d k) ∧ M'.2.2 33 0 = d 3 ∧ M'.2.2 33 17 = 0 ∧ (∀ k, k < i → M'.2.2 33 (1 + k) = d (10 + k) ∧ M'.2.2 33 (9 + k) = d (18 + k)) ∧ 1000 - i = μ ∧ lv = [some (VR 39), some (VI (nI i))]))) 80 4000 ?_ ?_⟩
  · rintro μ pc lv st M' ⟨rfl, d, hd, hf, ⟨rfl, i, hi, h1, h2, rfl, rfl⟩ | ⟨rfl, i, hi, h1, h2, h3, h4, rfl, rfl⟩⟩
    · dsimp only [k_X5_house_0, k_X5_house_1, k_X5_house_4, k_X5_house_7, k_X5_house_9, k_X5_house_10, k_X5_house_13, k_X5_house_14, k_X5_house_15, k_X5_house_16, k_X5_house_17, k_X5_house_18, k_X5_house_20, k_X5_house_23, k_X5_house_24, k_X5_house_27, k_X5_house_28, k_X5_house_29, k_X5_house_32, k_X5_house_33, k_X5_house_34, k_X5_house_35, k_X5_house_38, k_X5_house_41, k_X5_house_42, k_X5_house_45, k_X5_house_46, k_X5_house_47, k_X5_house_50, k_X5_house_51, k_X5_house_52, k_X5_house_53, k_X5_house_54, k_X5_house_57, k_X5_house_59, k_X5_house_60, k_X5_house_61, k_X5_house_62, k_X5_house_63, k_X5_house_64, k_X5_house_66, k_X5_house_69, k_X5_house_70, k_X5_house_73, k_X5_house_74, k_X5_house_75, k_X5_house_76, k_X5_house_77, k_X5_house_80, k_X5_house_82, k_X5_house_83, k_X5_house_84, k_X5_house_85, k_X5_house_86, k_X5_house_87, k_X5_house_90, k_X5_house_92, k_X5_house_93, k_X5_house_94, k_X5_house_95, k_X5_house_98, k_X5_house_100, k_X5_house_101, k_X5_house_102, k_X5_house_103, k_X5_house_104, k_X5_house_107, k_X5_house_110, k_X5_house_111, k_X5_house_114, k_X5_house_115, k_X5_house_116, k_X5_house_117, k_X5_house_118, k_X5_house_121, k_X5_house_122, k_X5_house_123, k_X5_house_124, k_X5_house_125, k_X5_house_126, k_X5_house_129, k_X5_house_130, k_X5_house_133, k_X5_house_134, k_X5_house_135, wp1, wp_s, cutIn, kont, Nat.reduceSub, Nat.reduceAdd, nth, o_const, o_lconst, o_ref, o_iload, o_lload, o_aload, o_istore, o_lstore, o_astore, o_iinc, o_bin, o_div, o_un, o_lbin, o_lsh, o_lcmp, o_i2l, o_l2i, o_if, o_icmp, o_goto, o_dup, o_dup2, o_pop, fav, o_getf, o_putI, o_putZ, o_putL, o_ald, o_ast, o_alen, popn, rst, o_callV, o_callT, o_callS, swx, o_sw, o_ret, o_iret, o_zret, o_cret, o_lret, o_aret, lg, lput, lput2, ls1, isL, entL, wsum, rdI1, rdI2, rdA1, rdA21, rdA22, rdL1, rdL22, rdL21, upN_at, rep, sh_0, F_0_0, F_0_1, F_0_2, F_0_3, F_0_4, F_0_5, F_0_6, F_0_7, F_0_8, sh_1, F_1_0, F_1_1, F_1_2, F_1_3, F_1_4, F_1_5, sh_3, F_3_0, F_3_1, F_3_2, F_3_3, F_3_4, F_3_5, sh_5, F_5_0, F_5_1, F_5_2, F_5_3, F_5_4, F_5_5, F_5_6, F_5_7, F_5_8, sh_12, F_12_0, F_12_1, F_12_2, F_12_3, F_12_4, F_12_5, sh_14, F_14_0, F_14_1, F_14_2, F_14_3, F_14_4, F_14_5, F_14_6, F_14_7, F_14_8, sh_21, F_21_0, F_21_1, F_21_2, F_21_3, F_21_4, F_21_5, F_21_6, F_21_7, F_21_8, sh_28, F_28_0, F_28_1, F_28_2, F_28_3, F_28_4, F_28_5, F_28_6, F_28_7, F_28_8, sh_35, F_35_0, sh_39, F_39_0, F_39_1, F_39_2, F_39_3, F_39_4, F_39_5, F_39_6, F_39_7, F_39_8, F_39_9, F_39_10, F_39_11, F_39_12, F_39_13, A_2, A_4, A_6, A_7, A_8, A_9, A_10, A_11, A_13, A_15, A_16, A_17, A_18, A_19, A_20, A_22, A_23, A_24, A_25, A_26, A_27, A_29, A_30, A_31, A_32, A_33, A_34, A_36, A_37, A_38, A_40, A_41, A_42, A_43, A_44, A_45, A_46, A_47]
      rw [show (28 : Int32) = nI 28 from rfl]
      simp (disch := omega) only [nI_leI, nI_ltI, nI_eq, nI_1, nI_add, one_shl, nI_or, nI_xor, nI_and, bit_0, bit_1, true_or, or_true, true_and, and_true, eq_self, not_true_eq_false, not_false_eq_true, forall_const]
      refine ⟨fun z => ?_, fun z => ⟨i, by omega, rfl, i, by omega, rfl, cut _ _ ⟨rfl, d, hd, frO_A hf (by omega) _, Or.inl ⟨rfl, i + 1, by omega, fun k hk => ?_, h2, rfl, rfl⟩⟩ (by omega) ⟨rfl, by first | rfl | exact vi_eq (nI_1 _), trivial⟩⟩⟩
      · have e : i = 28 := by omega
        subst e
        refine ⟨3, by omega, rfl, 0, by omega, rfl, 17, by omega, rfl, cut _ _ ⟨rfl, d, hd, frO_A (frO_A hf (by omega) _) (by omega) _, Or.inr ⟨rfl, 0, by omega, h1, ?_, ?_, fun k hk => absurd hk (by omega), rfl, rfl⟩⟩ (by omega) ⟨rfl, rfl, trivial⟩⟩
        · dsimp only [rdI1, rdI2, rdA1, rdA21, rdA22, rdL1, rdL22, rdL21, upN_at, Nat.reduceAdd, Nat.reduceSub]
          rw [upd_n _ _ (by omega), upd_s, h1 3 (by omega)]
        · dsimp only [rdI1, rdI2, rdA1, rdA21, rdA22, rdL1, rdL22, rdL21, upN_at, Nat.reduceAdd, Nat.reduceSub]
          rw [upd_s]
      · dsimp only [rdI1, rdI2, rdA1, rdA21, rdA22, rdL1, rdL22, rdL21, upN_at, Nat.reduceAdd, Nat.reduceSub]
        by_cases g : k = i
        · rw [g, upd_s]; exact h2 i (by omega)
        · rw [upd_n _ _ g]; exact h1 k (by omega)
    · dsimp only [k_X5_house_0, k_X5_house_1, k_X5_house_4, k_X5_house_7, k_X5_house_9, k_X5_house_10, k_X5_house_13, k_X5_house_14, k_X5_house_15, k_X5_house_16, k_X5_house_17, k_X5_house_18, k_X5_house_20, k_X5_house_23, k_X5_house_24, k_X5_house_27, k_X5_house_28, k_X5_house_29, k_X5_house_32, k_X5_house_33, k_X5_house_34, k_X5_house_35, k_X5_house_38, k_X5_house_41, k_X5_house_42, k_X5_house_45, k_X5_house_46, k_X5_house_47, k_X5_house_50, k_X5_house_51, k_X5_house_52, k_X5_house_53, k_X5_house_54, k_X5_house_57, k_X5_house_59, k_X5_house_60, k_X5_house_61, k_X5_house_62, k_X5_house_63, k_X5_house_64, k_X5_house_66, k_X5_house_69, k_X5_house_70, k_X5_house_73, k_X5_house_74, k_X5_house_75, k_X5_house_76, k_X5_house_77, k_X5_house_80, k_X5_house_82, k_X5_house_83, k_X5_house_84, k_X5_house_85, k_X5_house_86, k_X5_house_87, k_X5_house_90, k_X5_house_92, k_X5_house_93, k_X5_house_94, k_X5_house_95, k_X5_house_98, k_X5_house_100, k_X5_house_101, k_X5_house_102, k_X5_house_103, k_X5_house_104, k_X5_house_107, k_X5_house_110, k_X5_house_111, k_X5_house_114, k_X5_house_115, k_X5_house_116, k_X5_house_117, k_X5_house_118, k_X5_house_121, k_X5_house_122, k_X5_house_123, k_X5_house_124, k_X5_house_125, k_X5_house_126, k_X5_house_129, k_X5_house_130, k_X5_house_133, k_X5_house_134, k_X5_house_135, wp1, wp_s, cutIn, kont, Nat.reduceSub, Nat.reduceAdd, nth, o_const, o_lconst, o_ref, o_iload, o_lload, o_aload, o_istore, o_lstore, o_astore, o_iinc, o_bin, o_div, o_un, o_lbin, o_lsh, o_lcmp, o_i2l, o_l2i, o_if, o_icmp, o_goto, o_dup, o_dup2, o_pop, fav, o_getf, o_putI, o_putZ, o_putL, o_ald, o_ast, o_alen, popn, rst, o_callV, o_callT, o_callS, swx, o_sw, o_ret, o_iret, o_zret, o_cret, o_lret, o_aret, lg, lput, lput2, ls1, isL, entL, wsum, rdI1, rdI2, rdA1, rdA21, rdA22, rdL1, rdL22, rdL21, upN_at, rep, sh_0, F_0_0, F_0_1, F_0_2, F_0_3, F_0_4, F_0_5, F_0_6, F_0_7, F_0_8, sh_1, F_1_0, F_1_1, F_1_2, F_1_3, F_1_4, F_1_5, sh_3, F_3_0, F_3_1, F_3_2, F_3_3, F_3_4, F_3_5, sh_5, F_5_0, F_5_1, F_5_2, F_5_3, F_5_4, F_5_5, F_5_6, F_5_7, F_5_8, sh_12, F_12_0, F_12_1, F_12_2, F_12_3, F_12_4, F_12_5, sh_14, F_14_0, F_14_1, F_14_2, F_14_3, F_14_4, F_14_5, F_14_6, F_14_7, F_14_8, sh_21, F_21_0, F_21_1, F_21_2, F_21_3, F_21_4, F_21_5, F_21_6, F_21_7, F_21_8, sh_28, F_28_0, F_28_1, F_28_2, F_28_3, F_28_4, F_28_5, F_28_6, F_28_7, F_28_8, sh_35, F_35_0, sh_39, F_39_0, F_39_1, F_39_2, F_39_3, F_39_4, F_39_5, F_39_6, F_39_7, F_39_8, F_39_9, F_39_10, F_39_11, F_39_12, F_39_13, A_2, A_4, A_6, A_7, A_8, A_9, A_10, A_11, A_13, A_15, A_16, A_17, A_18, A_19, A_20, A_22, A_23, A_24, A_25, A_26, A_27, A_29, A_30, A_31, A_32, A_33, A_34, A_36, A_37, A_38, A_40, A_41, A_42, A_43, A_44, A_45, A_46, A_47]
      rw [show (8 : Int32) = nI 8 from rfl]
      simp (disch := omega) only [nI_leI, nI_ltI, nI_eq, nI_1, nI_add, one_shl, nI_or, nI_xor, nI_and, bit_0, bit_1, true_or, or_true, true_and, and_true, eq_self, not_true_eq_false, not_false_eq_true, forall_const]
      refine ⟨fun z => ?_, fun z => ⟨10 + i, by omega, nI_add 10 i, 1 + i, by omega, nI_add 1 i, 18 + i, by omega, nI_add 18 i, 9 + i, by omega, nI_add 9 i, cut _ _ ⟨rfl, d, hd, frO_A (frO_A hf (by omega) _) (by omega) _, Or.inr ⟨rfl, i + 1, by omega, h1, ?_, ?_, fun k hk => ?_, rfl, rfl⟩⟩ (by omega) ⟨rfl, by first | rfl | exact vi_eq (nI_1 _), trivial⟩⟩⟩
      · have e : i = 8 := by omega
        subst e
        refine ⟨0, by omega, rfl, 1, by omega, rfl, 2, by omega, rfl, ?_⟩
        rw [h1 2 (by omega)]
        refine hs d hd _ (frO_I (frO_A (frO_A hf (by omega) _) (by omega) _) (by omega) _) h1 h2 h3 h4 ?_ ?_ rfl
        · dsimp only [rdI1, rdI2, rdA1, rdA21, rdA22, rdL1, rdL22, rdL21, upN_at, Nat.reduceAdd, Nat.reduceSub]
          rw [upd_n _ _ (by omega), upd_s]; rfl
        · dsimp only [rdI1, rdI2, rdA1, rdA21, rdA22, rdL1, rdL22, rdL21, upN_at, Nat.reduceAdd, Nat.reduceSub]
          rw [upd_s]; rfl
      · dsimp only [rdI1, rdI2, rdA1, rdA21, rdA22, rdL1, rdL22, rdL21, upN_at, Nat.reduceAdd, Nat.reduceSub]
        rw [upd_n _ _ (by omega), upd_n _ _ (by omega)]; exact h2
      · dsimp only [rdI1, rdI2, rdA1, rdA21, rdA22, rdL1, rdL22, rdL21, upN_at, Nat.reduceAdd, Nat.reduceSub]
        rw [upd_n _ _ (by omega), upd_n _ _ (by omega)]; exact h3
      · dsimp only [rdI1, rdI2, rdA1, rdA21, rdA22, rdL1, rdL22, rdL21, upN_at, Nat.reduceAdd, Nat.reduceSub]
        rcases Nat.lt_or_ge k i with g | g
        · rw [upd_n _ _ (by omega), upd_n _ _ (by omega), upd_n _ _ (by omega), upd_n _ _ (by omega)]; exact h4 k g
        · have e : k = i := by omega
          rw [e, upd_n _ _ (by omega), upd_s, upd_s]
          exact ⟨h1 _ (by omega), h1 _ (by omega)⟩
  · dsimp only [k_X5_house_0, k_X5_house_1, k_X5_house_4, k_X5_house_7, k_X5_house_9, k_X5_house_10, k_X5_house_13, k_X5_house_14, k_X5_house_15, k_X5_house_16, k_X5_house_17, k_X5_house_18, k_X5_house_20, k_X5_house_23, k_X5_house_24, k_X5_house_27, k_X5_house_28, k_X5_house_29, k_X5_house_32, k_X5_house_33, k_X5_house_34, k_X5_house_35, k_X5_house_38, k_X5_house_41, k_X5_house_42, k_X5_house_45, k_X5_house_46, k_X5_house_47, k_X5_house_50, k_X5_house_51, k_X5_house_52, k_X5_house_53, k_X5_house_54, k_X5_house_57, k_X5_house_59, k_X5_house_60, k_X5_house_61, k_X5_house_62, k_X5_house_63, k_X5_house_64, k_X5_house_66, k_X5_house_69, k_X5_house_70, k_X5_house_73, k_X5_house_74, k_X5_house_75, k_X5_house_76, k_X5_house_77, k_X5_house_80, k_X5_house_82, k_X5_house_83, k_X5_house_84, k_X5_house_85, k_X5_house_86, k_X5_house_87, k_X5_house_90, k_X5_house_92, k_X5_house_93, k_X5_house_94, k_X5_house_95, k_X5_house_98, k_X5_house_100, k_X5_house_101, k_X5_house_102, k_X5_house_103, k_X5_house_104, k_X5_house_107, k_X5_house_110, k_X5_house_111, k_X5_house_114, k_X5_house_115, k_X5_house_116, k_X5_house_117, k_X5_house_118, k_X5_house_121, k_X5_house_122, k_X5_house_123, k_X5_house_124, k_X5_house_125, k_X5_house_126, k_X5_house_129, k_X5_house_130, k_X5_house_133, k_X5_house_134, k_X5_house_135, wp1, wp_s, cutIn, kont, Nat.reduceSub, Nat.reduceAdd, nth, o_const, o_lconst, o_ref, o_iload, o_lload, o_aload, o_istore, o_lstore, o_astore, o_iinc, o_bin, o_div, o_un, o_lbin, o_lsh, o_lcmp, o_i2l, o_l2i, o_if, o_icmp, o_goto, o_dup, o_dup2, o_pop, fav, o_getf, o_putI, o_putZ, o_putL, o_ald, o_ast, o_alen, popn, rst, o_callV, o_callT, o_callS, swx, o_sw, o_ret, o_iret, o_zret, o_cret, o_lret, o_aret, lg, lput, lput2, ls1, isL, entL, wsum, rdI1, rdI2, rdA1, rdA21, rdA22, rdL1, rdL22, rdL21, upN_at, rep, sh_0, F_0_0, F_0_1, F_0_2, F_0_3, F_0_4, F_0_5, F_0_6, F_0_7, F_0_8, sh_1, F_1_0, F_1_1, F_1_2, F_1_3, F_1_4, F_1_5, sh_3, F_3_0, F_3_1, F_3_2, F_3_3, F_3_4, F_3_5, sh_5, F_5_0, F_5_1, F_5_2, F_5_3, F_5_4, F_5_5, F_5_6, F_5_7, F_5_8, sh_12, F_12_0, F_12_1, F_12_2, F_12_3, F_12_4, F_12_5, sh_14, F_14_0, F_14_1, F_14_2, F_14_3, F_14_4, F_14_5, F_14_6, F_14_7, F_14_8, sh_21, F_21_0, F_21_1, F_21_2, F_21_3, F_21_4, F_21_5, F_21_6, F_21_7, F_21_8, sh_28, F_28_0, F_28_1, F_28_2, F_28_3, F_28_4, F_28_5, F_28_6, F_28_7, F_28_8, sh_35, F_35_0, sh_39, F_39_0, F_39_1, F_39_2, F_39_3, F_39_4, F_39_5, F_39_6, F_39_7, F_39_8, F_39_9, F_39_10, F_39_11, F_39_12, F_39_13, A_2, A_4, A_6, A_7, A_8, A_9, A_10, A_11, A_13, A_15, A_16, A_17, A_18, A_19, A_20, A_22, A_23, A_24, A_25, A_26, A_27, A_29, A_30, A_31, A_32, A_33, A_34, A_36, A_37, A_38, A_40, A_41, A_42, A_43, A_44, A_45, A_46, A_47]
    refine ⟨L, t, rfl, hT, fun s e M2 hf hm => ?_, fun d e M2 hf hD => ?_⟩
    · dsimp only [k_X5_house_0, k_X5_house_1, k_X5_house_4, k_X5_house_7, k_X5_house_9, k_X5_house_10, k_X5_house_13, k_X5_house_14, k_X5_house_15, k_X5_house_16, k_X5_house_17, k_X5_house_18, k_X5_house_20, k_X5_house_23, k_X5_house_24, k_X5_house_27, k_X5_house_28, k_X5_house_29, k_X5_house_32, k_X5_house_33, k_X5_house_34, k_X5_house_35, k_X5_house_38, k_X5_house_41, k_X5_house_42, k_X5_house_45, k_X5_house_46, k_X5_house_47, k_X5_house_50, k_X5_house_51, k_X5_house_52, k_X5_house_53, k_X5_house_54, k_X5_house_57, k_X5_house_59, k_X5_house_60, k_X5_house_61, k_X5_house_62, k_X5_house_63, k_X5_house_64, k_X5_house_66, k_X5_house_69, k_X5_house_70, k_X5_house_73, k_X5_house_74, k_X5_house_75, k_X5_house_76, k_X5_house_77, k_X5_house_80, k_X5_house_82, k_X5_house_83, k_X5_house_84, k_X5_house_85, k_X5_house_86, k_X5_house_87, k_X5_house_90, k_X5_house_92, k_X5_house_93, k_X5_house_94, k_X5_house_95, k_X5_house_98, k_X5_house_100, k_X5_house_101, k_X5_house_102, k_X5_house_103, k_X5_house_104, k_X5_house_107, k_X5_house_110, k_X5_house_111, k_X5_house_114, k_X5_house_115, k_X5_house_116, k_X5_house_117, k_X5_house_118, k_X5_house_121, k_X5_house_122, k_X5_house_123, k_X5_house_124, k_X5_house_125, k_X5_house_126, k_X5_house_129, k_X5_house_130, k_X5_house_133, k_X5_house_134, k_X5_house_135, wp1, wp_s, cutIn, kont, Nat.reduceSub, Nat.reduceAdd, nth, o_const, o_lconst, o_ref, o_iload, o_lload, o_aload, o_istore, o_lstore, o_astore, o_iinc, o_bin, o_div, o_un, o_lbin, o_lsh, o_lcmp, o_i2l, o_l2i, o_if, o_icmp, o_goto, o_dup, o_dup2, o_pop, fav, o_getf, o_putI, o_putZ, o_putL, o_ald, o_ast, o_alen, popn, rst, o_callV, o_callT, o_callS, swx, o_sw, o_ret, o_iret, o_zret, o_cret, o_lret, o_aret, lg, lput, lput2, ls1, isL, entL, wsum, rdI1, rdI2, rdA1, rdA21, rdA22, rdL1, rdL22, rdL21, upN_at, rep, sh_0, F_0_0, F_0_1, F_0_2, F_0_3, F_0_4, F_0_5, F_0_6, F_0_7, F_0_8, sh_1, F_1_0, F_1_1, F_1_2, F_1_3, F_1_4, F_1_5, sh_3, F_3_0, F_3_1, F_3_2, F_3_3, F_3_4, F_3_5, sh_5, F_5_0, F_5_1, F_5_2, F_5_3, F_5_4, F_5_5, F_5_6, F_5_7, F_5_8, sh_12, F_12_0, F_12_1, F_12_2, F_12_3, F_12_4, F_12_5, sh_14, F_14_0, F_14_1, F_14_2, F_14_3, F_14_4, F_14_5, F_14_6, F_14_7, F_14_8, sh_21, F_21_0, F_21_1, F_21_2, F_21_3, F_21_4, F_21_5, F_21_6, F_21_7, F_21_8, sh_28, F_28_0, F_28_1, F_28_2, F_28_3, F_28_4, F_28_5, F_28_6, F_28_7, F_28_8, sh_35, F_35_0, sh_39, F_39_0, F_39_1, F_39_2, F_39_3, F_39_4, F_39_5, F_39_6, F_39_7, F_39_8, F_39_9, F_39_10, F_39_11, F_39_12, F_39_13, A_2, A_4, A_6, A_7, A_8, A_9, A_10, A_11, A_13, A_15, A_16, A_17, A_18, A_19, A_20, A_22, A_23, A_24, A_25, A_26, A_27, A_29, A_30, A_31, A_32, A_33, A_34, A_36, A_37, A_38, A_40, A_41, A_42, A_43, A_44, A_45, A_46, A_47]
      simp (config := { decide := true }) only [true_implies, false_implies, and_true, true_and, not_true_eq_false, not_false_eq_true, forall_const]
      rw [hm]
      exact hn s e M2 hf
    · dsimp only [k_X5_house_0, k_X5_house_1, k_X5_house_4, k_X5_house_7, k_X5_house_9, k_X5_house_10, k_X5_house_13, k_X5_house_14, k_X5_house_15, k_X5_house_16, k_X5_house_17, k_X5_house_18, k_X5_house_20, k_X5_house_23, k_X5_house_24, k_X5_house_27, k_X5_house_28, k_X5_house_29, k_X5_house_32, k_X5_house_33, k_X5_house_34, k_X5_house_35, k_X5_house_38, k_X5_house_41, k_X5_house_42, k_X5_house_45, k_X5_house_46, k_X5_house_47, k_X5_house_50, k_X5_house_51, k_X5_house_52, k_X5_house_53, k_X5_house_54, k_X5_house_57, k_X5_house_59, k_X5_house_60, k_X5_house_61, k_X5_house_62, k_X5_house_63, k_X5_house_64, k_X5_house_66, k_X5_house_69, k_X5_house_70, k_X5_house_73, k_X5_house_74, k_X5_house_75, k_X5_house_76, k_X5_house_77, k_X5_house_80, k_X5_house_82, k_X5_house_83, k_X5_house_84, k_X5_house_85, k_X5_house_86, k_X5_house_87, k_X5_house_90, k_X5_house_92, k_X5_house_93, k_X5_house_94, k_X5_house_95, k_X5_house_98, k_X5_house_100, k_X5_house_101, k_X5_house_102, k_X5_house_103, k_X5_house_104, k_X5_house_107, k_X5_house_110, k_X5_house_111, k_X5_house_114, k_X5_house_115, k_X5_house_116, k_X5_house_117, k_X5_house_118, k_X5_house_121, k_X5_house_122, k_X5_house_123, k_X5_house_124, k_X5_house_125, k_X5_house_126, k_X5_house_129, k_X5_house_130, k_X5_house_133, k_X5_house_134, k_X5_house_135, wp1, wp_s, cutIn, kont, Nat.reduceSub, Nat.reduceAdd, nth, o_const, o_lconst, o_ref, o_iload, o_lload, o_aload, o_istore, o_lstore, o_astore, o_iinc, o_bin, o_div, o_un, o_lbin, o_lsh, o_lcmp, o_i2l, o_l2i, o_if, o_icmp, o_goto, o_dup, o_dup2, o_pop, fav, o_getf, o_putI, o_putZ, o_putL, o_ald, o_ast, o_alen, popn, rst, o_callV, o_callT, o_callS, swx, o_sw, o_ret, o_iret, o_zret, o_cret, o_lret, o_aret, lg, lput, lput2, ls1, isL, entL, wsum, rdI1, rdI2, rdA1, rdA21, rdA22, rdL1, rdL22, rdL21, upN_at, rep, sh_0, F_0_0, F_0_1, F_0_2, F_0_3, F_0_4, F_0_5, F_0_6, F_0_7, F_0_8, sh_1, F_1_0, F_1_1, F_1_2, F_1_3, F_1_4, F_1_5, sh_3, F_3_0, F_3_1, F_3_2, F_3_3, F_3_4, F_3_5, sh_5, F_5_0, F_5_1, F_5_2, F_5_3, F_5_4, F_5_5, F_5_6, F_5_7, F_5_8, sh_12, F_12_0, F_12_1, F_12_2, F_12_3, F_12_4, F_12_5, sh_14, F_14_0, F_14_1, F_14_2, F_14_3, F_14_4, F_14_5, F_14_6, F_14_7, F_14_8, sh_21, F_21_0, F_21_1, F_21_2, F_21_3, F_21_4, F_21_5, F_21_6, F_21_7, F_21_8, sh_28, F_28_0, F_28_1, F_28_2, F_28_3, F_28_4, F_28_5, F_28_6, F_28_7, F_28_8, sh_35, F_35_0, sh_39, F_39_0, F_39_1, F_39_2, F_39_3, F_39_4, F_39_5, F_39_6, F_39_7, F_39_8, F_39_9, F_39_10, F_39_11, F_39_12, F_39_13, A_2, A_4, A_6, A_7, A_8, A_9, A_10, A_11, A_13, A_15, A_16, A_17, A_18, A_19, A_20, A_22, A_23, A_24, A_25, A_26, A_27, A_29, A_30, A_31, A_32, A_33, A_34, A_36, A_37, A_38, A_40, A_41, A_42, A_43, A_44, A_45, A_46, A_47]
      simp (config := { decide := true }) only [true_implies, false_implies, and_true, true_and, not_true_eq_false, not_false_eq_true, forall_const]
      exact cut _ _ ⟨rfl, d, e, frO_M hf, Or.inl ⟨rfl, 0, by omega, fun k hk => absurd hk (by omega), hD.1, rfl, rfl⟩⟩ (by omega) ⟨rfl, rfl, trivial⟩
theorem c_X5_house : Ctr yX5_house cX5_house 2 (some .int) ({ frames := 7, cells := 0, slots := 0, locals := 151 } : Room) S_X5_house := ctr_of (T := T_X5_house) (by decide +kernel) (fun post C hr => t_X5_house post C hr) v_X5_house
