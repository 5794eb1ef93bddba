/-! The class's face: a set of keys and a lock it slips past by one notch; odds. -/
def xrN (f : Nat → Nat) (T : Nat) : Nat → Nat
  | 0 => 0
  | n + 1 => if T.testBit n = true then xrN f T n ^^^ f n else xrN f T n
theorem xr_lt {f : Nat → Nat} {T : Nat} : ∀ n, (∀ k, k < n → f k < 512) → xrN f T n < 512 := by
  intro n
  induction n with
  | zero => intro _; show 0 < 512; omega
  | succ n ih =>
    intro h
    have ih := ih (fun k hk => h k (by omega))
    rw [xrN]
    split
    · exact Nat.xor_lt_two_pow (n := 9) ih (h n (by omega))
    · exact ih
theorem xr_I {g : Nat → Int32} {f : Nat → Nat} {T : Nat} : ∀ n, (∀ k, k < n → g k = nI (f k)) → xrI g T n = nI (xrN f T n) := by
  intro n
  induction n with
  | zero => intro _; rfl
  | succ n ih =>
    intro h
    rw [xrI, xrN, ih (fun k hk => h k (by omega)), h n (by omega)]
    split
    · rw [nI_xor]
    · rfl
theorem bits_len (T : Nat) : ∀ n, (bits T n).length = cn T n := by
  intro n
  induction n with
  | zero => rfl
  | succ n ih =>
    rw [bits_s, cn]
    split
    · rw [List.length_append, ih]; rfl
    · exact ih
theorem bits_lt (T : Nat) (n i k : Nat) (h : (bits T n)[i]? = some k) : k < n := by
  have := List.mem_of_getElem? h
  unfold bits at this
  simpa using (List.mem_filter.mp this).1
/-- how many keys slip -/
def slN (r : Nat → Nat) (n w T : Nat) : Nat := if cn (xrN r T n ^^^ w) 9 = 1 then cn T 9 else 0
def S_X4_slips : SP := fun as M post => ∃ x y z n c p r h lk, as = [VR 0, VI x, VI y, VI z] ∧ XW M n c p r h lk ∧ (¬ (In x (us h n) ∧ (0 ≤ y ∧ y < nI c) ∧ -1 ≤ z) → post (some (VI (-1))) M) ∧
  (∀ T l, x = nI T → T &&& us h n = T → y = nI l → l < c → (z = -1 → post (some (VI (nI (slN r n (lk l) T)))) M) ∧ (∀ i k t, z = nI i → i < slN r n (lk l) T → (bits T 9)[i]? = some k → (bits (xrN r T n ^^^ lk l) 9)[0]? = some t → post (some (VI (nI (10 * k + t)))) M) ∧ (∀ i, z = nI i → i < 2 ^ 31 → slN r n (lk l) T ≤ i → post (some (VI (-5))) M))
theorem cw_RX4_175 : ∀ w ∈ ([.methodLink RX4 175 yX4_bitAt, .static yX4_bitAt, .initialized yX4_bitAt.cls, .code yX4_bitAt cX4_bitAt 4 (some .int)] : List Cond), w ∈ tb := tb_all [562, 563, 54, 564] (by decide +kernel) (by decide +kernel)
theorem dX4_slips_0 : decode cX4_slips 0 = .ok (.iload_n 1, 1) := by decide +kernel
theorem dX4_slips_1 : decode cX4_slips 1 = .ok (.aload_n 0, 1) := by decide +kernel
theorem dX4_slips_2 : decode cX4_slips 2 = .ok (.getfield 19, 3) := by decide +kernel
theorem dX4_slips_5 : decode cX4_slips 5 = .ok (.getfield 71, 3) := by decide +kernel
theorem dX4_slips_8 : decode cX4_slips 8 = .ok (.invokevirtual 93, 3) := by decide +kernel
theorem dX4_slips_11 : decode cX4_slips 11 = .ok (.invokestatic 97, 3) := by decide +kernel
theorem dX4_slips_14 : decode cX4_slips 14 = .ok (.ifCond .eq 19, 3) := by decide +kernel
theorem dX4_slips_17 : decode cX4_slips 17 = .ok (.aload_n 0, 1) := by decide +kernel
theorem dX4_slips_18 : decode cX4_slips 18 = .ok (.getfield 19, 3) := by decide +kernel
theorem dX4_slips_21 : decode cX4_slips 21 = .ok (.iload_n 2, 1) := by decide +kernel
theorem dX4_slips_22 : decode cX4_slips 22 = .ok (.invokevirtual 87, 3) := by decide +kernel
theorem dX4_slips_25 : decode cX4_slips 25 = .ok (.ifCond .eq 8, 3) := by decide +kernel
theorem dX4_slips_28 : decode cX4_slips 28 = .ok (.iload_n 3, 1) := by decide +kernel
theorem dX4_slips_29 : decode cX4_slips 29 = .ok (.iconst (-1), 1) := by decide +kernel
theorem dX4_slips_30 : decode cX4_slips 30 = .ok (.if_icmp .ge 5, 3) := by decide +kernel
theorem dX4_slips_33 : decode cX4_slips 33 = .ok (.iconst (-1), 1) := by decide +kernel
theorem dX4_slips_34 : decode cX4_slips 34 = .ok (.ireturn, 1) := by decide +kernel
theorem dX4_slips_35 : decode cX4_slips 35 = .ok (.aload_n 0, 1) := by decide +kernel
theorem dX4_slips_36 : decode cX4_slips 36 = .ok (.getfield 19, 3) := by decide +kernel
theorem dX4_slips_39 : decode cX4_slips 39 = .ok (.getfield 71, 3) := by decide +kernel
theorem dX4_slips_42 : decode cX4_slips 42 = .ok (.iload_n 1, 1) := by decide +kernel
theorem dX4_slips_43 : decode cX4_slips 43 = .ok (.invokevirtual 101, 3) := by decide +kernel
theorem dX4_slips_46 : decode cX4_slips 46 = .ok (.aload_n 0, 1) := by decide +kernel
theorem dX4_slips_47 : decode cX4_slips 47 = .ok (.getfield 19, 3) := by decide +kernel
theorem dX4_slips_50 : decode cX4_slips 50 = .ok (.getfield 90, 3) := by decide +kernel
theorem dX4_slips_53 : decode cX4_slips 53 = .ok (.iload_n 2, 1) := by decide +kernel
theorem dX4_slips_54 : decode cX4_slips 54 = .ok (.iaload, 1) := by decide +kernel
theorem dX4_slips_55 : decode cX4_slips 55 = .ok (.ixor, 1) := by decide +kernel
theorem dX4_slips_56 : decode cX4_slips 56 = .ok (.istore 4, 2) := by decide +kernel
theorem dX4_slips_58 : decode cX4_slips 58 = .ok (.iload 4, 2) := by decide +kernel
theorem dX4_slips_60 : decode cX4_slips 60 = .ok (.invokestatic 132, 3) := by decide +kernel
theorem dX4_slips_63 : decode cX4_slips 63 = .ok (.iconst 1, 1) := by decide +kernel
theorem dX4_slips_64 : decode cX4_slips 64 = .ok (.if_icmp .ne 10, 3) := by decide +kernel
theorem dX4_slips_67 : decode cX4_slips 67 = .ok (.iload_n 1, 1) := by decide +kernel
theorem dX4_slips_68 : decode cX4_slips 68 = .ok (.invokestatic 132, 3) := by decide +kernel
theorem dX4_slips_71 : decode cX4_slips 71 = .ok (.goto 4, 3) := by decide +kernel
theorem dX4_slips_74 : decode cX4_slips 74 = .ok (.iconst 0, 1) := by decide +kernel
theorem dX4_slips_75 : decode cX4_slips 75 = .ok (.istore 5, 2) := by decide +kernel
theorem dX4_slips_77 : decode cX4_slips 77 = .ok (.iload_n 3, 1) := by decide +kernel
theorem dX4_slips_78 : decode cX4_slips 78 = .ok (.iconst (-1), 1) := by decide +kernel
theorem dX4_slips_79 : decode cX4_slips 79 = .ok (.if_icmp .ne 6, 3) := by decide +kernel
theorem dX4_slips_82 : decode cX4_slips 82 = .ok (.iload 5, 2) := by decide +kernel
theorem dX4_slips_84 : decode cX4_slips 84 = .ok (.ireturn, 1) := by decide +kernel
theorem dX4_slips_85 : decode cX4_slips 85 = .ok (.iload_n 3, 1) := by decide +kernel
theorem dX4_slips_86 : decode cX4_slips 86 = .ok (.iload 5, 2) := by decide +kernel
theorem dX4_slips_88 : decode cX4_slips 88 = .ok (.if_icmp .ge 21, 3) := by decide +kernel
theorem dX4_slips_91 : decode cX4_slips 91 = .ok (.bipush 10, 2) := by decide +kernel
theorem dX4_slips_93 : decode cX4_slips 93 = .ok (.iload_n 1, 1) := by decide +kernel
theorem dX4_slips_94 : decode cX4_slips 94 = .ok (.iload_n 3, 1) := by decide +kernel
theorem dX4_slips_95 : decode cX4_slips 95 = .ok (.invokestatic 175, 3) := by decide +kernel
theorem dX4_slips_98 : decode cX4_slips 98 = .ok (.imul, 1) := by decide +kernel
theorem dX4_slips_99 : decode cX4_slips 99 = .ok (.iload 4, 2) := by decide +kernel
theorem dX4_slips_101 : decode cX4_slips 101 = .ok (.iconst 0, 1) := by decide +kernel
theorem dX4_slips_102 : decode cX4_slips 102 = .ok (.invokestatic 175, 3) := by decide +kernel
theorem dX4_slips_105 : decode cX4_slips 105 = .ok (.iadd, 1) := by decide +kernel
theorem dX4_slips_106 : decode cX4_slips 106 = .ok (.goto 5, 3) := by decide +kernel
theorem dX4_slips_109 : decode cX4_slips 109 = .ok (.bipush (-5), 2) := by decide +kernel
theorem dX4_slips_111 : decode cX4_slips 111 = .ok (.ireturn, 1) := by decide +kernel
def T_X4_slips (post : PO) : List (Nat × OP) := [(0, o_iload 1 1), (1, o_aload 0 2), (2, o_getf 4 1 5), (5, o_getf 0 0 8), (8, o_callV 1 S_X1_usable 0 11), (11, o_callS S_X4_within 2 14), (14, o_if (fun x => x = 0) 33 17), (17, o_aload 0 18), (18, o_getf 4 1 21), (21, o_iload 2 22), (22, o_callV 0 S_X0_hasLock 1 25), (25, o_if (fun x => x = 0) 33 28), (28, o_iload 3 29), (29, o_const (-1) 30), (30, o_icmp (fun x y => y ≤ x) 35 33), (33, o_const (-1) 34), (34, o_iret post), (35, o_aload 0 36), (36, o_getf 4 1 39), (39, o_getf 0 0 42), (42, o_iload 1 43), (43, o_callV 1 S_X1_madeBy 1 46), (46, o_aload 0 47), (47, o_getf 4 1 50), (50, o_getf 0 1 53), (53, o_iload 2 54), (54, o_ald 0 55), (55, o_bin (fun x y => x ^^^ y) 56), (56, o_istore 4 58), (58, o_iload 4 60), (60, o_callS S_J6_bitCount_0f7a4 1 63), (63, o_const 1 64), (64, o_icmp (fun x y => x = y) 67 74), (67, o_iload 1 68), (68, o_callS S_J6_bitCount_0f7a4 1 71), (71, o_goto 75), (74, o_const 0 75), (75, o_istore 5 77), (77, o_iload 3 78), (78, o_const (-1) 79), (79, o_icmp (fun x y => x = y) 82 85), (82, o_iload 5 84), (84, o_iret post), (85, o_iload 3 86), (86, o_iload 5 88), (88, o_icmp (fun x y => y ≤ x) 109 91), (91, o_const 10 93), (93, o_iload 1 94), (94, o_iload 3 95), (95, o_callS S_X4_bitAt 2 98), (98, o_bin (fun x y => x * y) 99), (99, o_iload 4 101), (101, o_const 0 102), (102, o_callS S_X4_bitAt 2 105), (105, o_bin (fun x y => x + y) 106), (106, o_goto 111), (109, o_const (-5) 111), (111, o_iret post)]
theorem k_X4_slips_0 (post : PO) : lk (T_X4_slips post) 0 = o_iload 1 1 := rfl
theorem k_X4_slips_1 (post : PO) : lk (T_X4_slips post) 1 = o_aload 0 2 := rfl
theorem k_X4_slips_2 (post : PO) : lk (T_X4_slips post) 2 = o_getf 4 1 5 := rfl
theorem k_X4_slips_5 (post : PO) : lk (T_X4_slips post) 5 = o_getf 0 0 8 := rfl
theorem k_X4_slips_8 (post : PO) : lk (T_X4_slips post) 8 = o_callV 1 S_X1_usable 0 11 := rfl
theorem k_X4_slips_11 (post : PO) : lk (T_X4_slips post) 11 = o_callS S_X4_within 2 14 := rfl
theorem k_X4_slips_14 (post : PO) : lk (T_X4_slips post) 14 = o_if (fun x => x = 0) 33 17 := rfl
theorem k_X4_slips_17 (post : PO) : lk (T_X4_slips post) 17 = o_aload 0 18 := rfl
theorem k_X4_slips_18 (post : PO) : lk (T_X4_slips post) 18 = o_getf 4 1 21 := rfl
theorem k_X4_slips_21 (post : PO) : lk (T_X4_slips post) 21 = o_iload 2 22 := rfl
theorem k_X4_slips_22 (post : PO) : lk (T_X4_slips post) 22 = o_callV 0 S_X0_hasLock 1 25 := rfl
theorem k_X4_slips_25 (post : PO) : lk (T_X4_slips post) 25 = o_if (fun x => x = 0) 33 28 := rfl
theorem k_X4_slips_28 (post : PO) : lk (T_X4_slips post) 28 = o_iload 3 29 := rfl
theorem k_X4_slips_29 (post : PO) : lk (T_X4_slips post) 29 = o_const (-1) 30 := rfl
theorem k_X4_slips_30 (post : PO) : lk (T_X4_slips post) 30 = o_icmp (fun x y => y ≤ x) 35 33 := rfl
theorem k_X4_slips_33 (post : PO) : lk (T_X4_slips post) 33 = o_const (-1) 34 := rfl
theorem k_X4_slips_34 (post : PO) : lk (T_X4_slips post) 34 = o_iret post := rfl
theorem k_X4_slips_35 (post : PO) : lk (T_X4_slips post) 35 = o_aload 0 36 := rfl
theorem k_X4_slips_36 (post : PO) : lk (T_X4_slips post) 36 = o_getf 4 1 39 := rfl
theorem k_X4_slips_39 (post : PO) : lk (T_X4_slips post) 39 = o_getf 0 0 42 := rfl
theorem k_X4_slips_42 (post : PO) : lk (T_X4_slips post) 42 = o_iload 1 43 := rfl
theorem k_X4_slips_43 (post : PO) : lk (T_X4_slips post) 43 = o_callV 1 S_X1_madeBy 1 46 := rfl
theorem k_X4_slips_46 (post : PO) : lk (T_X4_slips post) 46 = o_aload 0 47 := rfl
theorem k_X4_slips_47 (post : PO) : lk (T_X4_slips post) 47 = o_getf 4 1 50 := rfl
theorem k_X4_slips_50 (post : PO) : lk (T_X4_slips post) 50 = o_getf 0 1 53 := rfl
theorem k_X4_slips_53 (post : PO) : lk (T_X4_slips post) 53 = o_iload 2 54 := rfl
theorem k_X4_slips_54 (post : PO) : lk (T_X4_slips post) 54 = o_ald 0 55 := rfl
theorem k_X4_slips_55 (post : PO) : lk (T_X4_slips post) 55 = o_bin (fun x y => x ^^^ y) 56 := rfl
theorem k_X4_slips_56 (post : PO) : lk (T_X4_slips post) 56 = o_istore 4 58 := rfl
theorem k_X4_slips_58 (post : PO) : lk (T_X4_slips post) 58 = o_iload 4 60 := rfl
theorem k_X4_slips_60 (post : PO) : lk (T_X4_slips post) 60 = o_callS S_J6_bitCount_0f7a4 1 63 := rfl
theorem k_X4_slips_63 (post : PO) : lk (T_X4_slips post) 63 = o_const 1 64 := rfl
theorem k_X4_slips_64 (post : PO) : lk (T_X4_slips post) 64 = o_icmp (fun x y => x = y) 67 74 := rfl
theorem k_X4_slips_67 (post : PO) : lk (T_X4_slips post) 67 = o_iload 1 68 := rfl
theorem k_X4_slips_68 (post : PO) : lk (T_X4_slips post) 68 = o_callS S_J6_bitCount_0f7a4 1 71 := rfl
theorem k_X4_slips_71 (post : PO) : lk (T_X4_slips post) 71 = o_goto 75 := rfl
theorem k_X4_slips_74 (post : PO) : lk (T_X4_slips post) 74 = o_const 0 75 := rfl
theorem k_X4_slips_75 (post : PO) : lk (T_X4_slips post) 75 = o_istore 5 77 := rfl
theorem k_X4_slips_77 (post : PO) : lk (T_X4_slips post) 77 = o_iload 3 78 := rfl
theorem k_X4_slips_78 (post : PO) : lk (T_X4_slips post) 78 = o_const (-1) 79 := rfl
theorem k_X4_slips_79 (post : PO) : lk (T_X4_slips post) 79 = o_icmp (fun x y => x = y) 82 85 := rfl
theorem k_X4_slips_82 (post : PO) : lk (T_X4_slips post) 82 = o_iload 5 84 := rfl
theorem k_X4_slips_84 (post : PO) : lk (T_X4_slips post) 84 = o_iret post := rfl
theorem k_X4_slips_85 (post : PO) : lk (T_X4_slips post) 85 = o_iload 3 86 := rfl
theorem k_X4_slips_86 (post : PO) : lk (T_X4_slips post) 86 = o_iload 5 88 := rfl
theorem k_X4_slips_88 (post : PO) : lk (T_X4_slips post) 88 = o_icmp (fun x y => y ≤ x) 109 91 := rfl
theorem k_X4_slips_91 (post : PO) : lk (T_X4_slips post) 91 = o_const 10 93 := rfl
theorem k_X4_slips_93 (post : PO) : lk (T_X4_slips post) 93 = o_iload 1 94 := rfl
theorem k_X4_slips_94 (post : PO) : lk (T_X4_slips post) 94 = o_iload 3 95 := rfl
theorem k_X4_slips_95 (post : PO) : lk (T_X4_slips post) 95 = o_callS S_X4_bitAt 2 98 := rfl
theorem k_X4_slips_98 (post : PO) : lk (T_X4_slips post) 98 = o_bin (fun x y => x * y) 99 := rfl
theorem k_X4_slips_99 (post : PO) : lk (T_X4_slips post) 99 = o_iload 4 101 := rfl
theorem k_X4_slips_101 (post : PO) : lk (T_X4_slips post) 101 = o_const 0 102 := rfl
theorem k_X4_slips_102 (post : PO) : lk (T_X4_slips post) 102 = o_callS S_X4_bitAt 2 105 := rfl
theorem k_X4_slips_105 (post : PO) : lk (T_X4_slips post) 105 = o_bin (fun x y => x + y) 106 := rfl
theorem k_X4_slips_106 (post : PO) : lk (T_X4_slips post) 106 = o_goto 111 := rfl
theorem k_X4_slips_109 (post : PO) : lk (T_X4_slips post) 109 = o_const (-5) 111 := rfl
theorem k_X4_slips_111 (post : PO) : lk (T_X4_slips post) 111 = o_iret post := rfl
set_option maxRecDepth 100000 in
theorem t_X4_slips {p : Program} {l : Launch} {e : Env} {s : State} {m : MethodId} {args : Array Value} {below : List Frame} {meth : Method} {c : Code} {D : va_G} {dA : Nat → ClassId} {ad : Nat → Nat} (post : PO) (C : CX p s m args meth c cX4_slips 6 yX4_slips.cls D dA ad (AA ad s.heap.size)) (hr : meth.sig.returnType = (some .int)) : SndL (WW p l e ({ frames := 2, cells := 0, slots := 0, locals := 43 } : Room) s m args below meth c 0 0 (MQ below (CQ D dA ad post (AA ad s.heap.size)) args s 0 0 (AA ad s.heap.size)) 6 D dA ad (AA ad s.heap.size)) (T_X4_slips post) := by
  refine snd_c (s_iload_n C rfl dX4_slips_0) ?_
  refine snd_c (s_aload_n C rfl dX4_slips_1) ?_
  refine snd_c (s_getf C (ci := 4) (j := 1) (T := TX4) rfl inX4 (by decide) fl_RX4_19 dX4_slips_2) ?_
  refine snd_c (s_getf C (ci := 0) (j := 0) (T := TX0) rfl inX0 (by decide) fl_RX4_71 dX4_slips_5) ?_
  refine snd_c (s_callV C (ci := 1) c_X1_usable rfl cw_RX4_93 ⟨rfl, rfl⟩ ⟨by decide +kernel, by decide +kernel, by decide +kernel⟩ ⟨by decide, by decide⟩ ⟨Nat.zero_le _, Nat.zero_le _⟩ dX4_slips_8) ?_
  refine snd_c (s_callS C c_X4_within cw_RX4_97 ⟨rfl, rfl⟩ ⟨by decide +kernel, by decide +kernel, by decide +kernel⟩ ⟨by decide, by decide⟩ ⟨Nat.zero_le _, Nat.zero_le _⟩ dX4_slips_11) ?_
  refine snd_c (s_if_eq C dX4_slips_14 (by decide)) ?_
  refine snd_c (s_aload_n C rfl dX4_slips_17) ?_
  refine snd_c (s_getf C (ci := 4) (j := 1) (T := TX4) rfl inX4 (by decide) fl_RX4_19 dX4_slips_18) ?_
  refine snd_c (s_iload_n C rfl dX4_slips_21) ?_
  refine snd_c (s_callV C (ci := 0) c_X0_hasLock rfl cw_RX4_87 ⟨rfl, rfl⟩ ⟨by decide +kernel, by decide +kernel, by decide +kernel⟩ ⟨by decide, by decide⟩ ⟨Nat.zero_le _, Nat.zero_le _⟩ dX4_slips_22) ?_
  refine snd_c (s_if_eq C dX4_slips_25 (by decide)) ?_
  refine snd_c (s_iload_n C rfl dX4_slips_28) ?_
  refine snd_c (s_iconst C dX4_slips_29 rfl) ?_
  refine snd_c (s_icmp_ge C dX4_slips_30 (by decide)) ?_
  refine snd_c (s_iconst C dX4_slips_33 rfl) ?_
  refine snd_c (s_iret C hr dX4_slips_34) ?_
  refine snd_c (s_aload_n C rfl dX4_slips_35) ?_
  refine snd_c (s_getf C (ci := 4) (j := 1) (T := TX4) rfl inX4 (by decide) fl_RX4_19 dX4_slips_36) ?_
  refine snd_c (s_getf C (ci := 0) (j := 0) (T := TX0) rfl inX0 (by decide) fl_RX4_71 dX4_slips_39) ?_
  refine snd_c (s_iload_n C rfl dX4_slips_42) ?_
  refine snd_c (s_callV C (ci := 1) c_X1_madeBy rfl cw_RX4_101 ⟨rfl, rfl⟩ ⟨by decide +kernel, by decide +kernel, by decide +kernel⟩ ⟨by decide, by decide⟩ ⟨Nat.zero_le _, Nat.zero_le _⟩ dX4_slips_43) ?_
  refine snd_c (s_aload_n C rfl dX4_slips_46) ?_
  refine snd_c (s_getf C (ci := 4) (j := 1) (T := TX4) rfl inX4 (by decide) fl_RX4_19 dX4_slips_47) ?_
  refine snd_c (s_getf C (ci := 0) (j := 1) (T := TX0) rfl inX0 (by decide) fl_RX4_90 dX4_slips_50) ?_
  refine snd_c (s_iload_n C rfl dX4_slips_53) ?_
  refine snd_c (s_iald C dX4_slips_54) ?_
  refine snd_c (s_ixor C dX4_slips_55) ?_
  refine snd_c (s_istore C (by decide) dX4_slips_56) ?_
  refine snd_c (s_iload C dX4_slips_58) ?_
  refine snd_c (s_callS C c_J6_bitCount_0f7a4 cw_RX4_132 ⟨rfl, rfl⟩ ⟨by decide +kernel, by decide +kernel, by decide +kernel⟩ ⟨by decide, by decide⟩ ⟨Nat.zero_le _, Nat.zero_le _⟩ dX4_slips_60) ?_
  refine snd_c (s_iconst C dX4_slips_63 rfl) ?_
  refine snd_c (s_icmp_ne C dX4_slips_64 (by decide)) ?_
  refine snd_c (s_iload_n C rfl dX4_slips_67) ?_
  refine snd_c (s_callS C c_J6_bitCount_0f7a4 cw_RX4_132 ⟨rfl, rfl⟩ ⟨by decide +kernel, by decide +kernel, by decide +kernel⟩ ⟨by decide, by decide⟩ ⟨Nat.zero_le _, Nat.zero_le _⟩ dX4_slips_68) ?_
  refine snd_c (s_goto C dX4_slips_71 (by decide)) ?_
  refine snd_c (s_iconst C dX4_slips_74 rfl) ?_
  refine snd_c (s_istore C (by decide) dX4_slips_75) ?_
  refine snd_c (s_iload_n C rfl dX4_slips_77) ?_
  refine snd_c (s_iconst C dX4_slips_78 rfl) ?_
  refine snd_c (s_icmp_ne C dX4_slips_79 (by decide)) ?_
  refine snd_c (s_iload C dX4_slips_82) ?_
  refine snd_c (s_iret C hr dX4_slips_84) ?_
  refine snd_c (s_iload_n C rfl dX4_slips_85) ?_
  refine snd_c (s_iload C dX4_slips_86) ?_
  refine snd_c (s_icmp_ge C dX4_slips_88 (by decide)) ?_
  refine snd_c (s_bipush C dX4_slips_91 rfl) ?_
  refine snd_c (s_iload_n C rfl dX4_slips_93) ?_
  refine snd_c (s_iload_n C rfl dX4_slips_94) ?_
  refine snd_c (s_callS C c_X4_bitAt cw_RX4_175 ⟨rfl, rfl⟩ ⟨by decide +kernel, by decide +kernel, by decide +kernel⟩ ⟨by decide, by decide⟩ ⟨Nat.zero_le _, Nat.zero_le _⟩ dX4_slips_95) ?_
  refine snd_c (s_imul C dX4_slips_98) ?_
  refine snd_c (s_iload C dX4_slips_99) ?_
  refine snd_c (s_iconst C dX4_slips_101 rfl) ?_
  refine snd_c (s_callS C c_X4_bitAt cw_RX4_175 ⟨rfl, rfl⟩ ⟨by decide +kernel, by decide +kernel, by decide +kernel⟩ ⟨by decide, by decide⟩ ⟨Nat.zero_le _, Nat.zero_le _⟩ dX4_slips_102) ?_
  refine snd_c (s_iadd C dX4_slips_105) ?_
  refine snd_c (s_goto C dX4_slips_106 (by decide)) ?_
  refine snd_c (s_bipush C dX4_slips_109 rfl) ?_
  refine snd_c (s_iret C hr dX4_slips_111) ?_
  exact trivial
theorem ge_m1 {z : Int32} (h : -1 ≤ z) (h2 : ¬ z = -1) : ∃ i, z = nI i ∧ i < 2 ^ 31 := by
  obtain ⟨m, hm, rfl⟩ := i_nat z
  refine ⟨m, rfl, ?_⟩
  rcases Nat.lt_or_ge m (2 ^ 31) with g | g
  · exact g
  · exfalso
    have h3 : (nI m).toInt ≠ (-1 : Int32).toInt := fun e => h2 (Int32.toInt_inj.mp e)
    have e1 : (-1 : Int32).toInt = -1 := by decide
    have e2 : (nI m).toInt = (BitVec.ofNat 32 m).toInt := rfl
    rw [Int32.le_iff_toInt_le, e1] at h
    rw [BitVec.toInt_eq_toNat_cond, BitVec.toNat_ofNat, Nat.mod_eq_of_lt hm] at e2
    split at e2 <;> omega
set_option maxRecDepth 100000 in
theorem v_X4_slips : ∀ as M post, S_X4_slips as M post → wsum as ≤ 6 ∧ RUN (T_X4_slips post) 0 (entL 6 as) [] M := by
  rintro as M post ⟨x, y, z, n, c, p, r, h0, lk, rfl, hX, h1, h2⟩
  obtain ⟨hn, hn8, hc, hc6, hp, hp4, hr, hhk, hl⟩ := hX
  have hul := us_lt h0 hn8
  refine ⟨by show 4 ≤ 6; omega, run_wp 60 ?_⟩
  dsimp only [k_X4_slips_0, k_X4_slips_1, k_X4_slips_2, k_X4_slips_5, k_X4_slips_8, k_X4_slips_11, k_X4_slips_14, k_X4_slips_17, k_X4_slips_18, k_X4_slips_21, k_X4_slips_22, k_X4_slips_25, k_X4_slips_28, k_X4_slips_29, k_X4_slips_30, k_X4_slips_33, k_X4_slips_34, k_X4_slips_35, k_X4_slips_36, k_X4_slips_39, k_X4_slips_42, k_X4_slips_43, k_X4_slips_46, k_X4_slips_47, k_X4_slips_50, k_X4_slips_53, k_X4_slips_54, k_X4_slips_55, k_X4_slips_56, k_X4_slips_58, k_X4_slips_60, k_X4_slips_63, k_X4_slips_64, k_X4_slips_67, k_X4_slips_68, k_X4_slips_71, k_X4_slips_74, k_X4_slips_75, k_X4_slips_77, k_X4_slips_78, k_X4_slips_79, k_X4_slips_82, k_X4_slips_84, k_X4_slips_85, k_X4_slips_86, k_X4_slips_88, k_X4_slips_91, k_X4_slips_93, k_X4_slips_94, k_X4_slips_95, k_X4_slips_98, k_X4_slips_99, k_X4_slips_101, k_X4_slips_102, k_X4_slips_105, k_X4_slips_106, k_X4_slips_109, k_X4_slips_111, wp1, wp_s, cutIn, kont, Nat.reduceSub, Nat.reduceAdd, nth, o_const, o_lconst, o_ref, o_iload, o_lload, o_aload, o_istore, o_lstore, o_astore, o_iinc, o_bin, o_div, o_un, o_lbin, o_lsh, o_lcmp, o_i2l, o_l2i, o_if, o_icmp, o_goto, o_dup, o_dup2, o_pop, fav, o_getf, o_putI, o_putZ, o_putL, o_ald, o_ast, o_alen, popn, rst, o_callV, o_callT, o_callS, swx, o_sw, o_ret, o_iret, o_zret, o_cret, o_lret, o_aret, lg, lput, lput2, ls1, isL, entL, wsum, rdI1, rdI2, rdA1, rdA21, rdA22, rdL1, rdL22, rdL21, upN_at, rep, sh_0, F_0_0, F_0_1, F_0_2, F_0_3, F_0_4, F_0_5, F_0_6, F_0_7, F_0_8, sh_1, F_1_0, F_1_1, F_1_2, F_1_3, F_1_4, F_1_5, sh_3, F_3_0, F_3_1, F_3_2, F_3_3, F_3_4, F_3_5, sh_5, F_5_0, F_5_1, F_5_2, F_5_3, F_5_4, F_5_5, F_5_6, F_5_7, F_5_8, sh_12, F_12_0, F_12_1, F_12_2, F_12_3, F_12_4, F_12_5, sh_14, F_14_0, F_14_1, F_14_2, F_14_3, F_14_4, F_14_5, F_14_6, F_14_7, F_14_8, sh_21, F_21_0, F_21_1, F_21_2, F_21_3, F_21_4, F_21_5, F_21_6, F_21_7, F_21_8, sh_28, F_28_0, F_28_1, F_28_2, F_28_3, F_28_4, F_28_5, F_28_6, F_28_7, F_28_8, sh_35, F_35_0, sh_39, F_39_0, F_39_1, F_39_2, F_39_3, F_39_4, F_39_5, F_39_6, F_39_7, F_39_8, F_39_9, F_39_10, F_39_11, F_39_12, F_39_13, A_2, A_4, A_6, A_7, A_8, A_9, A_10, A_11, A_13, A_15, A_16, A_17, A_18, A_19, A_20, A_22, A_23, A_24, A_25, A_26, A_27, A_29, A_30, A_31, A_32, A_33, A_34, A_36, A_37, A_38, A_40, A_41, A_42, A_43, A_44, A_45, A_46, A_47]
  refine ⟨n, rfl, hn, hn8, ?_⟩
  rw [show mk (fun k => !(M.2.2 3 k == -3)) n = us h0 n from us_congr hhk]
  dsimp only [k_X4_slips_0, k_X4_slips_1, k_X4_slips_2, k_X4_slips_5, k_X4_slips_8, k_X4_slips_11, k_X4_slips_14, k_X4_slips_17, k_X4_slips_18, k_X4_slips_21, k_X4_slips_22, k_X4_slips_25, k_X4_slips_28, k_X4_slips_29, k_X4_slips_30, k_X4_slips_33, k_X4_slips_34, k_X4_slips_35, k_X4_slips_36, k_X4_slips_39, k_X4_slips_42, k_X4_slips_43, k_X4_slips_46, k_X4_slips_47, k_X4_slips_50, k_X4_slips_53, k_X4_slips_54, k_X4_slips_55, k_X4_slips_56, k_X4_slips_58, k_X4_slips_60, k_X4_slips_63, k_X4_slips_64, k_X4_slips_67, k_X4_slips_68, k_X4_slips_71, k_X4_slips_74, k_X4_slips_75, k_X4_slips_77, k_X4_slips_78, k_X4_slips_79, k_X4_slips_82, k_X4_slips_84, k_X4_slips_85, k_X4_slips_86, k_X4_slips_88, k_X4_slips_91, k_X4_slips_93, k_X4_slips_94, k_X4_slips_95, k_X4_slips_98, k_X4_slips_99, k_X4_slips_101, k_X4_slips_102, k_X4_slips_105, k_X4_slips_106, k_X4_slips_109, k_X4_slips_111, wp1, wp_s, cutIn, kont, Nat.reduceSub, Nat.reduceAdd, nth, o_const, o_lconst, o_ref, o_iload, o_lload, o_aload, o_istore, o_lstore, o_astore, o_iinc, o_bin, o_div, o_un, o_lbin, o_lsh, o_lcmp, o_i2l, o_l2i, o_if, o_icmp, o_goto, o_dup, o_dup2, o_pop, fav, o_getf, o_putI, o_putZ, o_putL, o_ald, o_ast, o_alen, popn, rst, o_callV, o_callT, o_callS, swx, o_sw, o_ret, o_iret, o_zret, o_cret, o_lret, o_aret, lg, lput, lput2, ls1, isL, entL, wsum, rdI1, rdI2, rdA1, rdA21, rdA22, rdL1, rdL22, rdL21, upN_at, rep, sh_0, F_0_0, F_0_1, F_0_2, F_0_3, F_0_4, F_0_5, F_0_6, F_0_7, F_0_8, sh_1, F_1_0, F_1_1, F_1_2, F_1_3, F_1_4, F_1_5, sh_3, F_3_0, F_3_1, F_3_2, F_3_3, F_3_4, F_3_5, sh_5, F_5_0, F_5_1, F_5_2, F_5_3, F_5_4, F_5_5, F_5_6, F_5_7, F_5_8, sh_12, F_12_0, F_12_1, F_12_2, F_12_3, F_12_4, F_12_5, sh_14, F_14_0, F_14_1, F_14_2, F_14_3, F_14_4, F_14_5, F_14_6, F_14_7, F_14_8, sh_21, F_21_0, F_21_1, F_21_2, F_21_3, F_21_4, F_21_5, F_21_6, F_21_7, F_21_8, sh_28, F_28_0, F_28_1, F_28_2, F_28_3, F_28_4, F_28_5, F_28_6, F_28_7, F_28_8, sh_35, F_35_0, sh_39, F_39_0, F_39_1, F_39_2, F_39_3, F_39_4, F_39_5, F_39_6, F_39_7, F_39_8, F_39_9, F_39_10, F_39_11, F_39_12, F_39_13, A_2, A_4, A_6, A_7, A_8, A_9, A_10, A_11, A_13, A_15, A_16, A_17, A_18, A_19, A_20, A_22, A_23, A_24, A_25, A_26, A_27, A_29, A_30, A_31, A_32, A_33, A_34, A_36, A_37, A_38, A_40, A_41, A_42, A_43, A_44, A_45, A_46, A_47]
  refine ⟨x, _, rfl, fun q => ?_, fun q => ?_⟩
  · obtain ⟨T, rfl, hT, hTl⟩ := In_at (by omega) q
    dsimp only [k_X4_slips_0, k_X4_slips_1, k_X4_slips_2, k_X4_slips_5, k_X4_slips_8, k_X4_slips_11, k_X4_slips_14, k_X4_slips_17, k_X4_slips_18, k_X4_slips_21, k_X4_slips_22, k_X4_slips_25, k_X4_slips_28, k_X4_slips_29, k_X4_slips_30, k_X4_slips_33, k_X4_slips_34, k_X4_slips_35, k_X4_slips_36, k_X4_slips_39, k_X4_slips_42, k_X4_slips_43, k_X4_slips_46, k_X4_slips_47, k_X4_slips_50, k_X4_slips_53, k_X4_slips_54, k_X4_slips_55, k_X4_slips_56, k_X4_slips_58, k_X4_slips_60, k_X4_slips_63, k_X4_slips_64, k_X4_slips_67, k_X4_slips_68, k_X4_slips_71, k_X4_slips_74, k_X4_slips_75, k_X4_slips_77, k_X4_slips_78, k_X4_slips_79, k_X4_slips_82, k_X4_slips_84, k_X4_slips_85, k_X4_slips_86, k_X4_slips_88, k_X4_slips_91, k_X4_slips_93, k_X4_slips_94, k_X4_slips_95, k_X4_slips_98, k_X4_slips_99, k_X4_slips_101, k_X4_slips_102, k_X4_slips_105, k_X4_slips_106, k_X4_slips_109, k_X4_slips_111, wp1, wp_s, cutIn, kont, Nat.reduceSub, Nat.reduceAdd, nth, o_const, o_lconst, o_ref, o_iload, o_lload, o_aload, o_istore, o_lstore, o_astore, o_iinc, o_bin, o_div, o_un, o_lbin, o_lsh, o_lcmp, o_i2l, o_l2i, o_if, o_icmp, o_goto, o_dup, o_dup2, o_pop, fav, o_getf, o_putI, o_putZ, o_putL, o_ald, o_ast, o_alen, popn, rst, o_callV, o_callT, o_callS, swx, o_sw, o_ret, o_iret, o_zret, o_cret, o_lret, o_aret, lg, lput, lput2, ls1, isL, entL, wsum, rdI1, rdI2, rdA1, rdA21, rdA22, rdL1, rdL22, rdL21, upN_at, rep, sh_0, F_0_0, F_0_1, F_0_2, F_0_3, F_0_4, F_0_5, F_0_6, F_0_7, F_0_8, sh_1, F_1_0, F_1_1, F_1_2, F_1_3, F_1_4, F_1_5, sh_3, F_3_0, F_3_1, F_3_2, F_3_3, F_3_4, F_3_5, sh_5, F_5_0, F_5_1, F_5_2, F_5_3, F_5_4, F_5_5, F_5_6, F_5_7, F_5_8, sh_12, F_12_0, F_12_1, F_12_2, F_12_3, F_12_4, F_12_5, sh_14, F_14_0, F_14_1, F_14_2, F_14_3, F_14_4, F_14_5, F_14_6, F_14_7, F_14_8, sh_21, F_21_0, F_21_1, F_21_2, F_21_3, F_21_4, F_21_5, F_21_6, F_21_7, F_21_8, sh_28, F_28_0, F_28_1, F_28_2, F_28_3, F_28_4, F_28_5, F_28_6, F_28_7, F_28_8, sh_35, F_35_0, sh_39, F_39_0, F_39_1, F_39_2, F_39_3, F_39_4, F_39_5, F_39_6, F_39_7, F_39_8, F_39_9, F_39_10, F_39_11, F_39_12, F_39_13, A_2, A_4, A_6, A_7, A_8, A_9, A_10, A_11, A_13, A_15, A_16, A_17, A_18, A_19, A_20, A_22, A_23, A_24, A_25, A_26, A_27, A_29, A_30, A_31, A_32, A_33, A_34, A_36, A_37, A_38, A_40, A_41, A_42, A_43, A_44, A_45, A_46, A_47]
    refine ⟨fun q => absurd q (by decide), fun _ => ⟨y, rfl, fun q2 => ?_, fun q2 => ?_⟩⟩
    · rw [hc] at q2
      obtain ⟨l, rfl, hlc⟩ := rg (by omega) q2
      dsimp only [k_X4_slips_0, k_X4_slips_1, k_X4_slips_2, k_X4_slips_5, k_X4_slips_8, k_X4_slips_11, k_X4_slips_14, k_X4_slips_17, k_X4_slips_18, k_X4_slips_21, k_X4_slips_22, k_X4_slips_25, k_X4_slips_28, k_X4_slips_29, k_X4_slips_30, k_X4_slips_33, k_X4_slips_34, k_X4_slips_35, k_X4_slips_36, k_X4_slips_39, k_X4_slips_42, k_X4_slips_43, k_X4_slips_46, k_X4_slips_47, k_X4_slips_50, k_X4_slips_53, k_X4_slips_54, k_X4_slips_55, k_X4_slips_56, k_X4_slips_58, k_X4_slips_60, k_X4_slips_63, k_X4_slips_64, k_X4_slips_67, k_X4_slips_68, k_X4_slips_71, k_X4_slips_74, k_X4_slips_75, k_X4_slips_77, k_X4_slips_78, k_X4_slips_79, k_X4_slips_82, k_X4_slips_84, k_X4_slips_85, k_X4_slips_86, k_X4_slips_88, k_X4_slips_91, k_X4_slips_93, k_X4_slips_94, k_X4_slips_95, k_X4_slips_98, k_X4_slips_99, k_X4_slips_101, k_X4_slips_102, k_X4_slips_105, k_X4_slips_106, k_X4_slips_109, k_X4_slips_111, wp1, wp_s, cutIn, kont, Nat.reduceSub, Nat.reduceAdd, nth, o_const, o_lconst, o_ref, o_iload, o_lload, o_aload, o_istore, o_lstore, o_astore, o_iinc, o_bin, o_div, o_un, o_lbin, o_lsh, o_lcmp, o_i2l, o_l2i, o_if, o_icmp, o_goto, o_dup, o_dup2, o_pop, fav, o_getf, o_putI, o_putZ, o_putL, o_ald, o_ast, o_alen, popn, rst, o_callV, o_callT, o_callS, swx, o_sw, o_ret, o_iret, o_zret, o_cret, o_lret, o_aret, lg, lput, lput2, ls1, isL, entL, wsum, rdI1, rdI2, rdA1, rdA21, rdA22, rdL1, rdL22, rdL21, upN_at, rep, sh_0, F_0_0, F_0_1, F_0_2, F_0_3, F_0_4, F_0_5, F_0_6, F_0_7, F_0_8, sh_1, F_1_0, F_1_1, F_1_2, F_1_3, F_1_4, F_1_5, sh_3, F_3_0, F_3_1, F_3_2, F_3_3, F_3_4, F_3_5, sh_5, F_5_0, F_5_1, F_5_2, F_5_3, F_5_4, F_5_5, F_5_6, F_5_7, F_5_8, sh_12, F_12_0, F_12_1, F_12_2, F_12_3, F_12_4, F_12_5, sh_14, F_14_0, F_14_1, F_14_2, F_14_3, F_14_4, F_14_5, F_14_6, F_14_7, F_14_8, sh_21, F_21_0, F_21_1, F_21_2, F_21_3, F_21_4, F_21_5, F_21_6, F_21_7, F_21_8, sh_28, F_28_0, F_28_1, F_28_2, F_28_3, F_28_4, F_28_5, F_28_6, F_28_7, F_28_8, sh_35, F_35_0, sh_39, F_39_0, F_39_1, F_39_2, F_39_3, F_39_4, F_39_5, F_39_6, F_39_7, F_39_8, F_39_9, F_39_10, F_39_11, F_39_12, F_39_13, A_2, A_4, A_6, A_7, A_8, A_9, A_10, A_11, A_13, A_15, A_16, A_17, A_18, A_19, A_20, A_22, A_23, A_24, A_25, A_26, A_27, A_29, A_30, A_31, A_32, A_33, A_34, A_36, A_37, A_38, A_40, A_41, A_42, A_43, A_44, A_45, A_46, A_47]
      refine ⟨fun q => absurd q (by decide), fun _ => ⟨fun q3 => ?_, fun q3 => ?_⟩⟩
      · obtain ⟨h3, h4, h5⟩ := h2 T l rfl hT rfl hlc
        have hx := xr_lt (f := r) (T := T) n (fun k hk => (hr k hk).2)
        have hw : xrN r T n ^^^ lk l < 512 := Nat.xor_lt_two_pow (n := 9) hx (hl l hlc).2
        refine ⟨T, n, rfl, by omega, hn, hn8, ?_⟩
        rw [xr_I n (fun k hk => (hr k hk).1)]
        dsimp only [k_X4_slips_0, k_X4_slips_1, k_X4_slips_2, k_X4_slips_5, k_X4_slips_8, k_X4_slips_11, k_X4_slips_14, k_X4_slips_17, k_X4_slips_18, k_X4_slips_21, k_X4_slips_22, k_X4_slips_25, k_X4_slips_28, k_X4_slips_29, k_X4_slips_30, k_X4_slips_33, k_X4_slips_34, k_X4_slips_35, k_X4_slips_36, k_X4_slips_39, k_X4_slips_42, k_X4_slips_43, k_X4_slips_46, k_X4_slips_47, k_X4_slips_50, k_X4_slips_53, k_X4_slips_54, k_X4_slips_55, k_X4_slips_56, k_X4_slips_58, k_X4_slips_60, k_X4_slips_63, k_X4_slips_64, k_X4_slips_67, k_X4_slips_68, k_X4_slips_71, k_X4_slips_74, k_X4_slips_75, k_X4_slips_77, k_X4_slips_78, k_X4_slips_79, k_X4_slips_82, k_X4_slips_84, k_X4_slips_85, k_X4_slips_86, k_X4_slips_88, k_X4_slips_91, k_X4_slips_93, k_X4_slips_94, k_X4_slips_95, k_X4_slips_98, k_X4_slips_99, k_X4_slips_101, k_X4_slips_102, k_X4_slips_105, k_X4_slips_106, k_X4_slips_109, k_X4_slips_111, wp1, wp_s, cutIn, kont, Nat.reduceSub, Nat.reduceAdd, nth, o_const, o_lconst, o_ref, o_iload, o_lload, o_aload, o_istore, o_lstore, o_astore, o_iinc, o_bin, o_div, o_un, o_lbin, o_lsh, o_lcmp, o_i2l, o_l2i, o_if, o_icmp, o_goto, o_dup, o_dup2, o_pop, fav, o_getf, o_putI, o_putZ, o_putL, o_ald, o_ast, o_alen, popn, rst, o_callV, o_callT, o_callS, swx, o_sw, o_ret, o_iret, o_zret, o_cret, o_lret, o_aret, lg, lput, lput2, ls1, isL, entL, wsum, rdI1, rdI2, rdA1, rdA21, rdA22, rdL1, rdL22, rdL21, upN_at, rep, sh_0, F_0_0, F_0_1, F_0_2, F_0_3, F_0_4, F_0_5, F_0_6, F_0_7, F_0_8, sh_1, F_1_0, F_1_1, F_1_2, F_1_3, F_1_4, F_1_5, sh_3, F_3_0, F_3_1, F_3_2, F_3_3, F_3_4, F_3_5, sh_5, F_5_0, F_5_1, F_5_2, F_5_3, F_5_4, F_5_5, F_5_6, F_5_7, F_5_8, sh_12, F_12_0, F_12_1, F_12_2, F_12_3, F_12_4, F_12_5, sh_14, F_14_0, F_14_1, F_14_2, F_14_3, F_14_4, F_14_5, F_14_6, F_14_7, F_14_8, sh_21, F_21_0, F_21_1, F_21_2, F_21_3, F_21_4, F_21_5, F_21_6, F_21_7, F_21_8, sh_28, F_28_0, F_28_1, F_28_2, F_28_3, F_28_4, F_28_5, F_28_6, F_28_7, F_28_8, sh_35, F_35_0, sh_39, F_39_0, F_39_1, F_39_2, F_39_3, F_39_4, F_39_5, F_39_6, F_39_7, F_39_8, F_39_9, F_39_10, F_39_11, F_39_12, F_39_13, A_2, A_4, A_6, A_7, A_8, A_9, A_10, A_11, A_13, A_15, A_16, A_17, A_18, A_19, A_20, A_22, A_23, A_24, A_25, A_26, A_27, A_29, A_30, A_31, A_32, A_33, A_34, A_36, A_37, A_38, A_40, A_41, A_42, A_43, A_44, A_45, A_46, A_47]
        refine ⟨l, by omega, rfl, ?_⟩
        rw [(hl l hlc).1, nI_xor]
        refine ⟨_, rfl, hw, ?_⟩
        have hc1 := cn_le (xrN r T n ^^^ lk l) 9
        have hc2 := cn_le T 9
        have hbl := bits_len T 9
        have hbw := bits_len (xrN r T n ^^^ lk l) 9
        dsimp only [k_X4_slips_0, k_X4_slips_1, k_X4_slips_2, k_X4_slips_5, k_X4_slips_8, k_X4_slips_11, k_X4_slips_14, k_X4_slips_17, k_X4_slips_18, k_X4_slips_21, k_X4_slips_22, k_X4_slips_25, k_X4_slips_28, k_X4_slips_29, k_X4_slips_30, k_X4_slips_33, k_X4_slips_34, k_X4_slips_35, k_X4_slips_36, k_X4_slips_39, k_X4_slips_42, k_X4_slips_43, k_X4_slips_46, k_X4_slips_47, k_X4_slips_50, k_X4_slips_53, k_X4_slips_54, k_X4_slips_55, k_X4_slips_56, k_X4_slips_58, k_X4_slips_60, k_X4_slips_63, k_X4_slips_64, k_X4_slips_67, k_X4_slips_68, k_X4_slips_71, k_X4_slips_74, k_X4_slips_75, k_X4_slips_77, k_X4_slips_78, k_X4_slips_79, k_X4_slips_82, k_X4_slips_84, k_X4_slips_85, k_X4_slips_86, k_X4_slips_88, k_X4_slips_91, k_X4_slips_93, k_X4_slips_94, k_X4_slips_95, k_X4_slips_98, k_X4_slips_99, k_X4_slips_101, k_X4_slips_102, k_X4_slips_105, k_X4_slips_106, k_X4_slips_109, k_X4_slips_111, wp1, wp_s, cutIn, kont, Nat.reduceSub, Nat.reduceAdd, nth, o_const, o_lconst, o_ref, o_iload, o_lload, o_aload, o_istore, o_lstore, o_astore, o_iinc, o_bin, o_div, o_un, o_lbin, o_lsh, o_lcmp, o_i2l, o_l2i, o_if, o_icmp, o_goto, o_dup, o_dup2, o_pop, fav, o_getf, o_putI, o_putZ, o_putL, o_ald, o_ast, o_alen, popn, rst, o_callV, o_callT, o_callS, swx, o_sw, o_ret, o_iret, o_zret, o_cret, o_lret, o_aret, lg, lput, lput2, ls1, isL, entL, wsum, rdI1, rdI2, rdA1, rdA21, rdA22, rdL1, rdL22, rdL21, upN_at, rep, sh_0, F_0_0, F_0_1, F_0_2, F_0_3, F_0_4, F_0_5, F_0_6, F_0_7, F_0_8, sh_1, F_1_0, F_1_1, F_1_2, F_1_3, F_1_4, F_1_5, sh_3, F_3_0, F_3_1, F_3_2, F_3_3, F_3_4, F_3_5, sh_5, F_5_0, F_5_1, F_5_2, F_5_3, F_5_4, F_5_5, F_5_6, F_5_7, F_5_8, sh_12, F_12_0, F_12_1, F_12_2, F_12_3, F_12_4, F_12_5, sh_14, F_14_0, F_14_1, F_14_2, F_14_3, F_14_4, F_14_5, F_14_6, F_14_7, F_14_8, sh_21, F_21_0, F_21_1, F_21_2, F_21_3, F_21_4, F_21_5, F_21_6, F_21_7, F_21_8, sh_28, F_28_0, F_28_1, F_28_2, F_28_3, F_28_4, F_28_5, F_28_6, F_28_7, F_28_8, sh_35, F_35_0, sh_39, F_39_0, F_39_1, F_39_2, F_39_3, F_39_4, F_39_5, F_39_6, F_39_7, F_39_8, F_39_9, F_39_10, F_39_11, F_39_12, F_39_13, A_2, A_4, A_6, A_7, A_8, A_9, A_10, A_11, A_13, A_15, A_16, A_17, A_18, A_19, A_20, A_22, A_23, A_24, A_25, A_26, A_27, A_29, A_30, A_31, A_32, A_33, A_34, A_36, A_37, A_38, A_40, A_41, A_42, A_43, A_44, A_45, A_46, A_47]
        refine ⟨fun q4 => ?_, fun q4 => ?_⟩
        · rw [show (1 : Int32) = nI 1 from rfl, nI_eq (by omega) (by omega)] at q4
          have hs : slN r n (lk l) T = cn T 9 := by unfold slN; rw [if_pos q4]
          rw [hs] at h3 h4 h5
          refine ⟨T, rfl, by omega, ?_⟩
          dsimp only [k_X4_slips_0, k_X4_slips_1, k_X4_slips_2, k_X4_slips_5, k_X4_slips_8, k_X4_slips_11, k_X4_slips_14, k_X4_slips_17, k_X4_slips_18, k_X4_slips_21, k_X4_slips_22, k_X4_slips_25, k_X4_slips_28, k_X4_slips_29, k_X4_slips_30, k_X4_slips_33, k_X4_slips_34, k_X4_slips_35, k_X4_slips_36, k_X4_slips_39, k_X4_slips_42, k_X4_slips_43, k_X4_slips_46, k_X4_slips_47, k_X4_slips_50, k_X4_slips_53, k_X4_slips_54, k_X4_slips_55, k_X4_slips_56, k_X4_slips_58, k_X4_slips_60, k_X4_slips_63, k_X4_slips_64, k_X4_slips_67, k_X4_slips_68, k_X4_slips_71, k_X4_slips_74, k_X4_slips_75, k_X4_slips_77, k_X4_slips_78, k_X4_slips_79, k_X4_slips_82, k_X4_slips_84, k_X4_slips_85, k_X4_slips_86, k_X4_slips_88, k_X4_slips_91, k_X4_slips_93, k_X4_slips_94, k_X4_slips_95, k_X4_slips_98, k_X4_slips_99, k_X4_slips_101, k_X4_slips_102, k_X4_slips_105, k_X4_slips_106, k_X4_slips_109, k_X4_slips_111, wp1, wp_s, cutIn, kont, Nat.reduceSub, Nat.reduceAdd, nth, o_const, o_lconst, o_ref, o_iload, o_lload, o_aload, o_istore, o_lstore, o_astore, o_iinc, o_bin, o_div, o_un, o_lbin, o_lsh, o_lcmp, o_i2l, o_l2i, o_if, o_icmp, o_goto, o_dup, o_dup2, o_pop, fav, o_getf, o_putI, o_putZ, o_putL, o_ald, o_ast, o_alen, popn, rst, o_callV, o_callT, o_callS, swx, o_sw, o_ret, o_iret, o_zret, o_cret, o_lret, o_aret, lg, lput, lput2, ls1, isL, entL, wsum, rdI1, rdI2, rdA1, rdA21, rdA22, rdL1, rdL22, rdL21, upN_at, rep, sh_0, F_0_0, F_0_1, F_0_2, F_0_3, F_0_4, F_0_5, F_0_6, F_0_7, F_0_8, sh_1, F_1_0, F_1_1, F_1_2, F_1_3, F_1_4, F_1_5, sh_3, F_3_0, F_3_1, F_3_2, F_3_3, F_3_4, F_3_5, sh_5, F_5_0, F_5_1, F_5_2, F_5_3, F_5_4, F_5_5, F_5_6, F_5_7, F_5_8, sh_12, F_12_0, F_12_1, F_12_2, F_12_3, F_12_4, F_12_5, sh_14, F_14_0, F_14_1, F_14_2, F_14_3, F_14_4, F_14_5, F_14_6, F_14_7, F_14_8, sh_21, F_21_0, F_21_1, F_21_2, F_21_3, F_21_4, F_21_5, F_21_6, F_21_7, F_21_8, sh_28, F_28_0, F_28_1, F_28_2, F_28_3, F_28_4, F_28_5, F_28_6, F_28_7, F_28_8, sh_35, F_35_0, sh_39, F_39_0, F_39_1, F_39_2, F_39_3, F_39_4, F_39_5, F_39_6, F_39_7, F_39_8, F_39_9, F_39_10, F_39_11, F_39_12, F_39_13, A_2, A_4, A_6, A_7, A_8, A_9, A_10, A_11, A_13, A_15, A_16, A_17, A_18, A_19, A_20, A_22, A_23, A_24, A_25, A_26, A_27, A_29, A_30, A_31, A_32, A_33, A_34, A_36, A_37, A_38, A_40, A_41, A_42, A_43, A_44, A_45, A_46, A_47]
          refine ⟨fun q5 => h3 q5, fun q5 => ?_⟩
          obtain ⟨i, rfl, hi⟩ := ge_m1 q3 q5
          rw [nI_leI (by omega) (by omega)]
          refine ⟨fun q6 => h5 i rfl hi q6, fun q6 => ?_⟩
          refine ⟨T, i, rfl, by omega, by omega, fun k hk => ?_, fun hk => ?_⟩
          · have hk9 := bits_lt T 9 i k hk
            dsimp only [k_X4_slips_0, k_X4_slips_1, k_X4_slips_2, k_X4_slips_5, k_X4_slips_8, k_X4_slips_11, k_X4_slips_14, k_X4_slips_17, k_X4_slips_18, k_X4_slips_21, k_X4_slips_22, k_X4_slips_25, k_X4_slips_28, k_X4_slips_29, k_X4_slips_30, k_X4_slips_33, k_X4_slips_34, k_X4_slips_35, k_X4_slips_36, k_X4_slips_39, k_X4_slips_42, k_X4_slips_43, k_X4_slips_46, k_X4_slips_47, k_X4_slips_50, k_X4_slips_53, k_X4_slips_54, k_X4_slips_55, k_X4_slips_56, k_X4_slips_58, k_X4_slips_60, k_X4_slips_63, k_X4_slips_64, k_X4_slips_67, k_X4_slips_68, k_X4_slips_71, k_X4_slips_74, k_X4_slips_75, k_X4_slips_77, k_X4_slips_78, k_X4_slips_79, k_X4_slips_82, k_X4_slips_84, k_X4_slips_85, k_X4_slips_86, k_X4_slips_88, k_X4_slips_91, k_X4_slips_93, k_X4_slips_94, k_X4_slips_95, k_X4_slips_98, k_X4_slips_99, k_X4_slips_101, k_X4_slips_102, k_X4_slips_105, k_X4_slips_106, k_X4_slips_109, k_X4_slips_111, wp1, wp_s, cutIn, kont, Nat.reduceSub, Nat.reduceAdd, nth, o_const, o_lconst, o_ref, o_iload, o_lload, o_aload, o_istore, o_lstore, o_astore, o_iinc, o_bin, o_div, o_un, o_lbin, o_lsh, o_lcmp, o_i2l, o_l2i, o_if, o_icmp, o_goto, o_dup, o_dup2, o_pop, fav, o_getf, o_putI, o_putZ, o_putL, o_ald, o_ast, o_alen, popn, rst, o_callV, o_callT, o_callS, swx, o_sw, o_ret, o_iret, o_zret, o_cret, o_lret, o_aret, lg, lput, lput2, ls1, isL, entL, wsum, rdI1, rdI2, rdA1, rdA21, rdA22, rdL1, rdL22, rdL21, upN_at, rep, sh_0, F_0_0, F_0_1, F_0_2, F_0_3, F_0_4, F_0_5, F_0_6, F_0_7, F_0_8, sh_1, F_1_0, F_1_1, F_1_2, F_1_3, F_1_4, F_1_5, sh_3, F_3_0, F_3_1, F_3_2, F_3_3, F_3_4, F_3_5, sh_5, F_5_0, F_5_1, F_5_2, F_5_3, F_5_4, F_5_5, F_5_6, F_5_7, F_5_8, sh_12, F_12_0, F_12_1, F_12_2, F_12_3, F_12_4, F_12_5, sh_14, F_14_0, F_14_1, F_14_2, F_14_3, F_14_4, F_14_5, F_14_6, F_14_7, F_14_8, sh_21, F_21_0, F_21_1, F_21_2, F_21_3, F_21_4, F_21_5, F_21_6, F_21_7, F_21_8, sh_28, F_28_0, F_28_1, F_28_2, F_28_3, F_28_4, F_28_5, F_28_6, F_28_7, F_28_8, sh_35, F_35_0, sh_39, F_39_0, F_39_1, F_39_2, F_39_3, F_39_4, F_39_5, F_39_6, F_39_7, F_39_8, F_39_9, F_39_10, F_39_11, F_39_12, F_39_13, A_2, A_4, A_6, A_7, A_8, A_9, A_10, A_11, A_13, A_15, A_16, A_17, A_18, A_19, A_20, A_22, A_23, A_24, A_25, A_26, A_27, A_29, A_30, A_31, A_32, A_33, A_34, A_36, A_37, A_38, A_40, A_41, A_42, A_43, A_44, A_45, A_46, A_47]
            refine ⟨xrN r T n ^^^ lk l, 0, rfl, by omega, by omega, fun t ht => ?_, fun ht => ?_⟩
            · have ht9 := bits_lt _ 9 0 t ht
              dsimp only [k_X4_slips_0, k_X4_slips_1, k_X4_slips_2, k_X4_slips_5, k_X4_slips_8, k_X4_slips_11, k_X4_slips_14, k_X4_slips_17, k_X4_slips_18, k_X4_slips_21, k_X4_slips_22, k_X4_slips_25, k_X4_slips_28, k_X4_slips_29, k_X4_slips_30, k_X4_slips_33, k_X4_slips_34, k_X4_slips_35, k_X4_slips_36, k_X4_slips_39, k_X4_slips_42, k_X4_slips_43, k_X4_slips_46, k_X4_slips_47, k_X4_slips_50, k_X4_slips_53, k_X4_slips_54, k_X4_slips_55, k_X4_slips_56, k_X4_slips_58, k_X4_slips_60, k_X4_slips_63, k_X4_slips_64, k_X4_slips_67, k_X4_slips_68, k_X4_slips_71, k_X4_slips_74, k_X4_slips_75, k_X4_slips_77, k_X4_slips_78, k_X4_slips_79, k_X4_slips_82, k_X4_slips_84, k_X4_slips_85, k_X4_slips_86, k_X4_slips_88, k_X4_slips_91, k_X4_slips_93, k_X4_slips_94, k_X4_slips_95, k_X4_slips_98, k_X4_slips_99, k_X4_slips_101, k_X4_slips_102, k_X4_slips_105, k_X4_slips_106, k_X4_slips_109, k_X4_slips_111, wp1, wp_s, cutIn, kont, Nat.reduceSub, Nat.reduceAdd, nth, o_const, o_lconst, o_ref, o_iload, o_lload, o_aload, o_istore, o_lstore, o_astore, o_iinc, o_bin, o_div, o_un, o_lbin, o_lsh, o_lcmp, o_i2l, o_l2i, o_if, o_icmp, o_goto, o_dup, o_dup2, o_pop, fav, o_getf, o_putI, o_putZ, o_putL, o_ald, o_ast, o_alen, popn, rst, o_callV, o_callT, o_callS, swx, o_sw, o_ret, o_iret, o_zret, o_cret, o_lret, o_aret, lg, lput, lput2, ls1, isL, entL, wsum, rdI1, rdI2, rdA1, rdA21, rdA22, rdL1, rdL22, rdL21, upN_at, rep, sh_0, F_0_0, F_0_1, F_0_2, F_0_3, F_0_4, F_0_5, F_0_6, F_0_7, F_0_8, sh_1, F_1_0, F_1_1, F_1_2, F_1_3, F_1_4, F_1_5, sh_3, F_3_0, F_3_1, F_3_2, F_3_3, F_3_4, F_3_5, sh_5, F_5_0, F_5_1, F_5_2, F_5_3, F_5_4, F_5_5, F_5_6, F_5_7, F_5_8, sh_12, F_12_0, F_12_1, F_12_2, F_12_3, F_12_4, F_12_5, sh_14, F_14_0, F_14_1, F_14_2, F_14_3, F_14_4, F_14_5, F_14_6, F_14_7, F_14_8, sh_21, F_21_0, F_21_1, F_21_2, F_21_3, F_21_4, F_21_5, F_21_6, F_21_7, F_21_8, sh_28, F_28_0, F_28_1, F_28_2, F_28_3, F_28_4, F_28_5, F_28_6, F_28_7, F_28_8, sh_35, F_35_0, sh_39, F_39_0, F_39_1, F_39_2, F_39_3, F_39_4, F_39_5, F_39_6, F_39_7, F_39_8, F_39_9, F_39_10, F_39_11, F_39_12, F_39_13, A_2, A_4, A_6, A_7, A_8, A_9, A_10, A_11, A_13, A_15, A_16, A_17, A_18, A_19, A_20, A_22, A_23, A_24, A_25, A_26, A_27, A_29, A_30, A_31, A_32, A_33, A_34, A_36, A_37, A_38, A_40, A_41, A_42, A_43, A_44, A_45, A_46, A_47]
              have := h4 i k t rfl (by omega) hk ht
              rw [show (10 : Int32) = nI 10 from rfl, pk_mul, nI_add]
              exact this
            · rw [List.getElem?_eq_none_iff] at ht
              omega
          · rw [List.getElem?_eq_none_iff] at hk
            omega
        · rw [show (1 : Int32) = nI 1 from rfl, nI_eq (by omega) (by omega)] at q4
          have hs : slN r n (lk l) T = 0 := by unfold slN; rw [if_neg q4]
          rw [hs] at h3 h4 h5
          refine ⟨fun q5 => h3 q5, fun q5 => ?_⟩
          obtain ⟨i, rfl, hi⟩ := ge_m1 q3 q5
          rw [show (0 : Int32) = nI 0 from rfl, nI_leI (by omega) (by omega)]
          exact ⟨fun q6 => h5 i rfl hi (by omega), fun q6 => absurd (Nat.zero_le i) q6⟩
      · exact h1 fun q4 => q3 q4.2.2
    · rw [hc] at q2
      dsimp only [k_X4_slips_0, k_X4_slips_1, k_X4_slips_2, k_X4_slips_5, k_X4_slips_8, k_X4_slips_11, k_X4_slips_14, k_X4_slips_17, k_X4_slips_18, k_X4_slips_21, k_X4_slips_22, k_X4_slips_25, k_X4_slips_28, k_X4_slips_29, k_X4_slips_30, k_X4_slips_33, k_X4_slips_34, k_X4_slips_35, k_X4_slips_36, k_X4_slips_39, k_X4_slips_42, k_X4_slips_43, k_X4_slips_46, k_X4_slips_47, k_X4_slips_50, k_X4_slips_53, k_X4_slips_54, k_X4_slips_55, k_X4_slips_56, k_X4_slips_58, k_X4_slips_60, k_X4_slips_63, k_X4_slips_64, k_X4_slips_67, k_X4_slips_68, k_X4_slips_71, k_X4_slips_74, k_X4_slips_75, k_X4_slips_77, k_X4_slips_78, k_X4_slips_79, k_X4_slips_82, k_X4_slips_84, k_X4_slips_85, k_X4_slips_86, k_X4_slips_88, k_X4_slips_91, k_X4_slips_93, k_X4_slips_94, k_X4_slips_95, k_X4_slips_98, k_X4_slips_99, k_X4_slips_101, k_X4_slips_102, k_X4_slips_105, k_X4_slips_106, k_X4_slips_109, k_X4_slips_111, wp1, wp_s, cutIn, kont, Nat.reduceSub, Nat.reduceAdd, nth, o_const, o_lconst, o_ref, o_iload, o_lload, o_aload, o_istore, o_lstore, o_astore, o_iinc, o_bin, o_div, o_un, o_lbin, o_lsh, o_lcmp, o_i2l, o_l2i, o_if, o_icmp, o_goto, o_dup, o_dup2, o_pop, fav, o_getf, o_putI, o_putZ, o_putL, o_ald, o_ast, o_alen, popn, rst, o_callV, o_callT, o_callS, swx, o_sw, o_ret, o_iret, o_zret, o_cret, o_lret, o_aret, lg, lput, lput2, ls1, isL, entL, wsum, rdI1, rdI2, rdA1, rdA21, rdA22, rdL1, rdL22, rdL21, upN_at, rep, sh_0, F_0_0, F_0_1, F_0_2, F_0_3, F_0_4, F_0_5, F_0_6, F_0_7, F_0_8, sh_1, F_1_0, F_1_1, F_1_2, F_1_3, F_1_4, F_1_5, sh_3, F_3_0, F_3_1, F_3_2, F_3_3, F_3_4, F_3_5, sh_5, F_5_0, F_5_1, F_5_2, F_5_3, F_5_4, F_5_5, F_5_6, F_5_7, F_5_8, sh_12, F_12_0, F_12_1, F_12_2, F_12_3, F_12_4, F_12_5, sh_14, F_14_0, F_14_1, F_14_2, F_14_3, F_14_4, F_14_5, F_14_6, F_14_7, F_14_8, sh_21, F_21_0, F_21_1, F_21_2, F_21_3, F_21_4, F_21_5, F_21_6, F_21_7, F_21_8, sh_28, F_28_0, F_28_1, F_28_2, F_28_3, F_28_4, F_28_5, F_28_6, F_28_7, F_28_8, sh_35, F_35_0, sh_39, F_39_0, F_39_1, F_39_2, F_39_3, F_39_4, F_39_5, F_39_6, F_39_7, F_39_8, F_39_9, F_39_10, F_39_11, F_39_12, F_39_13, A_2, A_4, A_6, A_7, A_8, A_9, A_10, A_11, A_13, A_15, A_16, A_17, A_18, A_19, A_20, A_22, A_23, A_24, A_25, A_26, A_27, A_29, A_30, A_31, A_32, A_33, A_34, A_36, A_37, A_38, A_40, A_41, A_42, A_43, A_44, A_45, A_46, A_47]
      exact ⟨fun _ => h1 fun q4 => q2 q4.2.1, fun q => absurd rfl q⟩
  · dsimp only [k_X4_slips_0, k_X4_slips_1, k_X4_slips_2, k_X4_slips_5, k_X4_slips_8, k_X4_slips_11, k_X4_slips_14, k_X4_slips_17, k_X4_slips_18, k_X4_slips_21, k_X4_slips_22, k_X4_slips_25, k_X4_slips_28, k_X4_slips_29, k_X4_slips_30, k_X4_slips_33, k_X4_slips_34, k_X4_slips_35, k_X4_slips_36, k_X4_slips_39, k_X4_slips_42, k_X4_slips_43, k_X4_slips_46, k_X4_slips_47, k_X4_slips_50, k_X4_slips_53, k_X4_slips_54, k_X4_slips_55, k_X4_slips_56, k_X4_slips_58, k_X4_slips_60, k_X4_slips_63, k_X4_slips_64, k_X4_slips_67, k_X4_slips_68, k_X4_slips_71, k_X4_slips_74, k_X4_slips_75, k_X4_slips_77, k_X4_slips_78, k_X4_slips_79, k_X4_slips_82, k_X4_slips_84, k_X4_slips_85, k_X4_slips_86, k_X4_slips_88, k_X4_slips_91, k_X4_slips_93, k_X4_slips_94, k_X4_slips_95, k_X4_slips_98, k_X4_slips_99, k_X4_slips_101, k_X4_slips_102, k_X4_slips_105, k_X4_slips_106, k_X4_slips_109, k_X4_slips_111, wp1, wp_s, cutIn, kont, Nat.reduceSub, Nat.reduceAdd, nth, o_const, o_lconst, o_ref, o_iload, o_lload, o_aload, o_istore, o_lstore, o_astore, o_iinc, o_bin, o_div, o_un, o_lbin, o_lsh, o_lcmp, o_i2l, o_l2i, o_if, o_icmp, o_goto, o_dup, o_dup2, o_pop, fav, o_getf, o_putI, o_putZ, o_putL, o_ald, o_ast, o_alen, popn, rst, o_callV, o_callT, o_callS, swx, o_sw, o_ret, o_iret, o_zret, o_cret, o_lret, o_aret, lg, lput, lput2, ls1, isL, entL, wsum, rdI1, rdI2, rdA1, rdA21, rdA22, rdL1, rdL22, rdL21, upN_at, rep, sh_0, F_0_0, F_0_1, F_0_2, F_0_3, F_0_4, F_0_5, F_0_6, F_0_7, F_0_8, sh_1, F_1_0, F_1_1, F_1_2, F_1_3, F_1_4, F_1_5, sh_3, F_3_0, F_3_1, F_3_2, F_3_3, F_3_4, F_3_5, sh_5, F_5_0, F_5_1, F_5_2, F_5_3, F_5_4, F_5_5, F_5_6, F_5_7, F_5_8, sh_12, F_12_0, F_12_1, F_12_2, F_12_3, F_12_4, F_12_5, sh_14, F_14_0, F_14_1, F_14_2, F_14_3, F_14_4, F_14_5, F_14_6, F_14_7, F_14_8, sh_21, F_21_0, F_21_1, F_21_2, F_21_3, F_21_4, F_21_5, F_21_6, F_21_7, F_21_8, sh_28, F_28_0, F_28_1, F_28_2, F_28_3, F_28_4, F_28_5, F_28_6, F_28_7, F_28_8, sh_35, F_35_0, sh_39, F_39_0, F_39_1, F_39_2, F_39_3, F_39_4, F_39_5, F_39_6, F_39_7, F_39_8, F_39_9, F_39_10, F_39_11, F_39_12, F_39_13, A_2, A_4, A_6, A_7, A_8, A_9, A_10, A_11, A_13, A_15, A_16, A_17, A_18, A_19, A_20, A_22, A_23, A_24, A_25, A_26, A_27, A_29, A_30, A_31, A_32, A_33, A_34, A_36, A_37, A_38, A_40, A_41, A_42, A_43, A_44, A_45, A_46, A_47]
    exact ⟨fun _ => h1 fun q4 => q q4.1, fun q => absurd rfl q⟩
theorem c_X4_slips : Ctr yX4_slips cX4_slips 6 (some .int) ({ frames := 2, cells := 0, slots := 0, locals := 43 } : Room) S_X4_slips := ctr_of (T := T_X4_slips) (by decide +kernel) (fun post C hr => t_X4_slips post C hr) v_X4_slips
def oS (a k : Nat) (T : Nat) : Bool := decide (T &&& a = T) && decide (cn T 9 = k)
def oG (r : Nat → Nat) (n a k row : Nat) (T : Nat) : Bool := oS a k T && decide (xrN r T n = row)
def S_X4_odds : SP := fun as M post => ∃ x y z n c p r h lk, as = [VR 0, VI x, VI y, VI z] ∧ XW M n c p r h lk ∧ (¬ ((0 ≤ x ∧ x ≤ 8) ∧ (0 ≤ y ∧ y < 512) ∧ (z = 0 ∨ z = 1)) → post (some (VI (-1))) M) ∧
  (∀ k row, x = nI k → k ≤ 8 → y = nI row → row < 512 → ∀ S G, S = ct (oS (us h n) k) (us h n + 1) → G = ct (oG r n (us h n) k row) (us h n + 1) → (S = 0 → z = 0 → post (some (VI 0)) M) ∧ (S = 0 → z = 1 → post (some (VI 1)) M) ∧ (S ≠ 0 → z = 0 → post (some (VI (nI (G / Nat.gcd G S)))) M) ∧ (S ≠ 0 → z = 1 → post (some (VI (nI (S / Nat.gcd G S)))) M))
theorem cw_RX4_178 : ∀ w ∈ ([.methodLink RX4 178 yX4_leastTerm, .static yX4_leastTerm, .initialized yX4_leastTerm.cls, .code yX4_leastTerm cX4_leastTerm 4 (some .int)] : List Cond), w ∈ tb := tb_all [569, 570, 54, 571] (by decide +kernel) (by decide +kernel)
theorem dX4_odds_0 : decode cX4_odds 0 = .ok (.iload_n 1, 1) := by decide +kernel
theorem dX4_odds_1 : decode cX4_odds 1 = .ok (.ifCond .lt 23, 3) := by decide +kernel
theorem dX4_odds_4 : decode cX4_odds 4 = .ok (.iload_n 1, 1) := by decide +kernel
theorem dX4_odds_5 : decode cX4_odds 5 = .ok (.bipush 8, 2) := by decide +kernel
theorem dX4_odds_7 : decode cX4_odds 7 = .ok (.if_icmp .gt 17, 3) := by decide +kernel
theorem dX4_odds_10 : decode cX4_odds 10 = .ok (.iload_n 2, 1) := by decide +kernel
theorem dX4_odds_11 : decode cX4_odds 11 = .ok (.invokestatic 105, 3) := by decide +kernel
theorem dX4_odds_14 : decode cX4_odds 14 = .ok (.ifCond .eq 10, 3) := by decide +kernel
theorem dX4_odds_17 : decode cX4_odds 17 = .ok (.iload_n 3, 1) := by decide +kernel
theorem dX4_odds_18 : decode cX4_odds 18 = .ok (.invokestatic 78, 3) := by decide +kernel
theorem dX4_odds_21 : decode cX4_odds 21 = .ok (.ifCond .ne 5, 3) := by decide +kernel
theorem dX4_odds_24 : decode cX4_odds 24 = .ok (.iconst (-1), 1) := by decide +kernel
theorem dX4_odds_25 : decode cX4_odds 25 = .ok (.ireturn, 1) := by decide +kernel
theorem dX4_odds_26 : decode cX4_odds 26 = .ok (.aload_n 0, 1) := by decide +kernel
theorem dX4_odds_27 : decode cX4_odds 27 = .ok (.getfield 19, 3) := by decide +kernel
theorem dX4_odds_30 : decode cX4_odds 30 = .ok (.getfield 71, 3) := by decide +kernel
theorem dX4_odds_33 : decode cX4_odds 33 = .ok (.invokevirtual 93, 3) := by decide +kernel
theorem dX4_odds_36 : decode cX4_odds 36 = .ok (.istore 4, 2) := by decide +kernel
theorem dX4_odds_38 : decode cX4_odds 38 = .ok (.iconst 0, 1) := by decide +kernel
theorem dX4_odds_39 : decode cX4_odds 39 = .ok (.istore 5, 2) := by decide +kernel
theorem dX4_odds_41 : decode cX4_odds 41 = .ok (.iconst 0, 1) := by decide +kernel
theorem dX4_odds_42 : decode cX4_odds 42 = .ok (.istore 6, 2) := by decide +kernel
theorem dX4_odds_44 : decode cX4_odds 44 = .ok (.iconst 0, 1) := by decide +kernel
theorem dX4_odds_45 : decode cX4_odds 45 = .ok (.istore 7, 2) := by decide +kernel
theorem dX4_odds_47 : decode cX4_odds 47 = .ok (.iload 7, 2) := by decide +kernel
theorem dX4_odds_49 : decode cX4_odds 49 = .ok (.iload 4, 2) := by decide +kernel
theorem dX4_odds_51 : decode cX4_odds 51 = .ok (.if_icmp .gt 57, 3) := by decide +kernel
theorem dX4_odds_54 : decode cX4_odds 54 = .ok (.iload 7, 2) := by decide +kernel
theorem dX4_odds_56 : decode cX4_odds 56 = .ok (.iload 4, 2) := by decide +kernel
theorem dX4_odds_58 : decode cX4_odds 58 = .ok (.invokestatic 97, 3) := by decide +kernel
theorem dX4_odds_61 : decode cX4_odds 61 = .ok (.ifCond .eq 41, 3) := by decide +kernel
theorem dX4_odds_64 : decode cX4_odds 64 = .ok (.iload 7, 2) := by decide +kernel
theorem dX4_odds_66 : decode cX4_odds 66 = .ok (.invokestatic 132, 3) := by decide +kernel
theorem dX4_odds_69 : decode cX4_odds 69 = .ok (.iload_n 1, 1) := by decide +kernel
theorem dX4_odds_70 : decode cX4_odds 70 = .ok (.if_icmp .ne 32, 3) := by decide +kernel
theorem dX4_odds_73 : decode cX4_odds 73 = .ok (.iinc 5 1, 3) := by decide +kernel
theorem dX4_odds_76 : decode cX4_odds 76 = .ok (.iload 6, 2) := by decide +kernel
theorem dX4_odds_78 : decode cX4_odds 78 = .ok (.aload_n 0, 1) := by decide +kernel
theorem dX4_odds_79 : decode cX4_odds 79 = .ok (.getfield 19, 3) := by decide +kernel
theorem dX4_odds_82 : decode cX4_odds 82 = .ok (.getfield 71, 3) := by decide +kernel
theorem dX4_odds_85 : decode cX4_odds 85 = .ok (.iload 7, 2) := by decide +kernel
theorem dX4_odds_87 : decode cX4_odds 87 = .ok (.invokevirtual 101, 3) := by decide +kernel
theorem dX4_odds_90 : decode cX4_odds 90 = .ok (.iload_n 2, 1) := by decide +kernel
theorem dX4_odds_91 : decode cX4_odds 91 = .ok (.if_icmp .ne 7, 3) := by decide +kernel
theorem dX4_odds_94 : decode cX4_odds 94 = .ok (.iconst 1, 1) := by decide +kernel
theorem dX4_odds_95 : decode cX4_odds 95 = .ok (.goto 4, 3) := by decide +kernel
theorem dX4_odds_98 : decode cX4_odds 98 = .ok (.iconst 0, 1) := by decide +kernel
theorem dX4_odds_99 : decode cX4_odds 99 = .ok (.iadd, 1) := by decide +kernel
theorem dX4_odds_100 : decode cX4_odds 100 = .ok (.istore 6, 2) := by decide +kernel
theorem dX4_odds_102 : decode cX4_odds 102 = .ok (.iinc 7 1, 3) := by decide +kernel
theorem dX4_odds_105 : decode cX4_odds 105 = .ok (.goto (-58), 3) := by decide +kernel
theorem dX4_odds_108 : decode cX4_odds 108 = .ok (.iload 5, 2) := by decide +kernel
theorem dX4_odds_110 : decode cX4_odds 110 = .ok (.ifCond .ne 13, 3) := by decide +kernel
theorem dX4_odds_113 : decode cX4_odds 113 = .ok (.iload_n 3, 1) := by decide +kernel
theorem dX4_odds_114 : decode cX4_odds 114 = .ok (.ifCond .ne 7, 3) := by decide +kernel
theorem dX4_odds_117 : decode cX4_odds 117 = .ok (.iconst 0, 1) := by decide +kernel
theorem dX4_odds_118 : decode cX4_odds 118 = .ok (.goto 4, 3) := by decide +kernel
theorem dX4_odds_121 : decode cX4_odds 121 = .ok (.iconst 1, 1) := by decide +kernel
theorem dX4_odds_122 : decode cX4_odds 122 = .ok (.ireturn, 1) := by decide +kernel
theorem dX4_odds_123 : decode cX4_odds 123 = .ok (.iload_n 3, 1) := by decide +kernel
theorem dX4_odds_124 : decode cX4_odds 124 = .ok (.ifCond .ne 8, 3) := by decide +kernel
theorem dX4_odds_127 : decode cX4_odds 127 = .ok (.iload 6, 2) := by decide +kernel
theorem dX4_odds_129 : decode cX4_odds 129 = .ok (.goto 5, 3) := by decide +kernel
theorem dX4_odds_132 : decode cX4_odds 132 = .ok (.iload 5, 2) := by decide +kernel
theorem dX4_odds_134 : decode cX4_odds 134 = .ok (.iload 6, 2) := by decide +kernel
theorem dX4_odds_136 : decode cX4_odds 136 = .ok (.iload 5, 2) := by decide +kernel
theorem dX4_odds_138 : decode cX4_odds 138 = .ok (.invokestatic 178, 3) := by decide +kernel
theorem dX4_odds_141 : decode cX4_odds 141 = .ok (.ireturn, 1) := by decide +kernel
def T_X4_odds (post : PO) : List (Nat × OP) := [(0, o_iload 1 1), (1, o_if (fun x => x < 0) 24 4), (4, o_iload 1 5), (5, o_const 8 7), (7, o_icmp (fun x y => y < x) 24 10), (10, o_iload 2 11), (11, o_callS S_X4_isRow 1 14), (14, o_if (fun x => x = 0) 24 17), (17, o_iload 3 18), (18, o_callS S_X4_isEither 1 21), (21, o_if (fun x => x = 0) 24 26), (24, o_const (-1) 25), (25, o_iret post), (26, o_aload 0 27), (27, o_getf 4 1 30), (30, o_getf 0 0 33), (33, o_callV 1 S_X1_usable 0 36), (36, o_istore 4 38), (38, o_const 0 39), (39, o_istore 5 41), (41, o_const 0 42), (42, o_istore 6 44), (44, o_const 0 45), (45, o_istore 7 47), (47, o_iload 7 49), (49, o_iload 4 51), (51, o_icmp (fun x y => y < x) 108 54), (54, o_iload 7 56), (56, o_iload 4 58), (58, o_callS S_X4_within 2 61), (61, o_if (fun x => x = 0) 102 64), (64, o_iload 7 66), (66, o_callS S_J6_bitCount_0f7a4 1 69), (69, o_iload 1 70), (70, o_icmp (fun x y => x = y) 73 102), (73, o_iinc 5 1 76), (76, o_iload 6 78), (78, o_aload 0 79), (79, o_getf 4 1 82), (82, o_getf 0 0 85), (85, o_iload 7 87), (87, o_callV 1 S_X1_madeBy 1 90), (90, o_iload 2 91), (91, o_icmp (fun x y => x = y) 94 98), (94, o_const 1 95), (95, o_goto 99), (98, o_const 0 99), (99, o_bin (fun x y => x + y) 100), (100, o_istore 6 102), (102, o_iinc 7 1 105), (105, o_goto 47), (108, o_iload 5 110), (110, o_if (fun x => x = 0) 113 123), (113, o_iload 3 114), (114, o_if (fun x => x = 0) 117 121), (117, o_const 0 118), (118, o_goto 122), (121, o_const 1 122), (122, o_iret post), (123, o_iload 3 124), (124, o_if (fun x => x = 0) 127 132), (127, o_iload 6 129), (129, o_goto 134), (132, o_iload 5 134), (134, o_iload 6 136), (136, o_iload 5 138), (138, o_callS S_X4_leastTerm 3 141), (141, o_iret post)]
theorem k_X4_odds_0 (post : PO) : lk (T_X4_odds post) 0 = o_iload 1 1 := rfl
theorem k_X4_odds_1 (post : PO) : lk (T_X4_odds post) 1 = o_if (fun x => x < 0) 24 4 := rfl
theorem k_X4_odds_4 (post : PO) : lk (T_X4_odds post) 4 = o_iload 1 5 := rfl
theorem k_X4_odds_5 (post : PO) : lk (T_X4_odds post) 5 = o_const 8 7 := rfl
theorem k_X4_odds_7 (post : PO) : lk (T_X4_odds post) 7 = o_icmp (fun x y => y < x) 24 10 := rfl
theorem k_X4_odds_10 (post : PO) : lk (T_X4_odds post) 10 = o_iload 2 11 := rfl
theorem k_X4_odds_11 (post : PO) : lk (T_X4_odds post) 11 = o_callS S_X4_isRow 1 14 := rfl
theorem k_X4_odds_14 (post : PO) : lk (T_X4_odds post) 14 = o_if (fun x => x = 0) 24 17 := rfl
theorem k_X4_odds_17 (post : PO) : lk (T_X4_odds post) 17 = o_iload 3 18 := rfl
theorem k_X4_odds_18 (post : PO) : lk (T_X4_odds post) 18 = o_callS S_X4_isEither 1 21 := rfl
theorem k_X4_odds_21 (post : PO) : lk (T_X4_odds post) 21 = o_if (fun x => x = 0) 24 26 := rfl
theorem k_X4_odds_24 (post : PO) : lk (T_X4_odds post) 24 = o_const (-1) 25 := rfl
theorem k_X4_odds_25 (post : PO) : lk (T_X4_odds post) 25 = o_iret post := rfl
theorem k_X4_odds_26 (post : PO) : lk (T_X4_odds post) 26 = o_aload 0 27 := rfl
theorem k_X4_odds_27 (post : PO) : lk (T_X4_odds post) 27 = o_getf 4 1 30 := rfl
theorem k_X4_odds_30 (post : PO) : lk (T_X4_odds post) 30 = o_getf 0 0 33 := rfl
theorem k_X4_odds_33 (post : PO) : lk (T_X4_odds post) 33 = o_callV 1 S_X1_usable 0 36 := rfl
theorem k_X4_odds_36 (post : PO) : lk (T_X4_odds post) 36 = o_istore 4 38 := rfl
theorem k_X4_odds_38 (post : PO) : lk (T_X4_odds post) 38 = o_const 0 39 := rfl
theorem k_X4_odds_39 (post : PO) : lk (T_X4_odds post) 39 = o_istore 5 41 := rfl
theorem k_X4_odds_41 (post : PO) : lk (T_X4_odds post) 41 = o_const 0 42 := rfl
theorem k_X4_odds_42 (post : PO) : lk (T_X4_odds post) 42 = o_istore 6 44 := rfl
theorem k_X4_odds_44 (post : PO) : lk (T_X4_odds post) 44 = o_const 0 45 := rfl
theorem k_X4_odds_45 (post : PO) : lk (T_X4_odds post) 45 = o_istore 7 47 := rfl
theorem k_X4_odds_47 (post : PO) : lk (T_X4_odds post) 47 = o_iload 7 49 := rfl
theorem k_X4_odds_49 (post : PO) : lk (T_X4_odds post) 49 = o_iload 4 51 := rfl
theorem k_X4_odds_51 (post : PO) : lk (T_X4_odds post) 51 = o_icmp (fun x y => y < x) 108 54 := rfl
theorem k_X4_odds_54 (post : PO) : lk (T_X4_odds post) 54 = o_iload 7 56 := rfl
theorem k_X4_odds_56 (post : PO) : lk (T_X4_odds post) 56 = o_iload 4 58 := rfl
theorem k_X4_odds_58 (post : PO) : lk (T_X4_odds post) 58 = o_callS S_X4_within 2 61 := rfl
theorem k_X4_odds_61 (post : PO) : lk (T_X4_odds post) 61 = o_if (fun x => x = 0) 102 64 := rfl
theorem k_X4_odds_64 (post : PO) : lk (T_X4_odds post) 64 = o_iload 7 66 := rfl
theorem k_X4_odds_66 (post : PO) : lk (T_X4_odds post) 66 = o_callS S_J6_bitCount_0f7a4 1 69 := rfl
theorem k_X4_odds_69 (post : PO) : lk (T_X4_odds post) 69 = o_iload 1 70 := rfl
theorem k_X4_odds_70 (post : PO) : lk (T_X4_odds post) 70 = o_icmp (fun x y => x = y) 73 102 := rfl
theorem k_X4_odds_73 (post : PO) : lk (T_X4_odds post) 73 = o_iinc 5 1 76 := rfl
theorem k_X4_odds_76 (post : PO) : lk (T_X4_odds post) 76 = o_iload 6 78 := rfl
theorem k_X4_odds_78 (post : PO) : lk (T_X4_odds post) 78 = o_aload 0 79 := rfl
theorem k_X4_odds_79 (post : PO) : lk (T_X4_odds post) 79 = o_getf 4 1 82 := rfl
theorem k_X4_odds_82 (post : PO) : lk (T_X4_odds post) 82 = o_getf 0 0 85 := rfl
theorem k_X4_odds_85 (post : PO) : lk (T_X4_odds post) 85 = o_iload 7 87 := rfl
theorem k_X4_odds_87 (post : PO) : lk (T_X4_odds post) 87 = o_callV 1 S_X1_madeBy 1 90 := rfl
theorem k_X4_odds_90 (post : PO) : lk (T_X4_odds post) 90 = o_iload 2 91 := rfl
theorem k_X4_odds_91 (post : PO) : lk (T_X4_odds post) 91 = o_icmp (fun x y => x = y) 94 98 := rfl
theorem k_X4_odds_94 (post : PO) : lk (T_X4_odds post) 94 = o_const 1 95 := rfl
theorem k_X4_odds_95 (post : PO) : lk (T_X4_odds post) 95 = o_goto 99 := rfl
theorem k_X4_odds_98 (post : PO) : lk (T_X4_odds post) 98 = o_const 0 99 := rfl
theorem k_X4_odds_99 (post : PO) : lk (T_X4_odds post) 99 = o_bin (fun x y => x + y) 100 := rfl
theorem k_X4_odds_100 (post : PO) : lk (T_X4_odds post) 100 = o_istore 6 102 := rfl
theorem k_X4_odds_102 (post : PO) : lk (T_X4_odds post) 102 = o_iinc 7 1 105 := rfl
theorem k_X4_odds_105 (post : PO) : lk (T_X4_odds post) 105 = o_goto 47 := rfl
theorem k_X4_odds_108 (post : PO) : lk (T_X4_odds post) 108 = o_iload 5 110 := rfl
theorem k_X4_odds_110 (post : PO) : lk (T_X4_odds post) 110 = o_if (fun x => x = 0) 113 123 := rfl
theorem k_X4_odds_113 (post : PO) : lk (T_X4_odds post) 113 = o_iload 3 114 := rfl
theorem k_X4_odds_114 (post : PO) : lk (T_X4_odds post) 114 = o_if (fun x => x = 0) 117 121 := rfl
theorem k_X4_odds_117 (post : PO) : lk (T_X4_odds post) 117 = o_const 0 118 := rfl
theorem k_X4_odds_118 (post : PO) : lk (T_X4_odds post) 118 = o_goto 122 := rfl
theorem k_X4_odds_121 (post : PO) : lk (T_X4_odds post) 121 = o_const 1 122 := rfl
theorem k_X4_odds_122 (post : PO) : lk (T_X4_odds post) 122 = o_iret post := rfl
theorem k_X4_odds_123 (post : PO) : lk (T_X4_odds post) 123 = o_iload 3 124 := rfl
theorem k_X4_odds_124 (post : PO) : lk (T_X4_odds post) 124 = o_if (fun x => x = 0) 127 132 := rfl
theorem k_X4_odds_127 (post : PO) : lk (T_X4_odds post) 127 = o_iload 6 129 := rfl
theorem k_X4_odds_129 (post : PO) : lk (T_X4_odds post) 129 = o_goto 134 := rfl
theorem k_X4_odds_132 (post : PO) : lk (T_X4_odds post) 132 = o_iload 5 134 := rfl
theorem k_X4_odds_134 (post : PO) : lk (T_X4_odds post) 134 = o_iload 6 136 := rfl
theorem k_X4_odds_136 (post : PO) : lk (T_X4_odds post) 136 = o_iload 5 138 := rfl
theorem k_X4_odds_138 (post : PO) : lk (T_X4_odds post) 138 = o_callS S_X4_leastTerm 3 141 := rfl
theorem k_X4_odds_141 (post : PO) : lk (T_X4_odds post) 141 = o_iret post := rfl
set_option maxRecDepth 100000 in
theorem t_X4_odds {p : Program} {l : Launch} {e : Env} {s : State} {m : MethodId} {args : Array Value} {below : List Frame} {meth : Method} {c : Code} {D : va_G} {dA : Nat → ClassId} {ad : Nat → Nat} (post : PO) (C : CX p s m args meth c cX4_odds 8 yX4_odds.cls D dA ad (AA ad s.heap.size)) (hr : meth.sig.returnType = (some .int)) : SndL (WW p l e ({ frames := 2, cells := 0, slots := 0, locals := 43 } : Room) s m args below meth c 0 0 (MQ below (CQ D dA ad post (AA ad s.heap.size)) args s 0 0 (AA ad s.heap.size)) 8 D dA ad (AA ad s.heap.size)) (T_X4_odds post) := by
  refine snd_c (s_iload_n C rfl dX4_odds_0) ?_
  refine snd_c (s_if_lt C dX4_odds_1 (by decide)) ?_
  refine snd_c (s_iload_n C rfl dX4_odds_4) ?_
  refine snd_c (s_bipush C dX4_odds_5 rfl) ?_
  refine snd_c (s_icmp_gt C dX4_odds_7 (by decide)) ?_
  refine snd_c (s_iload_n C rfl dX4_odds_10) ?_
  refine snd_c (s_callS C c_X4_isRow cw_RX4_105 ⟨rfl, rfl⟩ ⟨by decide +kernel, by decide +kernel, by decide +kernel⟩ ⟨by decide, by decide⟩ ⟨Nat.zero_le _, Nat.zero_le _⟩ dX4_odds_11) ?_
  refine snd_c (s_if_eq C dX4_odds_14 (by decide)) ?_
  refine snd_c (s_iload_n C rfl dX4_odds_17) ?_
  refine snd_c (s_callS C c_X4_isEither cw_RX4_78 ⟨rfl, rfl⟩ ⟨by decide +kernel, by decide +kernel, by decide +kernel⟩ ⟨by decide, by decide⟩ ⟨Nat.zero_le _, Nat.zero_le _⟩ dX4_odds_18) ?_
  refine snd_c (s_if_ne C dX4_odds_21 (by decide)) ?_
  refine snd_c (s_iconst C dX4_odds_24 rfl) ?_
  refine snd_c (s_iret C hr dX4_odds_25) ?_
  refine snd_c (s_aload_n C rfl dX4_odds_26) ?_
  refine snd_c (s_getf C (ci := 4) (j := 1) (T := TX4) rfl inX4 (by decide) fl_RX4_19 dX4_odds_27) ?_
  refine snd_c (s_getf C (ci := 0) (j := 0) (T := TX0) rfl inX0 (by decide) fl_RX4_71 dX4_odds_30) ?_
  refine snd_c (s_callV C (ci := 1) c_X1_usable rfl cw_RX4_93 ⟨rfl, rfl⟩ ⟨by decide +kernel, by decide +kernel, by decide +kernel⟩ ⟨by decide, by decide⟩ ⟨Nat.zero_le _, Nat.zero_le _⟩ dX4_odds_33) ?_
  refine snd_c (s_istore C (by decide) dX4_odds_36) ?_
  refine snd_c (s_iconst C dX4_odds_38 rfl) ?_
  refine snd_c (s_istore C (by decide) dX4_odds_39) ?_
  refine snd_c (s_iconst C dX4_odds_41 rfl) ?_
  refine snd_c (s_istore C (by decide) dX4_odds_42) ?_
  refine snd_c (s_iconst C dX4_odds_44 rfl) ?_
  refine snd_c (s_istore C (by decide) dX4_odds_45) ?_
  refine snd_c (s_iload C dX4_odds_47) ?_
  refine snd_c (s_iload C dX4_odds_49) ?_
  refine snd_c (s_icmp_gt C dX4_odds_51 (by decide)) ?_
  refine snd_c (s_iload C dX4_odds_54) ?_
  refine snd_c (s_iload C dX4_odds_56) ?_
  refine snd_c (s_callS C c_X4_within cw_RX4_97 ⟨rfl, rfl⟩ ⟨by decide +kernel, by decide +kernel, by decide +kernel⟩ ⟨by decide, by decide⟩ ⟨Nat.zero_le _, Nat.zero_le _⟩ dX4_odds_58) ?_
  refine snd_c (s_if_eq C dX4_odds_61 (by decide)) ?_
  refine snd_c (s_iload C dX4_odds_64) ?_
  refine snd_c (s_callS C c_J6_bitCount_0f7a4 cw_RX4_132 ⟨rfl, rfl⟩ ⟨by decide +kernel, by decide +kernel, by decide +kernel⟩ ⟨by decide, by decide⟩ ⟨Nat.zero_le _, Nat.zero_le _⟩ dX4_odds_66) ?_
  refine snd_c (s_iload_n C rfl dX4_odds_69) ?_
  refine snd_c (s_icmp_ne C dX4_odds_70 (by decide)) ?_
  refine snd_c (s_iinc C (by decide) rfl dX4_odds_73) ?_
  refine snd_c (s_iload C dX4_odds_76) ?_
  refine snd_c (s_aload_n C rfl dX4_odds_78) ?_
  refine snd_c (s_getf C (ci := 4) (j := 1) (T := TX4) rfl inX4 (by decide) fl_RX4_19 dX4_odds_79) ?_
  refine snd_c (s_getf C (ci := 0) (j := 0) (T := TX0) rfl inX0 (by decide) fl_RX4_71 dX4_odds_82) ?_
  refine snd_c (s_iload C dX4_odds_85) ?_
  refine snd_c (s_callV C (ci := 1) c_X1_madeBy rfl cw_RX4_101 ⟨rfl, rfl⟩ ⟨by decide +kernel, by decide +kernel, by decide +kernel⟩ ⟨by decide, by decide⟩ ⟨Nat.zero_le _, Nat.zero_le _⟩ dX4_odds_87) ?_
  refine snd_c (s_iload_n C rfl dX4_odds_90) ?_
  refine snd_c (s_icmp_ne C dX4_odds_91 (by decide)) ?_
  refine snd_c (s_iconst C dX4_odds_94 rfl) ?_
  refine snd_c (s_goto C dX4_odds_95 (by decide)) ?_
  refine snd_c (s_iconst C dX4_odds_98 rfl) ?_
  refine snd_c (s_iadd C dX4_odds_99) ?_
  refine snd_c (s_istore C (by decide) dX4_odds_100) ?_
  refine snd_c (s_iinc C (by decide) rfl dX4_odds_102) ?_
  refine snd_c (s_goto C dX4_odds_105 (by decide)) ?_
  refine snd_c (s_iload C dX4_odds_108) ?_
  refine snd_c (s_if_ne C dX4_odds_110 (by decide)) ?_
  refine snd_c (s_iload_n C rfl dX4_odds_113) ?_
  refine snd_c (s_if_ne C dX4_odds_114 (by decide)) ?_
  refine snd_c (s_iconst C dX4_odds_117 rfl) ?_
  refine snd_c (s_goto C dX4_odds_118 (by decide)) ?_
  refine snd_c (s_iconst C dX4_odds_121 rfl) ?_
  refine snd_c (s_iret C hr dX4_odds_122) ?_
  refine snd_c (s_iload_n C rfl dX4_odds_123) ?_
  refine snd_c (s_if_ne C dX4_odds_124 (by decide)) ?_
  refine snd_c (s_iload C dX4_odds_127) ?_
  refine snd_c (s_goto C dX4_odds_129 (by decide)) ?_
  refine snd_c (s_iload C dX4_odds_132) ?_
  refine snd_c (s_iload C dX4_odds_134) ?_
  refine snd_c (s_iload C dX4_odds_136) ?_
  refine snd_c (s_callS C c_X4_leastTerm cw_RX4_178 ⟨rfl, rfl⟩ ⟨by decide +kernel, by decide +kernel, by decide +kernel⟩ ⟨by decide, by decide⟩ ⟨Nat.zero_le _, Nat.zero_le _⟩ dX4_odds_138) ?_
  refine snd_c (s_iret C hr dX4_odds_141) ?_
  exact trivial
set_option maxRecDepth 100000 in
theorem v_X4_odds : ∀ as M post, S_X4_odds as M post → wsum as ≤ 8 ∧ RUN (T_X4_odds post) 0 (entL 8 as) [] M := by
  rintro as M post ⟨x, y, z, n, c, p, r, h0, lk, rfl, hX, h1, h2⟩
  obtain ⟨hn, hn8, hc, hc6, hp, hp4, hr, hhk, hl⟩ := hX
  have hul := us_lt h0 hn8
  refine ⟨by show 4 ≤ 8; omega, run_of [47] (fun μ pc lv st M' => st = [] ∧ pc = 47 ∧ M' = M ∧ ∃ k row i, i ≤ us h0 n + 1 ∧ x = nI k ∧ k ≤ 8 ∧ y = nI row ∧ row < 512 ∧ (z = 0 ∨ z = 1) ∧ 1000 - i = μ ∧ lv = [some (VR 0), some (VI x), some (VI y), some (VI z), some (VI (nI (us h0 n))), some (VI (nI (ct (oS (us h0 n) k) i))), some (VI (nI (ct (oG r n (us h0 n) k row) i))), some (VI (nI i))]) 60 2000 ?_ ?_⟩
  · rintro μ pc lv st M' ⟨rfl, rfl, rfl, k, row, i, hi, rfl, hk, rfl, hrow, hz, rfl, rfl⟩
    obtain ⟨h3, h4, h5, h6⟩ := h2 k row rfl hk rfl hrow _ _ rfl rfl
    have hcs := ct_le (oS (us h0 n) k) i
    have hcg := ct_le (oG r n (us h0 n) k row) i
    dsimp only [k_X4_odds_0, k_X4_odds_1, k_X4_odds_4, k_X4_odds_5, k_X4_odds_7, k_X4_odds_10, k_X4_odds_11, k_X4_odds_14, k_X4_odds_17, k_X4_odds_18, k_X4_odds_21, k_X4_odds_24, k_X4_odds_25, k_X4_odds_26, k_X4_odds_27, k_X4_odds_30, k_X4_odds_33, k_X4_odds_36, k_X4_odds_38, k_X4_odds_39, k_X4_odds_41, k_X4_odds_42, k_X4_odds_44, k_X4_odds_45, k_X4_odds_47, k_X4_odds_49, k_X4_odds_51, k_X4_odds_54, k_X4_odds_56, k_X4_odds_58, k_X4_odds_61, k_X4_odds_64, k_X4_odds_66, k_X4_odds_69, k_X4_odds_70, k_X4_odds_73, k_X4_odds_76, k_X4_odds_78, k_X4_odds_79, k_X4_odds_82, k_X4_odds_85, k_X4_odds_87, k_X4_odds_90, k_X4_odds_91, k_X4_odds_94, k_X4_odds_95, k_X4_odds_98, k_X4_odds_99, k_X4_odds_100, k_X4_odds_102, k_X4_odds_105, k_X4_odds_108, k_X4_odds_110, k_X4_odds_113, k_X4_odds_114, k_X4_odds_117, k_X4_odds_118, k_X4_odds_121, k_X4_odds_122, k_X4_odds_123, k_X4_odds_124, k_X4_odds_127, k_X4_odds_129, k_X4_odds_132, k_X4_odds_134, k_X4_odds_136, k_X4_odds_138, k_X4_odds_141, wp1, wp_s, cutIn, kont, Nat.reduceSub, Nat.reduceAdd, nth, o_const, o_lconst, o_ref, o_iload, o_lload, o_aload, o_istore, o_lstore, o_astore, o_iinc, o_bin, o_div, o_un, o_lbin, o_lsh, o_lcmp, o_i2l, o_l2i, o_if, o_icmp, o_goto, o_dup, o_dup2, o_pop, fav, o_getf, o_putI, o_putZ, o_putL, o_ald, o_ast, o_alen, popn, rst, o_callV, o_callT, o_callS, swx, o_sw, o_ret, o_iret, o_zret, o_cret, o_lret, o_aret, lg, lput, lput2, ls1, isL, entL, wsum, rdI1, rdI2, rdA1, rdA21, rdA22, rdL1, rdL22, rdL21, upN_at, rep, sh_0, F_0_0, F_0_1, F_0_2, F_0_3, F_0_4, F_0_5, F_0_6, F_0_7, F_0_8, sh_1, F_1_0, F_1_1, F_1_2, F_1_3, F_1_4, F_1_5, sh_3, F_3_0, F_3_1, F_3_2, F_3_3, F_3_4, F_3_5, sh_5, F_5_0, F_5_1, F_5_2, F_5_3, F_5_4, F_5_5, F_5_6, F_5_7, F_5_8, sh_12, F_12_0, F_12_1, F_12_2, F_12_3, F_12_4, F_12_5, sh_14, F_14_0, F_14_1, F_14_2, F_14_3, F_14_4, F_14_5, F_14_6, F_14_7, F_14_8, sh_21, F_21_0, F_21_1, F_21_2, F_21_3, F_21_4, F_21_5, F_21_6, F_21_7, F_21_8, sh_28, F_28_0, F_28_1, F_28_2, F_28_3, F_28_4, F_28_5, F_28_6, F_28_7, F_28_8, sh_35, F_35_0, sh_39, F_39_0, F_39_1, F_39_2, F_39_3, F_39_4, F_39_5, F_39_6, F_39_7, F_39_8, F_39_9, F_39_10, F_39_11, F_39_12, F_39_13, A_2, A_4, A_6, A_7, A_8, A_9, A_10, A_11, A_13, A_15, A_16, A_17, A_18, A_19, A_20, A_22, A_23, A_24, A_25, A_26, A_27, A_29, A_30, A_31, A_32, A_33, A_34, A_36, A_37, A_38, A_40, A_41, A_42, A_43, A_44, A_45, A_46, A_47]
    simp (disch := omega) only [nI_leI, nI_ltI, nI_eq, nI_1, nI_add, one_shl, nI_or, nI_xor, nI_and, bit_0, bit_1, true_or, or_true, true_and, and_true, eq_self, not_true_eq_false, not_false_eq_true, forall_const]
    refine ⟨fun q => ?_, fun q => ?_⟩
    · have e : i = us h0 n + 1 := by omega
      subst e
      rw [show (0 : Int32) = nI 0 from rfl, nI_eq (by omega) (by omega)]
      refine ⟨fun q2 => ⟨fun q3 => h3 q2 q3, fun q3 => h4 q2 (hz.elim (fun q4 => absurd q4 q3) id)⟩, fun q2 => ⟨fun q3 => ?_, fun q3 => ?_⟩⟩
      · refine ⟨_, _, _, rfl, by omega, by omega, by omega, by omega, ?_⟩
        dsimp only [k_X4_odds_0, k_X4_odds_1, k_X4_odds_4, k_X4_odds_5, k_X4_odds_7, k_X4_odds_10, k_X4_odds_11, k_X4_odds_14, k_X4_odds_17, k_X4_odds_18, k_X4_odds_21, k_X4_odds_24, k_X4_odds_25, k_X4_odds_26, k_X4_odds_27, k_X4_odds_30, k_X4_odds_33, k_X4_odds_36, k_X4_odds_38, k_X4_odds_39, k_X4_odds_41, k_X4_odds_42, k_X4_odds_44, k_X4_odds_45, k_X4_odds_47, k_X4_odds_49, k_X4_odds_51, k_X4_odds_54, k_X4_odds_56, k_X4_odds_58, k_X4_odds_61, k_X4_odds_64, k_X4_odds_66, k_X4_odds_69, k_X4_odds_70, k_X4_odds_73, k_X4_odds_76, k_X4_odds_78, k_X4_odds_79, k_X4_odds_82, k_X4_odds_85, k_X4_odds_87, k_X4_odds_90, k_X4_odds_91, k_X4_odds_94, k_X4_odds_95, k_X4_odds_98, k_X4_odds_99, k_X4_odds_100, k_X4_odds_102, k_X4_odds_105, k_X4_odds_108, k_X4_odds_110, k_X4_odds_113, k_X4_odds_114, k_X4_odds_117, k_X4_odds_118, k_X4_odds_121, k_X4_odds_122, k_X4_odds_123, k_X4_odds_124, k_X4_odds_127, k_X4_odds_129, k_X4_odds_132, k_X4_odds_134, k_X4_odds_136, k_X4_odds_138, k_X4_odds_141, wp1, wp_s, cutIn, kont, Nat.reduceSub, Nat.reduceAdd, nth, o_const, o_lconst, o_ref, o_iload, o_lload, o_aload, o_istore, o_lstore, o_astore, o_iinc, o_bin, o_div, o_un, o_lbin, o_lsh, o_lcmp, o_i2l, o_l2i, o_if, o_icmp, o_goto, o_dup, o_dup2, o_pop, fav, o_getf, o_putI, o_putZ, o_putL, o_ald, o_ast, o_alen, popn, rst, o_callV, o_callT, o_callS, swx, o_sw, o_ret, o_iret, o_zret, o_cret, o_lret, o_aret, lg, lput, lput2, ls1, isL, entL, wsum, rdI1, rdI2, rdA1, rdA21, rdA22, rdL1, rdL22, rdL21, upN_at, rep, sh_0, F_0_0, F_0_1, F_0_2, F_0_3, F_0_4, F_0_5, F_0_6, F_0_7, F_0_8, sh_1, F_1_0, F_1_1, F_1_2, F_1_3, F_1_4, F_1_5, sh_3, F_3_0, F_3_1, F_3_2, F_3_3, F_3_4, F_3_5, sh_5, F_5_0, F_5_1, F_5_2, F_5_3, F_5_4, F_5_5, F_5_6, F_5_7, F_5_8, sh_12, F_12_0, F_12_1, F_12_2, F_12_3, F_12_4, F_12_5, sh_14, F_14_0, F_14_1, F_14_2, F_14_3, F_14_4, F_14_5, F_14_6, F_14_7, F_14_8, sh_21, F_21_0, F_21_1, F_21_2, F_21_3, F_21_4, F_21_5, F_21_6, F_21_7, F_21_8, sh_28, F_28_0, F_28_1, F_28_2, F_28_3, F_28_4, F_28_5, F_28_6, F_28_7, F_28_8, sh_35, F_35_0, sh_39, F_39_0, F_39_1, F_39_2, F_39_3, F_39_4, F_39_5, F_39_6, F_39_7, F_39_8, F_39_9, F_39_10, F_39_11, F_39_12, F_39_13, A_2, A_4, A_6, A_7, A_8, A_9, A_10, A_11, A_13, A_15, A_16, A_17, A_18, A_19, A_20, A_22, A_23, A_24, A_25, A_26, A_27, A_29, A_30, A_31, A_32, A_33, A_34, A_36, A_37, A_38, A_40, A_41, A_42, A_43, A_44, A_45, A_46, A_47]
        exact h5 q2 q3
      · refine ⟨_, _, _, rfl, by omega, by omega, by omega, by omega, ?_⟩
        dsimp only [k_X4_odds_0, k_X4_odds_1, k_X4_odds_4, k_X4_odds_5, k_X4_odds_7, k_X4_odds_10, k_X4_odds_11, k_X4_odds_14, k_X4_odds_17, k_X4_odds_18, k_X4_odds_21, k_X4_odds_24, k_X4_odds_25, k_X4_odds_26, k_X4_odds_27, k_X4_odds_30, k_X4_odds_33, k_X4_odds_36, k_X4_odds_38, k_X4_odds_39, k_X4_odds_41, k_X4_odds_42, k_X4_odds_44, k_X4_odds_45, k_X4_odds_47, k_X4_odds_49, k_X4_odds_51, k_X4_odds_54, k_X4_odds_56, k_X4_odds_58, k_X4_odds_61, k_X4_odds_64, k_X4_odds_66, k_X4_odds_69, k_X4_odds_70, k_X4_odds_73, k_X4_odds_76, k_X4_odds_78, k_X4_odds_79, k_X4_odds_82, k_X4_odds_85, k_X4_odds_87, k_X4_odds_90, k_X4_odds_91, k_X4_odds_94, k_X4_odds_95, k_X4_odds_98, k_X4_odds_99, k_X4_odds_100, k_X4_odds_102, k_X4_odds_105, k_X4_odds_108, k_X4_odds_110, k_X4_odds_113, k_X4_odds_114, k_X4_odds_117, k_X4_odds_118, k_X4_odds_121, k_X4_odds_122, k_X4_odds_123, k_X4_odds_124, k_X4_odds_127, k_X4_odds_129, k_X4_odds_132, k_X4_odds_134, k_X4_odds_136, k_X4_odds_138, k_X4_odds_141, wp1, wp_s, cutIn, kont, Nat.reduceSub, Nat.reduceAdd, nth, o_const, o_lconst, o_ref, o_iload, o_lload, o_aload, o_istore, o_lstore, o_astore, o_iinc, o_bin, o_div, o_un, o_lbin, o_lsh, o_lcmp, o_i2l, o_l2i, o_if, o_icmp, o_goto, o_dup, o_dup2, o_pop, fav, o_getf, o_putI, o_putZ, o_putL, o_ald, o_ast, o_alen, popn, rst, o_callV, o_callT, o_callS, swx, o_sw, o_ret, o_iret, o_zret, o_cret, o_lret, o_aret, lg, lput, lput2, ls1, isL, entL, wsum, rdI1, rdI2, rdA1, rdA21, rdA22, rdL1, rdL22, rdL21, upN_at, rep, sh_0, F_0_0, F_0_1, F_0_2, F_0_3, F_0_4, F_0_5, F_0_6, F_0_7, F_0_8, sh_1, F_1_0, F_1_1, F_1_2, F_1_3, F_1_4, F_1_5, sh_3, F_3_0, F_3_1, F_3_2, F_3_3, F_3_4, F_3_5, sh_5, F_5_0, F_5_1, F_5_2, F_5_3, F_5_4, F_5_5, F_5_6, F_5_7, F_5_8, sh_12, F_12_0, F_12_1, F_12_2, F_12_3, F_12_4, F_12_5, sh_14, F_14_0, F_14_1, F_14_2, F_14_3, F_14_4, F_14_5, F_14_6, F_14_7, F_14_8, sh_21, F_21_0, F_21_1, F_21_2, F_21_3, F_21_4, F_21_5, F_21_6, F_21_7, F_21_8, sh_28, F_28_0, F_28_1, F_28_2, F_28_3, F_28_4, F_28_5, F_28_6, F_28_7, F_28_8, sh_35, F_35_0, sh_39, F_39_0, F_39_1, F_39_2, F_39_3, F_39_4, F_39_5, F_39_6, F_39_7, F_39_8, F_39_9, F_39_10, F_39_11, F_39_12, F_39_13, A_2, A_4, A_6, A_7, A_8, A_9, A_10, A_11, A_13, A_15, A_16, A_17, A_18, A_19, A_20, A_22, A_23, A_24, A_25, A_26, A_27, A_29, A_30, A_31, A_32, A_33, A_34, A_36, A_37, A_38, A_40, A_41, A_42, A_43, A_44, A_45, A_46, A_47]
        exact h6 q2 (hz.elim (fun q4 => absurd q4 q3) id)
    · have hi1 : i + 1 ≤ us h0 n + 1 := by omega
      have hi2 : 1000 - (i + 1) < 1000 - i := by omega
      have hx := xr_lt (f := r) (T := i) n (fun k hk => (hr k hk).2)
      have hci := cn_le i 9
      have nS : ¬ (i &&& us h0 n = i ∧ cn i 9 = k) → ct (oS (us h0 n) k) (i + 1) = ct (oS (us h0 n) k) i ∧ ct (oG r n (us h0 n) k row) (i + 1) = ct (oG r n (us h0 n) k row) i := by
        intro q2
        have e : oS (us h0 n) k i = false := by
          unfold oS
          by_cases q3 : i &&& us h0 n = i
          · rw [decide_eq_false (p := cn i 9 = k) (fun q4 => q2 ⟨q3, q4⟩), Bool.and_false]
          · rw [decide_eq_false q3, Bool.false_and]
        have e2 : oG r n (us h0 n) k row i = false := by unfold oG; rw [e, Bool.false_and]
        rw [ct, ct, e, e2]
        exact ⟨rfl, rfl⟩
      have yS : i &&& us h0 n = i → cn i 9 = k → ct (oS (us h0 n) k) (i + 1) = ct (oS (us h0 n) k) i + 1 ∧ ct (oG r n (us h0 n) k row) (i + 1) = ct (oG r n (us h0 n) k row) i + (if xrN r i n = row then 1 else 0) := by
        intro q2 q3
        have e : oS (us h0 n) k i = true := by unfold oS; rw [decide_eq_true q2, decide_eq_true q3]; rfl
        refine ⟨by rw [ct, e]; rfl, ?_⟩
        rw [ct, oG, e, Bool.true_and]
        by_cases q4 : xrN r i n = row
        · rw [decide_eq_true q4, if_pos rfl, if_pos q4]
        · rw [decide_eq_false q4, if_neg (by decide), if_neg q4]
      refine ⟨nI i, _, rfl, fun q2 => ?_, fun q2 => ?_⟩
      · rw [In_nI (by omega) (by omega)] at q2
        dsimp only [k_X4_odds_0, k_X4_odds_1, k_X4_odds_4, k_X4_odds_5, k_X4_odds_7, k_X4_odds_10, k_X4_odds_11, k_X4_odds_14, k_X4_odds_17, k_X4_odds_18, k_X4_odds_21, k_X4_odds_24, k_X4_odds_25, k_X4_odds_26, k_X4_odds_27, k_X4_odds_30, k_X4_odds_33, k_X4_odds_36, k_X4_odds_38, k_X4_odds_39, k_X4_odds_41, k_X4_odds_42, k_X4_odds_44, k_X4_odds_45, k_X4_odds_47, k_X4_odds_49, k_X4_odds_51, k_X4_odds_54, k_X4_odds_56, k_X4_odds_58, k_X4_odds_61, k_X4_odds_64, k_X4_odds_66, k_X4_odds_69, k_X4_odds_70, k_X4_odds_73, k_X4_odds_76, k_X4_odds_78, k_X4_odds_79, k_X4_odds_82, k_X4_odds_85, k_X4_odds_87, k_X4_odds_90, k_X4_odds_91, k_X4_odds_94, k_X4_odds_95, k_X4_odds_98, k_X4_odds_99, k_X4_odds_100, k_X4_odds_102, k_X4_odds_105, k_X4_odds_108, k_X4_odds_110, k_X4_odds_113, k_X4_odds_114, k_X4_odds_117, k_X4_odds_118, k_X4_odds_121, k_X4_odds_122, k_X4_odds_123, k_X4_odds_124, k_X4_odds_127, k_X4_odds_129, k_X4_odds_132, k_X4_odds_134, k_X4_odds_136, k_X4_odds_138, k_X4_odds_141, wp1, wp_s, cutIn, kont, Nat.reduceSub, Nat.reduceAdd, nth, o_const, o_lconst, o_ref, o_iload, o_lload, o_aload, o_istore, o_lstore, o_astore, o_iinc, o_bin, o_div, o_un, o_lbin, o_lsh, o_lcmp, o_i2l, o_l2i, o_if, o_icmp, o_goto, o_dup, o_dup2, o_pop, fav, o_getf, o_putI, o_putZ, o_putL, o_ald, o_ast, o_alen, popn, rst, o_callV, o_callT, o_callS, swx, o_sw, o_ret, o_iret, o_zret, o_cret, o_lret, o_aret, lg, lput, lput2, ls1, isL, entL, wsum, rdI1, rdI2, rdA1, rdA21, rdA22, rdL1, rdL22, rdL21, upN_at, rep, sh_0, F_0_0, F_0_1, F_0_2, F_0_3, F_0_4, F_0_5, F_0_6, F_0_7, F_0_8, sh_1, F_1_0, F_1_1, F_1_2, F_1_3, F_1_4, F_1_5, sh_3, F_3_0, F_3_1, F_3_2, F_3_3, F_3_4, F_3_5, sh_5, F_5_0, F_5_1, F_5_2, F_5_3, F_5_4, F_5_5, F_5_6, F_5_7, F_5_8, sh_12, F_12_0, F_12_1, F_12_2, F_12_3, F_12_4, F_12_5, sh_14, F_14_0, F_14_1, F_14_2, F_14_3, F_14_4, F_14_5, F_14_6, F_14_7, F_14_8, sh_21, F_21_0, F_21_1, F_21_2, F_21_3, F_21_4, F_21_5, F_21_6, F_21_7, F_21_8, sh_28, F_28_0, F_28_1, F_28_2, F_28_3, F_28_4, F_28_5, F_28_6, F_28_7, F_28_8, sh_35, F_35_0, sh_39, F_39_0, F_39_1, F_39_2, F_39_3, F_39_4, F_39_5, F_39_6, F_39_7, F_39_8, F_39_9, F_39_10, F_39_11, F_39_12, F_39_13, A_2, A_4, A_6, A_7, A_8, A_9, A_10, A_11, A_13, A_15, A_16, A_17, A_18, A_19, A_20, A_22, A_23, A_24, A_25, A_26, A_27, A_29, A_30, A_31, A_32, A_33, A_34, A_36, A_37, A_38, A_40, A_41, A_42, A_43, A_44, A_45, A_46, A_47]
        refine ⟨fun q3 => absurd q3 (by decide), fun _ => ⟨i, rfl, by omega, ?_⟩⟩
        dsimp only [k_X4_odds_0, k_X4_odds_1, k_X4_odds_4, k_X4_odds_5, k_X4_odds_7, k_X4_odds_10, k_X4_odds_11, k_X4_odds_14, k_X4_odds_17, k_X4_odds_18, k_X4_odds_21, k_X4_odds_24, k_X4_odds_25, k_X4_odds_26, k_X4_odds_27, k_X4_odds_30, k_X4_odds_33, k_X4_odds_36, k_X4_odds_38, k_X4_odds_39, k_X4_odds_41, k_X4_odds_42, k_X4_odds_44, k_X4_odds_45, k_X4_odds_47, k_X4_odds_49, k_X4_odds_51, k_X4_odds_54, k_X4_odds_56, k_X4_odds_58, k_X4_odds_61, k_X4_odds_64, k_X4_odds_66, k_X4_odds_69, k_X4_odds_70, k_X4_odds_73, k_X4_odds_76, k_X4_odds_78, k_X4_odds_79, k_X4_odds_82, k_X4_odds_85, k_X4_odds_87, k_X4_odds_90, k_X4_odds_91, k_X4_odds_94, k_X4_odds_95, k_X4_odds_98, k_X4_odds_99, k_X4_odds_100, k_X4_odds_102, k_X4_odds_105, k_X4_odds_108, k_X4_odds_110, k_X4_odds_113, k_X4_odds_114, k_X4_odds_117, k_X4_odds_118, k_X4_odds_121, k_X4_odds_122, k_X4_odds_123, k_X4_odds_124, k_X4_odds_127, k_X4_odds_129, k_X4_odds_132, k_X4_odds_134, k_X4_odds_136, k_X4_odds_138, k_X4_odds_141, wp1, wp_s, cutIn, kont, Nat.reduceSub, Nat.reduceAdd, nth, o_const, o_lconst, o_ref, o_iload, o_lload, o_aload, o_istore, o_lstore, o_astore, o_iinc, o_bin, o_div, o_un, o_lbin, o_lsh, o_lcmp, o_i2l, o_l2i, o_if, o_icmp, o_goto, o_dup, o_dup2, o_pop, fav, o_getf, o_putI, o_putZ, o_putL, o_ald, o_ast, o_alen, popn, rst, o_callV, o_callT, o_callS, swx, o_sw, o_ret, o_iret, o_zret, o_cret, o_lret, o_aret, lg, lput, lput2, ls1, isL, entL, wsum, rdI1, rdI2, rdA1, rdA21, rdA22, rdL1, rdL22, rdL21, upN_at, rep, sh_0, F_0_0, F_0_1, F_0_2, F_0_3, F_0_4, F_0_5, F_0_6, F_0_7, F_0_8, sh_1, F_1_0, F_1_1, F_1_2, F_1_3, F_1_4, F_1_5, sh_3, F_3_0, F_3_1, F_3_2, F_3_3, F_3_4, F_3_5, sh_5, F_5_0, F_5_1, F_5_2, F_5_3, F_5_4, F_5_5, F_5_6, F_5_7, F_5_8, sh_12, F_12_0, F_12_1, F_12_2, F_12_3, F_12_4, F_12_5, sh_14, F_14_0, F_14_1, F_14_2, F_14_3, F_14_4, F_14_5, F_14_6, F_14_7, F_14_8, sh_21, F_21_0, F_21_1, F_21_2, F_21_3, F_21_4, F_21_5, F_21_6, F_21_7, F_21_8, sh_28, F_28_0, F_28_1, F_28_2, F_28_3, F_28_4, F_28_5, F_28_6, F_28_7, F_28_8, sh_35, F_35_0, sh_39, F_39_0, F_39_1, F_39_2, F_39_3, F_39_4, F_39_5, F_39_6, F_39_7, F_39_8, F_39_9, F_39_10, F_39_11, F_39_12, F_39_13, A_2, A_4, A_6, A_7, A_8, A_9, A_10, A_11, A_13, A_15, A_16, A_17, A_18, A_19, A_20, A_22, A_23, A_24, A_25, A_26, A_27, A_29, A_30, A_31, A_32, A_33, A_34, A_36, A_37, A_38, A_40, A_41, A_42, A_43, A_44, A_45, A_46, A_47]
        rw [nI_eq (by omega) (by omega)]
        refine ⟨fun q3 => ?_, fun q3 => ?_⟩
        · obtain ⟨e1, e2⟩ := yS q2 q3
          refine ⟨i, n, rfl, by omega, hn, hn8, ?_⟩
          rw [xr_I n (fun k hk => (hr k hk).1)]
          dsimp only [k_X4_odds_0, k_X4_odds_1, k_X4_odds_4, k_X4_odds_5, k_X4_odds_7, k_X4_odds_10, k_X4_odds_11, k_X4_odds_14, k_X4_odds_17, k_X4_odds_18, k_X4_odds_21, k_X4_odds_24, k_X4_odds_25, k_X4_odds_26, k_X4_odds_27, k_X4_odds_30, k_X4_odds_33, k_X4_odds_36, k_X4_odds_38, k_X4_odds_39, k_X4_odds_41, k_X4_odds_42, k_X4_odds_44, k_X4_odds_45, k_X4_odds_47, k_X4_odds_49, k_X4_odds_51, k_X4_odds_54, k_X4_odds_56, k_X4_odds_58, k_X4_odds_61, k_X4_odds_64, k_X4_odds_66, k_X4_odds_69, k_X4_odds_70, k_X4_odds_73, k_X4_odds_76, k_X4_odds_78, k_X4_odds_79, k_X4_odds_82, k_X4_odds_85, k_X4_odds_87, k_X4_odds_90, k_X4_odds_91, k_X4_odds_94, k_X4_odds_95, k_X4_odds_98, k_X4_odds_99, k_X4_odds_100, k_X4_odds_102, k_X4_odds_105, k_X4_odds_108, k_X4_odds_110, k_X4_odds_113, k_X4_odds_114, k_X4_odds_117, k_X4_odds_118, k_X4_odds_121, k_X4_odds_122, k_X4_odds_123, k_X4_odds_124, k_X4_odds_127, k_X4_odds_129, k_X4_odds_132, k_X4_odds_134, k_X4_odds_136, k_X4_odds_138, k_X4_odds_141, wp1, wp_s, cutIn, kont, Nat.reduceSub, Nat.reduceAdd, nth, o_const, o_lconst, o_ref, o_iload, o_lload, o_aload, o_istore, o_lstore, o_astore, o_iinc, o_bin, o_div, o_un, o_lbin, o_lsh, o_lcmp, o_i2l, o_l2i, o_if, o_icmp, o_goto, o_dup, o_dup2, o_pop, fav, o_getf, o_putI, o_putZ, o_putL, o_ald, o_ast, o_alen, popn, rst, o_callV, o_callT, o_callS, swx, o_sw, o_ret, o_iret, o_zret, o_cret, o_lret, o_aret, lg, lput, lput2, ls1, isL, entL, wsum, rdI1, rdI2, rdA1, rdA21, rdA22, rdL1, rdL22, rdL21, upN_at, rep, sh_0, F_0_0, F_0_1, F_0_2, F_0_3, F_0_4, F_0_5, F_0_6, F_0_7, F_0_8, sh_1, F_1_0, F_1_1, F_1_2, F_1_3, F_1_4, F_1_5, sh_3, F_3_0, F_3_1, F_3_2, F_3_3, F_3_4, F_3_5, sh_5, F_5_0, F_5_1, F_5_2, F_5_3, F_5_4, F_5_5, F_5_6, F_5_7, F_5_8, sh_12, F_12_0, F_12_1, F_12_2, F_12_3, F_12_4, F_12_5, sh_14, F_14_0, F_14_1, F_14_2, F_14_3, F_14_4, F_14_5, F_14_6, F_14_7, F_14_8, sh_21, F_21_0, F_21_1, F_21_2, F_21_3, F_21_4, F_21_5, F_21_6, F_21_7, F_21_8, sh_28, F_28_0, F_28_1, F_28_2, F_28_3, F_28_4, F_28_5, F_28_6, F_28_7, F_28_8, sh_35, F_35_0, sh_39, F_39_0, F_39_1, F_39_2, F_39_3, F_39_4, F_39_5, F_39_6, F_39_7, F_39_8, F_39_9, F_39_10, F_39_11, F_39_12, F_39_13, A_2, A_4, A_6, A_7, A_8, A_9, A_10, A_11, A_13, A_15, A_16, A_17, A_18, A_19, A_20, A_22, A_23, A_24, A_25, A_26, A_27, A_29, A_30, A_31, A_32, A_33, A_34, A_36, A_37, A_38, A_40, A_41, A_42, A_43, A_44, A_45, A_46, A_47]
          rw [nI_eq (by omega) (by omega)]
          refine ⟨fun q4 => ?_, fun q4 => ?_⟩
          · rw [if_pos q4] at e2
            exact cut _ _ ⟨rfl, rfl, rfl, k, row, i + 1, hi1, rfl, hk, rfl, hrow, hz, rfl, rfl⟩ hi2 ⟨rfl, rfl, rfl, rfl, rfl, vi_eq (by rw [e1, ← nI_1]), vi_eq (by rw [e2, ← nI_1]), vi_eq (nI_1 _), trivial⟩
          · rw [if_neg q4] at e2
            exact cut _ _ ⟨rfl, rfl, rfl, k, row, i + 1, hi1, rfl, hk, rfl, hrow, hz, rfl, rfl⟩ hi2 ⟨rfl, rfl, rfl, rfl, rfl, vi_eq (by rw [e1, ← nI_1]), vi_eq (by rw [e2, Nat.add_zero, show (0 : Int32) = nI 0 from rfl, nI_add, Nat.add_zero]), vi_eq (nI_1 _), trivial⟩
        · obtain ⟨e1, e2⟩ := nS fun q4 => q3 q4.2
          exact cut _ _ ⟨rfl, rfl, rfl, k, row, i + 1, hi1, rfl, hk, rfl, hrow, hz, rfl, rfl⟩ hi2 ⟨rfl, rfl, rfl, rfl, rfl, vi_eq (by rw [e1]), vi_eq (by rw [e2]), vi_eq (nI_1 _), trivial⟩
      · rw [In_nI (by omega) (by omega)] at q2
        obtain ⟨e1, e2⟩ := nS fun q4 => q2 q4.1
        dsimp only [k_X4_odds_0, k_X4_odds_1, k_X4_odds_4, k_X4_odds_5, k_X4_odds_7, k_X4_odds_10, k_X4_odds_11, k_X4_odds_14, k_X4_odds_17, k_X4_odds_18, k_X4_odds_21, k_X4_odds_24, k_X4_odds_25, k_X4_odds_26, k_X4_odds_27, k_X4_odds_30, k_X4_odds_33, k_X4_odds_36, k_X4_odds_38, k_X4_odds_39, k_X4_odds_41, k_X4_odds_42, k_X4_odds_44, k_X4_odds_45, k_X4_odds_47, k_X4_odds_49, k_X4_odds_51, k_X4_odds_54, k_X4_odds_56, k_X4_odds_58, k_X4_odds_61, k_X4_odds_64, k_X4_odds_66, k_X4_odds_69, k_X4_odds_70, k_X4_odds_73, k_X4_odds_76, k_X4_odds_78, k_X4_odds_79, k_X4_odds_82, k_X4_odds_85, k_X4_odds_87, k_X4_odds_90, k_X4_odds_91, k_X4_odds_94, k_X4_odds_95, k_X4_odds_98, k_X4_odds_99, k_X4_odds_100, k_X4_odds_102, k_X4_odds_105, k_X4_odds_108, k_X4_odds_110, k_X4_odds_113, k_X4_odds_114, k_X4_odds_117, k_X4_odds_118, k_X4_odds_121, k_X4_odds_122, k_X4_odds_123, k_X4_odds_124, k_X4_odds_127, k_X4_odds_129, k_X4_odds_132, k_X4_odds_134, k_X4_odds_136, k_X4_odds_138, k_X4_odds_141, wp1, wp_s, cutIn, kont, Nat.reduceSub, Nat.reduceAdd, nth, o_const, o_lconst, o_ref, o_iload, o_lload, o_aload, o_istore, o_lstore, o_astore, o_iinc, o_bin, o_div, o_un, o_lbin, o_lsh, o_lcmp, o_i2l, o_l2i, o_if, o_icmp, o_goto, o_dup, o_dup2, o_pop, fav, o_getf, o_putI, o_putZ, o_putL, o_ald, o_ast, o_alen, popn, rst, o_callV, o_callT, o_callS, swx, o_sw, o_ret, o_iret, o_zret, o_cret, o_lret, o_aret, lg, lput, lput2, ls1, isL, entL, wsum, rdI1, rdI2, rdA1, rdA21, rdA22, rdL1, rdL22, rdL21, upN_at, rep, sh_0, F_0_0, F_0_1, F_0_2, F_0_3, F_0_4, F_0_5, F_0_6, F_0_7, F_0_8, sh_1, F_1_0, F_1_1, F_1_2, F_1_3, F_1_4, F_1_5, sh_3, F_3_0, F_3_1, F_3_2, F_3_3, F_3_4, F_3_5, sh_5, F_5_0, F_5_1, F_5_2, F_5_3, F_5_4, F_5_5, F_5_6, F_5_7, F_5_8, sh_12, F_12_0, F_12_1, F_12_2, F_12_3, F_12_4, F_12_5, sh_14, F_14_0, F_14_1, F_14_2, F_14_3, F_14_4, F_14_5, F_14_6, F_14_7, F_14_8, sh_21, F_21_0, F_21_1, F_21_2, F_21_3, F_21_4, F_21_5, F_21_6, F_21_7, F_21_8, sh_28, F_28_0, F_28_1, F_28_2, F_28_3, F_28_4, F_28_5, F_28_6, F_28_7, F_28_8, sh_35, F_35_0, sh_39, F_39_0, F_39_1, F_39_2, F_39_3, F_39_4, F_39_5, F_39_6, F_39_7, F_39_8, F_39_9, F_39_10, F_39_11, F_39_12, F_39_13, A_2, A_4, A_6, A_7, A_8, A_9, A_10, A_11, A_13, A_15, A_16, A_17, A_18, A_19, A_20, A_22, A_23, A_24, A_25, A_26, A_27, A_29, A_30, A_31, A_32, A_33, A_34, A_36, A_37, A_38, A_40, A_41, A_42, A_43, A_44, A_45, A_46, A_47]
        exact ⟨fun _ => cut _ _ ⟨rfl, rfl, rfl, k, row, i + 1, hi1, rfl, hk, rfl, hrow, hz, rfl, rfl⟩ hi2 ⟨rfl, rfl, rfl, rfl, rfl, vi_eq (by rw [e1]), vi_eq (by rw [e2]), vi_eq (nI_1 _), trivial⟩, fun q3 => absurd rfl q3⟩
  · dsimp only [k_X4_odds_0, k_X4_odds_1, k_X4_odds_4, k_X4_odds_5, k_X4_odds_7, k_X4_odds_10, k_X4_odds_11, k_X4_odds_14, k_X4_odds_17, k_X4_odds_18, k_X4_odds_21, k_X4_odds_24, k_X4_odds_25, k_X4_odds_26, k_X4_odds_27, k_X4_odds_30, k_X4_odds_33, k_X4_odds_36, k_X4_odds_38, k_X4_odds_39, k_X4_odds_41, k_X4_odds_42, k_X4_odds_44, k_X4_odds_45, k_X4_odds_47, k_X4_odds_49, k_X4_odds_51, k_X4_odds_54, k_X4_odds_56, k_X4_odds_58, k_X4_odds_61, k_X4_odds_64, k_X4_odds_66, k_X4_odds_69, k_X4_odds_70, k_X4_odds_73, k_X4_odds_76, k_X4_odds_78, k_X4_odds_79, k_X4_odds_82, k_X4_odds_85, k_X4_odds_87, k_X4_odds_90, k_X4_odds_91, k_X4_odds_94, k_X4_odds_95, k_X4_odds_98, k_X4_odds_99, k_X4_odds_100, k_X4_odds_102, k_X4_odds_105, k_X4_odds_108, k_X4_odds_110, k_X4_odds_113, k_X4_odds_114, k_X4_odds_117, k_X4_odds_118, k_X4_odds_121, k_X4_odds_122, k_X4_odds_123, k_X4_odds_124, k_X4_odds_127, k_X4_odds_129, k_X4_odds_132, k_X4_odds_134, k_X4_odds_136, k_X4_odds_138, k_X4_odds_141, wp1, wp_s, cutIn, kont, Nat.reduceSub, Nat.reduceAdd, nth, o_const, o_lconst, o_ref, o_iload, o_lload, o_aload, o_istore, o_lstore, o_astore, o_iinc, o_bin, o_div, o_un, o_lbin, o_lsh, o_lcmp, o_i2l, o_l2i, o_if, o_icmp, o_goto, o_dup, o_dup2, o_pop, fav, o_getf, o_putI, o_putZ, o_putL, o_ald, o_ast, o_alen, popn, rst, o_callV, o_callT, o_callS, swx, o_sw, o_ret, o_iret, o_zret, o_cret, o_lret, o_aret, lg, lput, lput2, ls1, isL, entL, wsum, rdI1, rdI2, rdA1, rdA21, rdA22, rdL1, rdL22, rdL21, upN_at, rep, sh_0, F_0_0, F_0_1, F_0_2, F_0_3, F_0_4, F_0_5, F_0_6, F_0_7, F_0_8, sh_1, F_1_0, F_1_1, F_1_2, F_1_3, F_1_4, F_1_5, sh_3, F_3_0, F_3_1, F_3_2, F_3_3, F_3_4, F_3_5, sh_5, F_5_0, F_5_1, F_5_2, F_5_3, F_5_4, F_5_5, F_5_6, F_5_7, F_5_8, sh_12, F_12_0, F_12_1, F_12_2, F_12_3, F_12_4, F_12_5, sh_14, F_14_0, F_14_1, F_14_2, F_14_3, F_14_4, F_14_5, F_14_6, F_14_7, F_14_8, sh_21, F_21_0, F_21_1, F_21_2, F_21_3, F_21_4, F_21_5, F_21_6, F_21_7, F_21_8, sh_28, F_28_0, F_28_1, F_28_2, F_28_3, F_28_4, F_28_5, F_28_6, F_28_7, F_28_8, sh_35, F_35_0, sh_39, F_39_0, F_39_1, F_39_2, F_39_3, F_39_4, F_39_5, F_39_6, F_39_7, F_39_8, F_39_9, F_39_10, F_39_11, F_39_12, F_39_13, A_2, A_4, A_6, A_7, A_8, A_9, A_10, A_11, A_13, A_15, A_16, A_17, A_18, A_19, A_20, A_22, A_23, A_24, A_25, A_26, A_27, A_29, A_30, A_31, A_32, A_33, A_34, A_36, A_37, A_38, A_40, A_41, A_42, A_43, A_44, A_45, A_46, A_47]
    refine ⟨fun q => h1 fun q2 => absurd q2.1.1 (Int32.not_le.mpr q), fun q => ⟨fun q2 => h1 fun q3 => absurd q3.1.2 (Int32.not_le.mpr q2), fun q2 => ⟨y, rfl, fun q3 => ?_, fun q3 => ?_⟩⟩⟩
    · dsimp only [k_X4_odds_0, k_X4_odds_1, k_X4_odds_4, k_X4_odds_5, k_X4_odds_7, k_X4_odds_10, k_X4_odds_11, k_X4_odds_14, k_X4_odds_17, k_X4_odds_18, k_X4_odds_21, k_X4_odds_24, k_X4_odds_25, k_X4_odds_26, k_X4_odds_27, k_X4_odds_30, k_X4_odds_33, k_X4_odds_36, k_X4_odds_38, k_X4_odds_39, k_X4_odds_41, k_X4_odds_42, k_X4_odds_44, k_X4_odds_45, k_X4_odds_47, k_X4_odds_49, k_X4_odds_51, k_X4_odds_54, k_X4_odds_56, k_X4_odds_58, k_X4_odds_61, k_X4_odds_64, k_X4_odds_66, k_X4_odds_69, k_X4_odds_70, k_X4_odds_73, k_X4_odds_76, k_X4_odds_78, k_X4_odds_79, k_X4_odds_82, k_X4_odds_85, k_X4_odds_87, k_X4_odds_90, k_X4_odds_91, k_X4_odds_94, k_X4_odds_95, k_X4_odds_98, k_X4_odds_99, k_X4_odds_100, k_X4_odds_102, k_X4_odds_105, k_X4_odds_108, k_X4_odds_110, k_X4_odds_113, k_X4_odds_114, k_X4_odds_117, k_X4_odds_118, k_X4_odds_121, k_X4_odds_122, k_X4_odds_123, k_X4_odds_124, k_X4_odds_127, k_X4_odds_129, k_X4_odds_132, k_X4_odds_134, k_X4_odds_136, k_X4_odds_138, k_X4_odds_141, wp1, wp_s, cutIn, kont, Nat.reduceSub, Nat.reduceAdd, nth, o_const, o_lconst, o_ref, o_iload, o_lload, o_aload, o_istore, o_lstore, o_astore, o_iinc, o_bin, o_div, o_un, o_lbin, o_lsh, o_lcmp, o_i2l, o_l2i, o_if, o_icmp, o_goto, o_dup, o_dup2, o_pop, fav, o_getf, o_putI, o_putZ, o_putL, o_ald, o_ast, o_alen, popn, rst, o_callV, o_callT, o_callS, swx, o_sw, o_ret, o_iret, o_zret, o_cret, o_lret, o_aret, lg, lput, lput2, ls1, isL, entL, wsum, rdI1, rdI2, rdA1, rdA21, rdA22, rdL1, rdL22, rdL21, upN_at, rep, sh_0, F_0_0, F_0_1, F_0_2, F_0_3, F_0_4, F_0_5, F_0_6, F_0_7, F_0_8, sh_1, F_1_0, F_1_1, F_1_2, F_1_3, F_1_4, F_1_5, sh_3, F_3_0, F_3_1, F_3_2, F_3_3, F_3_4, F_3_5, sh_5, F_5_0, F_5_1, F_5_2, F_5_3, F_5_4, F_5_5, F_5_6, F_5_7, F_5_8, sh_12, F_12_0, F_12_1, F_12_2, F_12_3, F_12_4, F_12_5, sh_14, F_14_0, F_14_1, F_14_2, F_14_3, F_14_4, F_14_5, F_14_6, F_14_7, F_14_8, sh_21, F_21_0, F_21_1, F_21_2, F_21_3, F_21_4, F_21_5, F_21_6, F_21_7, F_21_8, sh_28, F_28_0, F_28_1, F_28_2, F_28_3, F_28_4, F_28_5, F_28_6, F_28_7, F_28_8, sh_35, F_35_0, sh_39, F_39_0, F_39_1, F_39_2, F_39_3, F_39_4, F_39_5, F_39_6, F_39_7, F_39_8, F_39_9, F_39_10, F_39_11, F_39_12, F_39_13, A_2, A_4, A_6, A_7, A_8, A_9, A_10, A_11, A_13, A_15, A_16, A_17, A_18, A_19, A_20, A_22, A_23, A_24, A_25, A_26, A_27, A_29, A_30, A_31, A_32, A_33, A_34, A_36, A_37, A_38, A_40, A_41, A_42, A_43, A_44, A_45, A_46, A_47]
      refine ⟨fun q4 => absurd q4 (by decide), fun _ => ⟨z, rfl, fun q4 => ?_, fun q4 => ?_⟩⟩
      · dsimp only [k_X4_odds_0, k_X4_odds_1, k_X4_odds_4, k_X4_odds_5, k_X4_odds_7, k_X4_odds_10, k_X4_odds_11, k_X4_odds_14, k_X4_odds_17, k_X4_odds_18, k_X4_odds_21, k_X4_odds_24, k_X4_odds_25, k_X4_odds_26, k_X4_odds_27, k_X4_odds_30, k_X4_odds_33, k_X4_odds_36, k_X4_odds_38, k_X4_odds_39, k_X4_odds_41, k_X4_odds_42, k_X4_odds_44, k_X4_odds_45, k_X4_odds_47, k_X4_odds_49, k_X4_odds_51, k_X4_odds_54, k_X4_odds_56, k_X4_odds_58, k_X4_odds_61, k_X4_odds_64, k_X4_odds_66, k_X4_odds_69, k_X4_odds_70, k_X4_odds_73, k_X4_odds_76, k_X4_odds_78, k_X4_odds_79, k_X4_odds_82, k_X4_odds_85, k_X4_odds_87, k_X4_odds_90, k_X4_odds_91, k_X4_odds_94, k_X4_odds_95, k_X4_odds_98, k_X4_odds_99, k_X4_odds_100, k_X4_odds_102, k_X4_odds_105, k_X4_odds_108, k_X4_odds_110, k_X4_odds_113, k_X4_odds_114, k_X4_odds_117, k_X4_odds_118, k_X4_odds_121, k_X4_odds_122, k_X4_odds_123, k_X4_odds_124, k_X4_odds_127, k_X4_odds_129, k_X4_odds_132, k_X4_odds_134, k_X4_odds_136, k_X4_odds_138, k_X4_odds_141, wp1, wp_s, cutIn, kont, Nat.reduceSub, Nat.reduceAdd, nth, o_const, o_lconst, o_ref, o_iload, o_lload, o_aload, o_istore, o_lstore, o_astore, o_iinc, o_bin, o_div, o_un, o_lbin, o_lsh, o_lcmp, o_i2l, o_l2i, o_if, o_icmp, o_goto, o_dup, o_dup2, o_pop, fav, o_getf, o_putI, o_putZ, o_putL, o_ald, o_ast, o_alen, popn, rst, o_callV, o_callT, o_callS, swx, o_sw, o_ret, o_iret, o_zret, o_cret, o_lret, o_aret, lg, lput, lput2, ls1, isL, entL, wsum, rdI1, rdI2, rdA1, rdA21, rdA22, rdL1, rdL22, rdL21, upN_at, rep, sh_0, F_0_0, F_0_1, F_0_2, F_0_3, F_0_4, F_0_5, F_0_6, F_0_7, F_0_8, sh_1, F_1_0, F_1_1, F_1_2, F_1_3, F_1_4, F_1_5, sh_3, F_3_0, F_3_1, F_3_2, F_3_3, F_3_4, F_3_5, sh_5, F_5_0, F_5_1, F_5_2, F_5_3, F_5_4, F_5_5, F_5_6, F_5_7, F_5_8, sh_12, F_12_0, F_12_1, F_12_2, F_12_3, F_12_4, F_12_5, sh_14, F_14_0, F_14_1, F_14_2, F_14_3, F_14_4, F_14_5, F_14_6, F_14_7, F_14_8, sh_21, F_21_0, F_21_1, F_21_2, F_21_3, F_21_4, F_21_5, F_21_6, F_21_7, F_21_8, sh_28, F_28_0, F_28_1, F_28_2, F_28_3, F_28_4, F_28_5, F_28_6, F_28_7, F_28_8, sh_35, F_35_0, sh_39, F_39_0, F_39_1, F_39_2, F_39_3, F_39_4, F_39_5, F_39_6, F_39_7, F_39_8, F_39_9, F_39_10, F_39_11, F_39_12, F_39_13, A_2, A_4, A_6, A_7, A_8, A_9, A_10, A_11, A_13, A_15, A_16, A_17, A_18, A_19, A_20, A_22, A_23, A_24, A_25, A_26, A_27, A_29, A_30, A_31, A_32, A_33, A_34, A_36, A_37, A_38, A_40, A_41, A_42, A_43, A_44, A_45, A_46, A_47]
        refine ⟨fun q4 => absurd q4 (by decide), fun _ => ⟨n, rfl, hn, hn8, ?_⟩⟩
        rw [show mk (fun k => !(M.2.2 3 k == -3)) n = us h0 n from us_congr hhk]
        obtain ⟨k, hk, rfl⟩ := nI_of q
        rw [show (8 : Int32) = nI 8 from rfl, nI_ltI (by omega) (by omega)] at q2
        obtain ⟨row, rfl, hrow⟩ := rg (n := 512) (by omega) q3
        dsimp only [k_X4_odds_0, k_X4_odds_1, k_X4_odds_4, k_X4_odds_5, k_X4_odds_7, k_X4_odds_10, k_X4_odds_11, k_X4_odds_14, k_X4_odds_17, k_X4_odds_18, k_X4_odds_21, k_X4_odds_24, k_X4_odds_25, k_X4_odds_26, k_X4_odds_27, k_X4_odds_30, k_X4_odds_33, k_X4_odds_36, k_X4_odds_38, k_X4_odds_39, k_X4_odds_41, k_X4_odds_42, k_X4_odds_44, k_X4_odds_45, k_X4_odds_47, k_X4_odds_49, k_X4_odds_51, k_X4_odds_54, k_X4_odds_56, k_X4_odds_58, k_X4_odds_61, k_X4_odds_64, k_X4_odds_66, k_X4_odds_69, k_X4_odds_70, k_X4_odds_73, k_X4_odds_76, k_X4_odds_78, k_X4_odds_79, k_X4_odds_82, k_X4_odds_85, k_X4_odds_87, k_X4_odds_90, k_X4_odds_91, k_X4_odds_94, k_X4_odds_95, k_X4_odds_98, k_X4_odds_99, k_X4_odds_100, k_X4_odds_102, k_X4_odds_105, k_X4_odds_108, k_X4_odds_110, k_X4_odds_113, k_X4_odds_114, k_X4_odds_117, k_X4_odds_118, k_X4_odds_121, k_X4_odds_122, k_X4_odds_123, k_X4_odds_124, k_X4_odds_127, k_X4_odds_129, k_X4_odds_132, k_X4_odds_134, k_X4_odds_136, k_X4_odds_138, k_X4_odds_141, wp1, wp_s, cutIn, kont, Nat.reduceSub, Nat.reduceAdd, nth, o_const, o_lconst, o_ref, o_iload, o_lload, o_aload, o_istore, o_lstore, o_astore, o_iinc, o_bin, o_div, o_un, o_lbin, o_lsh, o_lcmp, o_i2l, o_l2i, o_if, o_icmp, o_goto, o_dup, o_dup2, o_pop, fav, o_getf, o_putI, o_putZ, o_putL, o_ald, o_ast, o_alen, popn, rst, o_callV, o_callT, o_callS, swx, o_sw, o_ret, o_iret, o_zret, o_cret, o_lret, o_aret, lg, lput, lput2, ls1, isL, entL, wsum, rdI1, rdI2, rdA1, rdA21, rdA22, rdL1, rdL22, rdL21, upN_at, rep, sh_0, F_0_0, F_0_1, F_0_2, F_0_3, F_0_4, F_0_5, F_0_6, F_0_7, F_0_8, sh_1, F_1_0, F_1_1, F_1_2, F_1_3, F_1_4, F_1_5, sh_3, F_3_0, F_3_1, F_3_2, F_3_3, F_3_4, F_3_5, sh_5, F_5_0, F_5_1, F_5_2, F_5_3, F_5_4, F_5_5, F_5_6, F_5_7, F_5_8, sh_12, F_12_0, F_12_1, F_12_2, F_12_3, F_12_4, F_12_5, sh_14, F_14_0, F_14_1, F_14_2, F_14_3, F_14_4, F_14_5, F_14_6, F_14_7, F_14_8, sh_21, F_21_0, F_21_1, F_21_2, F_21_3, F_21_4, F_21_5, F_21_6, F_21_7, F_21_8, sh_28, F_28_0, F_28_1, F_28_2, F_28_3, F_28_4, F_28_5, F_28_6, F_28_7, F_28_8, sh_35, F_35_0, sh_39, F_39_0, F_39_1, F_39_2, F_39_3, F_39_4, F_39_5, F_39_6, F_39_7, F_39_8, F_39_9, F_39_10, F_39_11, F_39_12, F_39_13, A_2, A_4, A_6, A_7, A_8, A_9, A_10, A_11, A_13, A_15, A_16, A_17, A_18, A_19, A_20, A_22, A_23, A_24, A_25, A_26, A_27, A_29, A_30, A_31, A_32, A_33, A_34, A_36, A_37, A_38, A_40, A_41, A_42, A_43, A_44, A_45, A_46, A_47]
        exact cut _ _ ⟨rfl, rfl, rfl, k, row, 0, by omega, rfl, by omega, rfl, hrow, q4, rfl, rfl⟩ (by omega) ⟨rfl, rfl, rfl, rfl, rfl, rfl, rfl, rfl, trivial⟩
      · dsimp only [k_X4_odds_0, k_X4_odds_1, k_X4_odds_4, k_X4_odds_5, k_X4_odds_7, k_X4_odds_10, k_X4_odds_11, k_X4_odds_14, k_X4_odds_17, k_X4_odds_18, k_X4_odds_21, k_X4_odds_24, k_X4_odds_25, k_X4_odds_26, k_X4_odds_27, k_X4_odds_30, k_X4_odds_33, k_X4_odds_36, k_X4_odds_38, k_X4_odds_39, k_X4_odds_41, k_X4_odds_42, k_X4_odds_44, k_X4_odds_45, k_X4_odds_47, k_X4_odds_49, k_X4_odds_51, k_X4_odds_54, k_X4_odds_56, k_X4_odds_58, k_X4_odds_61, k_X4_odds_64, k_X4_odds_66, k_X4_odds_69, k_X4_odds_70, k_X4_odds_73, k_X4_odds_76, k_X4_odds_78, k_X4_odds_79, k_X4_odds_82, k_X4_odds_85, k_X4_odds_87, k_X4_odds_90, k_X4_odds_91, k_X4_odds_94, k_X4_odds_95, k_X4_odds_98, k_X4_odds_99, k_X4_odds_100, k_X4_odds_102, k_X4_odds_105, k_X4_odds_108, k_X4_odds_110, k_X4_odds_113, k_X4_odds_114, k_X4_odds_117, k_X4_odds_118, k_X4_odds_121, k_X4_odds_122, k_X4_odds_123, k_X4_odds_124, k_X4_odds_127, k_X4_odds_129, k_X4_odds_132, k_X4_odds_134, k_X4_odds_136, k_X4_odds_138, k_X4_odds_141, wp1, wp_s, cutIn, kont, Nat.reduceSub, Nat.reduceAdd, nth, o_const, o_lconst, o_ref, o_iload, o_lload, o_aload, o_istore, o_lstore, o_astore, o_iinc, o_bin, o_div, o_un, o_lbin, o_lsh, o_lcmp, o_i2l, o_l2i, o_if, o_icmp, o_goto, o_dup, o_dup2, o_pop, fav, o_getf, o_putI, o_putZ, o_putL, o_ald, o_ast, o_alen, popn, rst, o_callV, o_callT, o_callS, swx, o_sw, o_ret, o_iret, o_zret, o_cret, o_lret, o_aret, lg, lput, lput2, ls1, isL, entL, wsum, rdI1, rdI2, rdA1, rdA21, rdA22, rdL1, rdL22, rdL21, upN_at, rep, sh_0, F_0_0, F_0_1, F_0_2, F_0_3, F_0_4, F_0_5, F_0_6, F_0_7, F_0_8, sh_1, F_1_0, F_1_1, F_1_2, F_1_3, F_1_4, F_1_5, sh_3, F_3_0, F_3_1, F_3_2, F_3_3, F_3_4, F_3_5, sh_5, F_5_0, F_5_1, F_5_2, F_5_3, F_5_4, F_5_5, F_5_6, F_5_7, F_5_8, sh_12, F_12_0, F_12_1, F_12_2, F_12_3, F_12_4, F_12_5, sh_14, F_14_0, F_14_1, F_14_2, F_14_3, F_14_4, F_14_5, F_14_6, F_14_7, F_14_8, sh_21, F_21_0, F_21_1, F_21_2, F_21_3, F_21_4, F_21_5, F_21_6, F_21_7, F_21_8, sh_28, F_28_0, F_28_1, F_28_2, F_28_3, F_28_4, F_28_5, F_28_6, F_28_7, F_28_8, sh_35, F_35_0, sh_39, F_39_0, F_39_1, F_39_2, F_39_3, F_39_4, F_39_5, F_39_6, F_39_7, F_39_8, F_39_9, F_39_10, F_39_11, F_39_12, F_39_13, A_2, A_4, A_6, A_7, A_8, A_9, A_10, A_11, A_13, A_15, A_16, A_17, A_18, A_19, A_20, A_22, A_23, A_24, A_25, A_26, A_27, A_29, A_30, A_31, A_32, A_33, A_34, A_36, A_37, A_38, A_40, A_41, A_42, A_43, A_44, A_45, A_46, A_47]
        exact ⟨fun _ => h1 fun q5 => q4 q5.2.2, fun q5 => absurd rfl q5⟩
    · dsimp only [k_X4_odds_0, k_X4_odds_1, k_X4_odds_4, k_X4_odds_5, k_X4_odds_7, k_X4_odds_10, k_X4_odds_11, k_X4_odds_14, k_X4_odds_17, k_X4_odds_18, k_X4_odds_21, k_X4_odds_24, k_X4_odds_25, k_X4_odds_26, k_X4_odds_27, k_X4_odds_30, k_X4_odds_33, k_X4_odds_36, k_X4_odds_38, k_X4_odds_39, k_X4_odds_41, k_X4_odds_42, k_X4_odds_44, k_X4_odds_45, k_X4_odds_47, k_X4_odds_49, k_X4_odds_51, k_X4_odds_54, k_X4_odds_56, k_X4_odds_58, k_X4_odds_61, k_X4_odds_64, k_X4_odds_66, k_X4_odds_69, k_X4_odds_70, k_X4_odds_73, k_X4_odds_76, k_X4_odds_78, k_X4_odds_79, k_X4_odds_82, k_X4_odds_85, k_X4_odds_87, k_X4_odds_90, k_X4_odds_91, k_X4_odds_94, k_X4_odds_95, k_X4_odds_98, k_X4_odds_99, k_X4_odds_100, k_X4_odds_102, k_X4_odds_105, k_X4_odds_108, k_X4_odds_110, k_X4_odds_113, k_X4_odds_114, k_X4_odds_117, k_X4_odds_118, k_X4_odds_121, k_X4_odds_122, k_X4_odds_123, k_X4_odds_124, k_X4_odds_127, k_X4_odds_129, k_X4_odds_132, k_X4_odds_134, k_X4_odds_136, k_X4_odds_138, k_X4_odds_141, wp1, wp_s, cutIn, kont, Nat.reduceSub, Nat.reduceAdd, nth, o_const, o_lconst, o_ref, o_iload, o_lload, o_aload, o_istore, o_lstore, o_astore, o_iinc, o_bin, o_div, o_un, o_lbin, o_lsh, o_lcmp, o_i2l, o_l2i, o_if, o_icmp, o_goto, o_dup, o_dup2, o_pop, fav, o_getf, o_putI, o_putZ, o_putL, o_ald, o_ast, o_alen, popn, rst, o_callV, o_callT, o_callS, swx, o_sw, o_ret, o_iret, o_zret, o_cret, o_lret, o_aret, lg, lput, lput2, ls1, isL, entL, wsum, rdI1, rdI2, rdA1, rdA21, rdA22, rdL1, rdL22, rdL21, upN_at, rep, sh_0, F_0_0, F_0_1, F_0_2, F_0_3, F_0_4, F_0_5, F_0_6, F_0_7, F_0_8, sh_1, F_1_0, F_1_1, F_1_2, F_1_3, F_1_4, F_1_5, sh_3, F_3_0, F_3_1, F_3_2, F_3_3, F_3_4, F_3_5, sh_5, F_5_0, F_5_1, F_5_2, F_5_3, F_5_4, F_5_5, F_5_6, F_5_7, F_5_8, sh_12, F_12_0, F_12_1, F_12_2, F_12_3, F_12_4, F_12_5, sh_14, F_14_0, F_14_1, F_14_2, F_14_3, F_14_4, F_14_5, F_14_6, F_14_7, F_14_8, sh_21, F_21_0, F_21_1, F_21_2, F_21_3, F_21_4, F_21_5, F_21_6, F_21_7, F_21_8, sh_28, F_28_0, F_28_1, F_28_2, F_28_3, F_28_4, F_28_5, F_28_6, F_28_7, F_28_8, sh_35, F_35_0, sh_39, F_39_0, F_39_1, F_39_2, F_39_3, F_39_4, F_39_5, F_39_6, F_39_7, F_39_8, F_39_9, F_39_10, F_39_11, F_39_12, F_39_13, A_2, A_4, A_6, A_7, A_8, A_9, A_10, A_11, A_13, A_15, A_16, A_17, A_18, A_19, A_20, A_22, A_23, A_24, A_25, A_26, A_27, A_29, A_30, A_31, A_32, A_33, A_34, A_36, A_37, A_38, A_40, A_41, A_42, A_43, A_44, A_45, A_46, A_47]
      exact ⟨fun _ => h1 fun q5 => q3 q5.2.1, fun q5 => absurd rfl q5⟩
theorem c_X4_odds : Ctr yX4_odds cX4_odds 8 (some .int) ({ frames := 2, cells := 0, slots := 0, locals := 43 } : Room) S_X4_odds := ctr_of (T := T_X4_odds) (by decide +kernel) (fun post C hr => t_X4_odds post C hr) v_X4_odds
