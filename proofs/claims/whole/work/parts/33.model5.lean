/-! The model: images, counts, who is rated. -/
def cpI (im s : Nat → Int32) (e i : Nat) : Nat → Int32 := fun j => if 48 * e ≤ j ∧ j < 48 * e + i then s (j - 48 * e) else im j
def bkI (s im : Nat → Int32) (e i : Nat) : Nat → Int32 := fun j => if j < i then im (48 * e + j) else s j
def S_X5_keep : SP := fun as M post => ∃ x, as = [VR 39, VI x] ∧ (¬ (x = 0 ∨ x = 1) → post (some (VI (-1))) M) ∧ (∀ e, e < 2 → x = nI e → post (some (VI (M.2.2 33 0))) (sA 35 (upd (M.2.2 35) e 1) (sA 34 (cpI (M.2.2 34) (M.2.2 33) e 48) M)))
def S_X5_back : SP := fun as M post => ∃ x, as = [VR 39, VI x] ∧ (¬ (x = 0 ∨ x = 1) → post (some (VI (-1))) M) ∧ (∀ e, e < 2 → x = nI e → M.2.2 35 e = 0 → post (some (VI (-2))) M) ∧ (∀ e, e < 2 → x = nI e → ¬ M.2.2 35 e = 0 → post (some (VI (M.2.2 34 (48 * e)))) (sA 33 (bkI (M.2.2 33) (M.2.2 34) e 48) M))
def S_X5_count : SP := fun as M post => ∃ x n c p r h lk, as = [VR 39, VI x] ∧ MW M n c p r h lk ∧ (x = 0 → post (some (VI (nI n))) M) ∧ (x = 1 → post (some (VI (nI c))) M) ∧ (x = 2 → post (some (VI (nI p))) M) ∧ (x = 3 → post (some (VI (nI (cn (kB h n (-4)) 9)))) M) ∧ (x = 4 → post (some (VI (nI (cn (kB h n (-3)) 9)))) M) ∧ (x = 5 → post (some (VI (M.2.2 33 17))) M) ∧ (x = 6 → post (some (VI (M.1 25))) M) ∧ (¬ (0 ≤ x ∧ x < 7) → post (some (VI (-1))) M)
def S_X5_rate : SP := fun as M post => ∃ y x n c p r h lk, as = [VR 39, VI y, VI x] ∧ MW M n c p r h lk ∧ HH h n p ∧ ((¬ ((0 ≤ x ∧ x < nI p) ∧ (0 ≤ y ∧ y < 6))) → post (some (VI (-1000000))) M) ∧ (∀ k q, y = nI k → k < 6 → x = nI q → q < p → ∀ f, post (some (VI (rV k r h n lk c x))) (sA 36 f (sL 1 (rT k (M.2.1 1)) M)))
theorem fl_RX5_22 : Cond.fieldLink RX5 22 (TX5 6).1 (TX5 6).2.1 (TX5 6).2.2.1 ∈ tb := tb_of 639 (by decide +kernel) (by decide +kernel)
theorem fl_RX5_25 : Cond.fieldLink RX5 25 (TX5 7).1 (TX5 7).2.1 (TX5 7).2.2.1 ∈ tb := tb_of 640 (by decide +kernel) (by decide +kernel)
theorem dX5_keep_0 : decode cX5_keep 0 = .ok (.iload_n 1, 1) := by decide +kernel
theorem dX5_keep_1 : decode cX5_keep 1 = .ok (.iconst 0, 1) := by decide +kernel
theorem dX5_keep_2 : decode cX5_keep 2 = .ok (.iconst 1, 1) := by decide +kernel
theorem dX5_keep_3 : decode cX5_keep 3 = .ok (.invokestatic 35, 3) := by decide +kernel
theorem dX5_keep_6 : decode cX5_keep 6 = .ok (.ifCond .ne 5, 3) := by decide +kernel
theorem dX5_keep_9 : decode cX5_keep 9 = .ok (.iconst (-1), 1) := by decide +kernel
theorem dX5_keep_10 : decode cX5_keep 10 = .ok (.ireturn, 1) := by decide +kernel
theorem dX5_keep_11 : decode cX5_keep 11 = .ok (.iconst 0, 1) := by decide +kernel
theorem dX5_keep_12 : decode cX5_keep 12 = .ok (.istore_n 2, 1) := by decide +kernel
theorem dX5_keep_13 : decode cX5_keep 13 = .ok (.iload_n 2, 1) := by decide +kernel
theorem dX5_keep_14 : decode cX5_keep 14 = .ok (.bipush 48, 2) := by decide +kernel
theorem dX5_keep_16 : decode cX5_keep 16 = .ok (.if_icmp .ge 26, 3) := by decide +kernel
theorem dX5_keep_19 : decode cX5_keep 19 = .ok (.aload_n 0, 1) := by decide +kernel
theorem dX5_keep_20 : decode cX5_keep 20 = .ok (.getfield 22, 3) := by decide +kernel
theorem dX5_keep_23 : decode cX5_keep 23 = .ok (.bipush 48, 2) := by decide +kernel
theorem dX5_keep_25 : decode cX5_keep 25 = .ok (.iload_n 1, 1) := by decide +kernel
theorem dX5_keep_26 : decode cX5_keep 26 = .ok (.imul, 1) := by decide +kernel
theorem dX5_keep_27 : decode cX5_keep 27 = .ok (.iload_n 2, 1) := by decide +kernel
theorem dX5_keep_28 : decode cX5_keep 28 = .ok (.iadd, 1) := by decide +kernel
theorem dX5_keep_29 : decode cX5_keep 29 = .ok (.aload_n 0, 1) := by decide +kernel
theorem dX5_keep_30 : decode cX5_keep 30 = .ok (.getfield 19, 3) := by decide +kernel
theorem dX5_keep_33 : decode cX5_keep 33 = .ok (.iload_n 2, 1) := by decide +kernel
theorem dX5_keep_34 : decode cX5_keep 34 = .ok (.iaload, 1) := by decide +kernel
theorem dX5_keep_35 : decode cX5_keep 35 = .ok (.iastore, 1) := by decide +kernel
theorem dX5_keep_36 : decode cX5_keep 36 = .ok (.iinc 2 1, 3) := by decide +kernel
theorem dX5_keep_39 : decode cX5_keep 39 = .ok (.goto (-26), 3) := by decide +kernel
theorem dX5_keep_42 : decode cX5_keep 42 = .ok (.aload_n 0, 1) := by decide +kernel
theorem dX5_keep_43 : decode cX5_keep 43 = .ok (.getfield 25, 3) := by decide +kernel
theorem dX5_keep_46 : decode cX5_keep 46 = .ok (.iload_n 1, 1) := by decide +kernel
theorem dX5_keep_47 : decode cX5_keep 47 = .ok (.iconst 1, 1) := by decide +kernel
theorem dX5_keep_48 : decode cX5_keep 48 = .ok (.bastore, 1) := by decide +kernel
theorem dX5_keep_49 : decode cX5_keep 49 = .ok (.aload_n 0, 1) := by decide +kernel
theorem dX5_keep_50 : decode cX5_keep 50 = .ok (.getfield 19, 3) := by decide +kernel
theorem dX5_keep_53 : decode cX5_keep 53 = .ok (.iconst 0, 1) := by decide +kernel
theorem dX5_keep_54 : decode cX5_keep 54 = .ok (.iaload, 1) := by decide +kernel
theorem dX5_keep_55 : decode cX5_keep 55 = .ok (.ireturn, 1) := by decide +kernel
def T_X5_keep (post : PO) : List (Nat × OP) := [(0, o_iload 1 1), (1, o_const 0 2), (2, o_const 1 3), (3, o_callS S_X5_in 3 6), (6, o_if (fun x => x = 0) 9 11), (9, o_const (-1) 10), (10, o_iret post), (11, o_const 0 12), (12, o_istore 2 13), (13, o_iload 2 14), (14, o_const 48 16), (16, o_icmp (fun x y => y ≤ x) 42 19), (19, o_aload 0 20), (20, o_getf 5 6 23), (23, o_const 48 25), (25, o_iload 1 26), (26, o_bin (fun x y => x * y) 27), (27, o_iload 2 28), (28, o_bin (fun x y => x + y) 29), (29, o_aload 0 30), (30, o_getf 5 5 33), (33, o_iload 2 34), (34, o_ald 0 35), (35, o_ast 0 (fun x => x) 36), (36, o_iinc 2 1 39), (39, o_goto 13), (42, o_aload 0 43), (43, o_getf 5 7 46), (46, o_iload 1 47), (47, o_const 1 48), (48, o_ast 2 (vp_nar .boolean) 49), (49, o_aload 0 50), (50, o_getf 5 5 53), (53, o_const 0 54), (54, o_ald 0 55), (55, o_iret post)]
theorem k_X5_keep_0 (post : PO) : lk (T_X5_keep post) 0 = o_iload 1 1 := rfl
theorem k_X5_keep_1 (post : PO) : lk (T_X5_keep post) 1 = o_const 0 2 := rfl
theorem k_X5_keep_2 (post : PO) : lk (T_X5_keep post) 2 = o_const 1 3 := rfl
theorem k_X5_keep_3 (post : PO) : lk (T_X5_keep post) 3 = o_callS S_X5_in 3 6 := rfl
theorem k_X5_keep_6 (post : PO) : lk (T_X5_keep post) 6 = o_if (fun x => x = 0) 9 11 := rfl
theorem k_X5_keep_9 (post : PO) : lk (T_X5_keep post) 9 = o_const (-1) 10 := rfl
theorem k_X5_keep_10 (post : PO) : lk (T_X5_keep post) 10 = o_iret post := rfl
theorem k_X5_keep_11 (post : PO) : lk (T_X5_keep post) 11 = o_const 0 12 := rfl
theorem k_X5_keep_12 (post : PO) : lk (T_X5_keep post) 12 = o_istore 2 13 := rfl
theorem k_X5_keep_13 (post : PO) : lk (T_X5_keep post) 13 = o_iload 2 14 := rfl
theorem k_X5_keep_14 (post : PO) : lk (T_X5_keep post) 14 = o_const 48 16 := rfl
theorem k_X5_keep_16 (post : PO) : lk (T_X5_keep post) 16 = o_icmp (fun x y => y ≤ x) 42 19 := rfl
theorem k_X5_keep_19 (post : PO) : lk (T_X5_keep post) 19 = o_aload 0 20 := rfl
theorem k_X5_keep_20 (post : PO) : lk (T_X5_keep post) 20 = o_getf 5 6 23 := rfl
theorem k_X5_keep_23 (post : PO) : lk (T_X5_keep post) 23 = o_const 48 25 := rfl
theorem k_X5_keep_25 (post : PO) : lk (T_X5_keep post) 25 = o_iload 1 26 := rfl
theorem k_X5_keep_26 (post : PO) : lk (T_X5_keep post) 26 = o_bin (fun x y => x * y) 27 := rfl
theorem k_X5_keep_27 (post : PO) : lk (T_X5_keep post) 27 = o_iload 2 28 := rfl
theorem k_X5_keep_28 (post : PO) : lk (T_X5_keep post) 28 = o_bin (fun x y => x + y) 29 := rfl
theorem k_X5_keep_29 (post : PO) : lk (T_X5_keep post) 29 = o_aload 0 30 := rfl
theorem k_X5_keep_30 (post : PO) : lk (T_X5_keep post) 30 = o_getf 5 5 33 := rfl
theorem k_X5_keep_33 (post : PO) : lk (T_X5_keep post) 33 = o_iload 2 34 := rfl
theorem k_X5_keep_34 (post : PO) : lk (T_X5_keep post) 34 = o_ald 0 35 := rfl
theorem k_X5_keep_35 (post : PO) : lk (T_X5_keep post) 35 = o_ast 0 (fun x => x) 36 := rfl
theorem k_X5_keep_36 (post : PO) : lk (T_X5_keep post) 36 = o_iinc 2 1 39 := rfl
theorem k_X5_keep_39 (post : PO) : lk (T_X5_keep post) 39 = o_goto 13 := rfl
theorem k_X5_keep_42 (post : PO) : lk (T_X5_keep post) 42 = o_aload 0 43 := rfl
theorem k_X5_keep_43 (post : PO) : lk (T_X5_keep post) 43 = o_getf 5 7 46 := rfl
theorem k_X5_keep_46 (post : PO) : lk (T_X5_keep post) 46 = o_iload 1 47 := rfl
theorem k_X5_keep_47 (post : PO) : lk (T_X5_keep post) 47 = o_const 1 48 := rfl
theorem k_X5_keep_48 (post : PO) : lk (T_X5_keep post) 48 = o_ast 2 (vp_nar .boolean) 49 := rfl
theorem k_X5_keep_49 (post : PO) : lk (T_X5_keep post) 49 = o_aload 0 50 := rfl
theorem k_X5_keep_50 (post : PO) : lk (T_X5_keep post) 50 = o_getf 5 5 53 := rfl
theorem k_X5_keep_53 (post : PO) : lk (T_X5_keep post) 53 = o_const 0 54 := rfl
theorem k_X5_keep_54 (post : PO) : lk (T_X5_keep post) 54 = o_ald 0 55 := rfl
theorem k_X5_keep_55 (post : PO) : lk (T_X5_keep post) 55 = o_iret post := rfl
set_option maxRecDepth 100000 in
theorem t_X5_keep {p : Program} {l : Launch} {e : Env} {s : State} {m : MethodId} {args : Array Value} {below : List Frame} {meth : Method} {c : Code} {D : va_G} {dA : Nat → ClassId} {ad : Nat → Nat} (post : PO) (C : CX p s m args meth c cX5_keep 3 yX5_keep.cls D dA ad (AA ad s.heap.size)) (hr : meth.sig.returnType = (some .int)) : SndL (WW p l e ({ frames := 1, cells := 0, slots := 0, locals := 22 } : Room) s m args below meth c 0 0 (MQ below (CQ D dA ad post (AA ad s.heap.size)) args s 0 0 (AA ad s.heap.size)) 3 D dA ad (AA ad s.heap.size)) (T_X5_keep post) := by
  refine snd_c (s_iload_n C rfl dX5_keep_0) ?_
  refine snd_c (s_iconst C dX5_keep_1 rfl) ?_
  refine snd_c (s_iconst C dX5_keep_2 rfl) ?_
  refine snd_c (s_callS C c_X5_in cw_RX5_35 ⟨rfl, rfl⟩ ⟨by decide +kernel, by decide +kernel, by decide +kernel⟩ ⟨by decide, by decide⟩ ⟨Nat.zero_le _, Nat.zero_le _⟩ dX5_keep_3) ?_
  refine snd_c (s_if_ne C dX5_keep_6 (by decide)) ?_
  refine snd_c (s_iconst C dX5_keep_9 rfl) ?_
  refine snd_c (s_iret C hr dX5_keep_10) ?_
  refine snd_c (s_iconst C dX5_keep_11 rfl) ?_
  refine snd_c (s_istore_n C rfl (by decide) dX5_keep_12) ?_
  refine snd_c (s_iload_n C rfl dX5_keep_13) ?_
  refine snd_c (s_bipush C dX5_keep_14 rfl) ?_
  refine snd_c (s_icmp_ge C dX5_keep_16 (by decide)) ?_
  refine snd_c (s_aload_n C rfl dX5_keep_19) ?_
  refine snd_c (s_getf C (ci := 5) (j := 6) (T := TX5) rfl inX5 (by decide) fl_RX5_22 dX5_keep_20) ?_
  refine snd_c (s_bipush C dX5_keep_23 rfl) ?_
  refine snd_c (s_iload_n C rfl dX5_keep_25) ?_
  refine snd_c (s_imul C dX5_keep_26) ?_
  refine snd_c (s_iload_n C rfl dX5_keep_27) ?_
  refine snd_c (s_iadd C dX5_keep_28) ?_
  refine snd_c (s_aload_n C rfl dX5_keep_29) ?_
  refine snd_c (s_getf C (ci := 5) (j := 5) (T := TX5) rfl inX5 (by decide) fl_RX5_19 dX5_keep_30) ?_
  refine snd_c (s_iload_n C rfl dX5_keep_33) ?_
  refine snd_c (s_iald C dX5_keep_34) ?_
  refine snd_c (s_iast C dX5_keep_35) ?_
  refine snd_c (s_iinc C (by decide) rfl dX5_keep_36) ?_
  refine snd_c (s_goto C dX5_keep_39 (by decide)) ?_
  refine snd_c (s_aload_n C rfl dX5_keep_42) ?_
  refine snd_c (s_getf C (ci := 5) (j := 7) (T := TX5) rfl inX5 (by decide) fl_RX5_25 dX5_keep_43) ?_
  refine snd_c (s_iload_n C rfl dX5_keep_46) ?_
  refine snd_c (s_iconst C dX5_keep_47 rfl) ?_
  refine snd_c (s_bast2 C dX5_keep_48) ?_
  refine snd_c (s_aload_n C rfl dX5_keep_49) ?_
  refine snd_c (s_getf C (ci := 5) (j := 5) (T := TX5) rfl inX5 (by decide) fl_RX5_19 dX5_keep_50) ?_
  refine snd_c (s_iconst C dX5_keep_53 rfl) ?_
  refine snd_c (s_iald C dX5_keep_54) ?_
  refine snd_c (s_iret C hr dX5_keep_55) ?_
  exact trivial
theorem dX5_back_0 : decode cX5_back 0 = .ok (.iload_n 1, 1) := by decide +kernel
theorem dX5_back_1 : decode cX5_back 1 = .ok (.iconst 0, 1) := by decide +kernel
theorem dX5_back_2 : decode cX5_back 2 = .ok (.iconst 1, 1) := by decide +kernel
theorem dX5_back_3 : decode cX5_back 3 = .ok (.invokestatic 35, 3) := by decide +kernel
theorem dX5_back_6 : decode cX5_back 6 = .ok (.ifCond .ne 5, 3) := by decide +kernel
theorem dX5_back_9 : decode cX5_back 9 = .ok (.iconst (-1), 1) := by decide +kernel
theorem dX5_back_10 : decode cX5_back 10 = .ok (.ireturn, 1) := by decide +kernel
theorem dX5_back_11 : decode cX5_back 11 = .ok (.aload_n 0, 1) := by decide +kernel
theorem dX5_back_12 : decode cX5_back 12 = .ok (.getfield 25, 3) := by decide +kernel
theorem dX5_back_15 : decode cX5_back 15 = .ok (.iload_n 1, 1) := by decide +kernel
theorem dX5_back_16 : decode cX5_back 16 = .ok (.baload, 1) := by decide +kernel
theorem dX5_back_17 : decode cX5_back 17 = .ok (.ifCond .ne 6, 3) := by decide +kernel
theorem dX5_back_20 : decode cX5_back 20 = .ok (.bipush (-2), 2) := by decide +kernel
theorem dX5_back_22 : decode cX5_back 22 = .ok (.ireturn, 1) := by decide +kernel
theorem dX5_back_23 : decode cX5_back 23 = .ok (.iconst 0, 1) := by decide +kernel
theorem dX5_back_24 : decode cX5_back 24 = .ok (.istore_n 2, 1) := by decide +kernel
theorem dX5_back_25 : decode cX5_back 25 = .ok (.iload_n 2, 1) := by decide +kernel
theorem dX5_back_26 : decode cX5_back 26 = .ok (.bipush 48, 2) := by decide +kernel
theorem dX5_back_28 : decode cX5_back 28 = .ok (.if_icmp .ge 26, 3) := by decide +kernel
theorem dX5_back_31 : decode cX5_back 31 = .ok (.aload_n 0, 1) := by decide +kernel
theorem dX5_back_32 : decode cX5_back 32 = .ok (.getfield 19, 3) := by decide +kernel
theorem dX5_back_35 : decode cX5_back 35 = .ok (.iload_n 2, 1) := by decide +kernel
theorem dX5_back_36 : decode cX5_back 36 = .ok (.aload_n 0, 1) := by decide +kernel
theorem dX5_back_37 : decode cX5_back 37 = .ok (.getfield 22, 3) := by decide +kernel
theorem dX5_back_40 : decode cX5_back 40 = .ok (.bipush 48, 2) := by decide +kernel
theorem dX5_back_42 : decode cX5_back 42 = .ok (.iload_n 1, 1) := by decide +kernel
theorem dX5_back_43 : decode cX5_back 43 = .ok (.imul, 1) := by decide +kernel
theorem dX5_back_44 : decode cX5_back 44 = .ok (.iload_n 2, 1) := by decide +kernel
theorem dX5_back_45 : decode cX5_back 45 = .ok (.iadd, 1) := by decide +kernel
theorem dX5_back_46 : decode cX5_back 46 = .ok (.iaload, 1) := by decide +kernel
theorem dX5_back_47 : decode cX5_back 47 = .ok (.iastore, 1) := by decide +kernel
theorem dX5_back_48 : decode cX5_back 48 = .ok (.iinc 2 1, 3) := by decide +kernel
theorem dX5_back_51 : decode cX5_back 51 = .ok (.goto (-26), 3) := by decide +kernel
theorem dX5_back_54 : decode cX5_back 54 = .ok (.aload_n 0, 1) := by decide +kernel
theorem dX5_back_55 : decode cX5_back 55 = .ok (.getfield 19, 3) := by decide +kernel
theorem dX5_back_58 : decode cX5_back 58 = .ok (.iconst 0, 1) := by decide +kernel
theorem dX5_back_59 : decode cX5_back 59 = .ok (.iaload, 1) := by decide +kernel
theorem dX5_back_60 : decode cX5_back 60 = .ok (.ireturn, 1) := by decide +kernel
def T_X5_back (post : PO) : List (Nat × OP) := [(0, o_iload 1 1), (1, o_const 0 2), (2, o_const 1 3), (3, o_callS S_X5_in 3 6), (6, o_if (fun x => x = 0) 9 11), (9, o_const (-1) 10), (10, o_iret post), (11, o_aload 0 12), (12, o_getf 5 7 15), (15, o_iload 1 16), (16, o_ald 2 17), (17, o_if (fun x => x = 0) 20 23), (20, o_const (-2) 22), (22, o_iret post), (23, o_const 0 24), (24, o_istore 2 25), (25, o_iload 2 26), (26, o_const 48 28), (28, o_icmp (fun x y => y ≤ x) 54 31), (31, o_aload 0 32), (32, o_getf 5 5 35), (35, o_iload 2 36), (36, o_aload 0 37), (37, o_getf 5 6 40), (40, o_const 48 42), (42, o_iload 1 43), (43, o_bin (fun x y => x * y) 44), (44, o_iload 2 45), (45, o_bin (fun x y => x + y) 46), (46, o_ald 0 47), (47, o_ast 0 (fun x => x) 48), (48, o_iinc 2 1 51), (51, o_goto 25), (54, o_aload 0 55), (55, o_getf 5 5 58), (58, o_const 0 59), (59, o_ald 0 60), (60, o_iret post)]
theorem k_X5_back_0 (post : PO) : lk (T_X5_back post) 0 = o_iload 1 1 := rfl
theorem k_X5_back_1 (post : PO) : lk (T_X5_back post) 1 = o_const 0 2 := rfl
theorem k_X5_back_2 (post : PO) : lk (T_X5_back post) 2 = o_const 1 3 := rfl
theorem k_X5_back_3 (post : PO) : lk (T_X5_back post) 3 = o_callS S_X5_in 3 6 := rfl
theorem k_X5_back_6 (post : PO) : lk (T_X5_back post) 6 = o_if (fun x => x = 0) 9 11 := rfl
theorem k_X5_back_9 (post : PO) : lk (T_X5_back post) 9 = o_const (-1) 10 := rfl
theorem k_X5_back_10 (post : PO) : lk (T_X5_back post) 10 = o_iret post := rfl
theorem k_X5_back_11 (post : PO) : lk (T_X5_back post) 11 = o_aload 0 12 := rfl
theorem k_X5_back_12 (post : PO) : lk (T_X5_back post) 12 = o_getf 5 7 15 := rfl
theorem k_X5_back_15 (post : PO) : lk (T_X5_back post) 15 = o_iload 1 16 := rfl
theorem k_X5_back_16 (post : PO) : lk (T_X5_back post) 16 = o_ald 2 17 := rfl
theorem k_X5_back_17 (post : PO) : lk (T_X5_back post) 17 = o_if (fun x => x = 0) 20 23 := rfl
theorem k_X5_back_20 (post : PO) : lk (T_X5_back post) 20 = o_const (-2) 22 := rfl
theorem k_X5_back_22 (post : PO) : lk (T_X5_back post) 22 = o_iret post := rfl
theorem k_X5_back_23 (post : PO) : lk (T_X5_back post) 23 = o_const 0 24 := rfl
theorem k_X5_back_24 (post : PO) : lk (T_X5_back post) 24 = o_istore 2 25 := rfl
theorem k_X5_back_25 (post : PO) : lk (T_X5_back post) 25 = o_iload 2 26 := rfl
theorem k_X5_back_26 (post : PO) : lk (T_X5_back post) 26 = o_const 48 28 := rfl
theorem k_X5_back_28 (post : PO) : lk (T_X5_back post) 28 = o_icmp (fun x y => y ≤ x) 54 31 := rfl
theorem k_X5_back_31 (post : PO) : lk (T_X5_back post) 31 = o_aload 0 32 := rfl
theorem k_X5_back_32 (post : PO) : lk (T_X5_back post) 32 = o_getf 5 5 35 := rfl
theorem k_X5_back_35 (post : PO) : lk (T_X5_back post) 35 = o_iload 2 36 := rfl
theorem k_X5_back_36 (post : PO) : lk (T_X5_back post) 36 = o_aload 0 37 := rfl
theorem k_X5_back_37 (post : PO) : lk (T_X5_back post) 37 = o_getf 5 6 40 := rfl
theorem k_X5_back_40 (post : PO) : lk (T_X5_back post) 40 = o_const 48 42 := rfl
theorem k_X5_back_42 (post : PO) : lk (T_X5_back post) 42 = o_iload 1 43 := rfl
theorem k_X5_back_43 (post : PO) : lk (T_X5_back post) 43 = o_bin (fun x y => x * y) 44 := rfl
theorem k_X5_back_44 (post : PO) : lk (T_X5_back post) 44 = o_iload 2 45 := rfl
theorem k_X5_back_45 (post : PO) : lk (T_X5_back post) 45 = o_bin (fun x y => x + y) 46 := rfl
theorem k_X5_back_46 (post : PO) : lk (T_X5_back post) 46 = o_ald 0 47 := rfl
theorem k_X5_back_47 (post : PO) : lk (T_X5_back post) 47 = o_ast 0 (fun x => x) 48 := rfl
theorem k_X5_back_48 (post : PO) : lk (T_X5_back post) 48 = o_iinc 2 1 51 := rfl
theorem k_X5_back_51 (post : PO) : lk (T_X5_back post) 51 = o_goto 25 := rfl
theorem k_X5_back_54 (post : PO) : lk (T_X5_back post) 54 = o_aload 0 55 := rfl
theorem k_X5_back_55 (post : PO) : lk (T_X5_back post) 55 = o_getf 5 5 58 := rfl
theorem k_X5_back_58 (post : PO) : lk (T_X5_back post) 58 = o_const 0 59 := rfl
theorem k_X5_back_59 (post : PO) : lk (T_X5_back post) 59 = o_ald 0 60 := rfl
theorem k_X5_back_60 (post : PO) : lk (T_X5_back post) 60 = o_iret post := rfl
set_option maxRecDepth 100000 in
theorem t_X5_back {p : Program} {l : Launch} {e : Env} {s : State} {m : MethodId} {args : Array Value} {below : List Frame} {meth : Method} {c : Code} {D : va_G} {dA : Nat → ClassId} {ad : Nat → Nat} (post : PO) (C : CX p s m args meth c cX5_back 3 yX5_back.cls D dA ad (AA ad s.heap.size)) (hr : meth.sig.returnType = (some .int)) : SndL (WW p l e ({ frames := 1, cells := 0, slots := 0, locals := 22 } : Room) s m args below meth c 0 0 (MQ below (CQ D dA ad post (AA ad s.heap.size)) args s 0 0 (AA ad s.heap.size)) 3 D dA ad (AA ad s.heap.size)) (T_X5_back post) := by
  refine snd_c (s_iload_n C rfl dX5_back_0) ?_
  refine snd_c (s_iconst C dX5_back_1 rfl) ?_
  refine snd_c (s_iconst C dX5_back_2 rfl) ?_
  refine snd_c (s_callS C c_X5_in cw_RX5_35 ⟨rfl, rfl⟩ ⟨by decide +kernel, by decide +kernel, by decide +kernel⟩ ⟨by decide, by decide⟩ ⟨Nat.zero_le _, Nat.zero_le _⟩ dX5_back_3) ?_
  refine snd_c (s_if_ne C dX5_back_6 (by decide)) ?_
  refine snd_c (s_iconst C dX5_back_9 rfl) ?_
  refine snd_c (s_iret C hr dX5_back_10) ?_
  refine snd_c (s_aload_n C rfl dX5_back_11) ?_
  refine snd_c (s_getf C (ci := 5) (j := 7) (T := TX5) rfl inX5 (by decide) fl_RX5_25 dX5_back_12) ?_
  refine snd_c (s_iload_n C rfl dX5_back_15) ?_
  refine snd_c (s_bald2 C dX5_back_16) ?_
  refine snd_c (s_if_ne C dX5_back_17 (by decide)) ?_
  refine snd_c (s_bipush C dX5_back_20 rfl) ?_
  refine snd_c (s_iret C hr dX5_back_22) ?_
  refine snd_c (s_iconst C dX5_back_23 rfl) ?_
  refine snd_c (s_istore_n C rfl (by decide) dX5_back_24) ?_
  refine snd_c (s_iload_n C rfl dX5_back_25) ?_
  refine snd_c (s_bipush C dX5_back_26 rfl) ?_
  refine snd_c (s_icmp_ge C dX5_back_28 (by decide)) ?_
  refine snd_c (s_aload_n C rfl dX5_back_31) ?_
  refine snd_c (s_getf C (ci := 5) (j := 5) (T := TX5) rfl inX5 (by decide) fl_RX5_19 dX5_back_32) ?_
  refine snd_c (s_iload_n C rfl dX5_back_35) ?_
  refine snd_c (s_aload_n C rfl dX5_back_36) ?_
  refine snd_c (s_getf C (ci := 5) (j := 6) (T := TX5) rfl inX5 (by decide) fl_RX5_22 dX5_back_37) ?_
  refine snd_c (s_bipush C dX5_back_40 rfl) ?_
  refine snd_c (s_iload_n C rfl dX5_back_42) ?_
  refine snd_c (s_imul C dX5_back_43) ?_
  refine snd_c (s_iload_n C rfl dX5_back_44) ?_
  refine snd_c (s_iadd C dX5_back_45) ?_
  refine snd_c (s_iald C dX5_back_46) ?_
  refine snd_c (s_iast C dX5_back_47) ?_
  refine snd_c (s_iinc C (by decide) rfl dX5_back_48) ?_
  refine snd_c (s_goto C dX5_back_51 (by decide)) ?_
  refine snd_c (s_aload_n C rfl dX5_back_54) ?_
  refine snd_c (s_getf C (ci := 5) (j := 5) (T := TX5) rfl inX5 (by decide) fl_RX5_19 dX5_back_55) ?_
  refine snd_c (s_iconst C dX5_back_58 rfl) ?_
  refine snd_c (s_iald C dX5_back_59) ?_
  refine snd_c (s_iret C hr dX5_back_60) ?_
  exact trivial
theorem dX5_count_0 : decode cX5_count 0 = .ok (.iload_n 1, 1) := by decide +kernel
theorem dX5_count_1 : decode cX5_count 1 = .ok (.iconst 0, 1) := by decide +kernel
theorem dX5_count_2 : decode cX5_count 2 = .ok (.bipush 6, 2) := by decide +kernel
theorem dX5_count_4 : decode cX5_count 4 = .ok (.invokestatic 35, 3) := by decide +kernel
theorem dX5_count_7 : decode cX5_count 7 = .ok (.ifCond .ne 5, 3) := by decide +kernel
theorem dX5_count_10 : decode cX5_count 10 = .ok (.iconst (-1), 1) := by decide +kernel
theorem dX5_count_11 : decode cX5_count 11 = .ok (.ireturn, 1) := by decide +kernel
theorem dX5_count_12 : decode cX5_count 12 = .ok (.iload_n 1, 1) := by decide +kernel
theorem dX5_count_13 : decode cX5_count 13 = .ok (.ifCond .ne 12, 3) := by decide +kernel
theorem dX5_count_16 : decode cX5_count 16 = .ok (.aload_n 0, 1) := by decide +kernel
theorem dX5_count_17 : decode cX5_count 17 = .ok (.getfield 19, 3) := by decide +kernel
theorem dX5_count_20 : decode cX5_count 20 = .ok (.iconst 0, 1) := by decide +kernel
theorem dX5_count_21 : decode cX5_count 21 = .ok (.iaload, 1) := by decide +kernel
theorem dX5_count_22 : decode cX5_count 22 = .ok (.goto 38, 3) := by decide +kernel
theorem dX5_count_25 : decode cX5_count 25 = .ok (.iload_n 1, 1) := by decide +kernel
theorem dX5_count_26 : decode cX5_count 26 = .ok (.iconst 1, 1) := by decide +kernel
theorem dX5_count_27 : decode cX5_count 27 = .ok (.if_icmp .ne 12, 3) := by decide +kernel
theorem dX5_count_30 : decode cX5_count 30 = .ok (.aload_n 0, 1) := by decide +kernel
theorem dX5_count_31 : decode cX5_count 31 = .ok (.getfield 13, 3) := by decide +kernel
theorem dX5_count_34 : decode cX5_count 34 = .ok (.iconst 0, 1) := by decide +kernel
theorem dX5_count_35 : decode cX5_count 35 = .ok (.iaload, 1) := by decide +kernel
theorem dX5_count_36 : decode cX5_count 36 = .ok (.goto 24, 3) := by decide +kernel
theorem dX5_count_39 : decode cX5_count 39 = .ok (.iload_n 1, 1) := by decide +kernel
theorem dX5_count_40 : decode cX5_count 40 = .ok (.iconst 2, 1) := by decide +kernel
theorem dX5_count_41 : decode cX5_count 41 = .ok (.if_icmp .ne 12, 3) := by decide +kernel
theorem dX5_count_44 : decode cX5_count 44 = .ok (.aload_n 0, 1) := by decide +kernel
theorem dX5_count_45 : decode cX5_count 45 = .ok (.getfield 13, 3) := by decide +kernel
theorem dX5_count_48 : decode cX5_count 48 = .ok (.iconst 1, 1) := by decide +kernel
theorem dX5_count_49 : decode cX5_count 49 = .ok (.iaload, 1) := by decide +kernel
theorem dX5_count_50 : decode cX5_count 50 = .ok (.goto 10, 3) := by decide +kernel
theorem dX5_count_53 : decode cX5_count 53 = .ok (.aload_n 0, 1) := by decide +kernel
theorem dX5_count_54 : decode cX5_count 54 = .ok (.invokevirtual 147, 3) := by decide +kernel
theorem dX5_count_57 : decode cX5_count 57 = .ok (.invokestatic 131, 3) := by decide +kernel
theorem dX5_count_60 : decode cX5_count 60 = .ok (.istore_n 2, 1) := by decide +kernel
theorem dX5_count_61 : decode cX5_count 61 = .ok (.iload_n 1, 1) := by decide +kernel
theorem dX5_count_62 : decode cX5_count 62 = .ok (.iconst 4, 1) := by decide +kernel
theorem dX5_count_63 : decode cX5_count 63 = .ok (.if_icmp .ge 7, 3) := by decide +kernel
theorem dX5_count_66 : decode cX5_count 66 = .ok (.iload_n 2, 1) := by decide +kernel
theorem dX5_count_67 : decode cX5_count 67 = .ok (.goto 44, 3) := by decide +kernel
theorem dX5_count_70 : decode cX5_count 70 = .ok (.iload_n 1, 1) := by decide +kernel
theorem dX5_count_71 : decode cX5_count 71 = .ok (.iconst 4, 1) := by decide +kernel
theorem dX5_count_72 : decode cX5_count 72 = .ok (.if_icmp .ne 20, 3) := by decide +kernel
theorem dX5_count_75 : decode cX5_count 75 = .ok (.aload_n 0, 1) := by decide +kernel
theorem dX5_count_76 : decode cX5_count 76 = .ok (.getfield 19, 3) := by decide +kernel
theorem dX5_count_79 : decode cX5_count 79 = .ok (.iconst 0, 1) := by decide +kernel
theorem dX5_count_80 : decode cX5_count 80 = .ok (.iaload, 1) := by decide +kernel
theorem dX5_count_81 : decode cX5_count 81 = .ok (.aload_n 0, 1) := by decide +kernel
theorem dX5_count_82 : decode cX5_count 82 = .ok (.invokevirtual 104, 3) := by decide +kernel
theorem dX5_count_85 : decode cX5_count 85 = .ok (.invokestatic 131, 3) := by decide +kernel
theorem dX5_count_88 : decode cX5_count 88 = .ok (.isub, 1) := by decide +kernel
theorem dX5_count_89 : decode cX5_count 89 = .ok (.goto 22, 3) := by decide +kernel
theorem dX5_count_92 : decode cX5_count 92 = .ok (.iload_n 1, 1) := by decide +kernel
theorem dX5_count_93 : decode cX5_count 93 = .ok (.iconst 5, 1) := by decide +kernel
theorem dX5_count_94 : decode cX5_count 94 = .ok (.if_icmp .ne 13, 3) := by decide +kernel
theorem dX5_count_97 : decode cX5_count 97 = .ok (.aload_n 0, 1) := by decide +kernel
theorem dX5_count_98 : decode cX5_count 98 = .ok (.getfield 19, 3) := by decide +kernel
theorem dX5_count_101 : decode cX5_count 101 = .ok (.bipush 17, 2) := by decide +kernel
theorem dX5_count_103 : decode cX5_count 103 = .ok (.iaload, 1) := by decide +kernel
theorem dX5_count_104 : decode cX5_count 104 = .ok (.goto 7, 3) := by decide +kernel
theorem dX5_count_107 : decode cX5_count 107 = .ok (.aload_n 0, 1) := by decide +kernel
theorem dX5_count_108 : decode cX5_count 108 = .ok (.getfield 39, 3) := by decide +kernel
theorem dX5_count_111 : decode cX5_count 111 = .ok (.ireturn, 1) := by decide +kernel
def T_X5_count (post : PO) : List (Nat × OP) := [(0, o_iload 1 1), (1, o_const 0 2), (2, o_const 6 4), (4, o_callS S_X5_in 3 7), (7, o_if (fun x => x = 0) 10 12), (10, o_const (-1) 11), (11, o_iret post), (12, o_iload 1 13), (13, o_if (fun x => x = 0) 16 25), (16, o_aload 0 17), (17, o_getf 5 5 20), (20, o_const 0 21), (21, o_ald 0 22), (22, o_goto 60), (25, o_iload 1 26), (26, o_const 1 27), (27, o_icmp (fun x y => x = y) 30 39), (30, o_aload 0 31), (31, o_getf 5 3 34), (34, o_const 0 35), (35, o_ald 0 36), (36, o_goto 60), (39, o_iload 1 40), (40, o_const 2 41), (41, o_icmp (fun x y => x = y) 44 53), (44, o_aload 0 45), (45, o_getf 5 3 48), (48, o_const 1 49), (49, o_ald 0 50), (50, o_goto 60), (53, o_aload 0 54), (54, o_callV 5 S_X5_box 0 57), (57, o_callS S_X5_ones 1 60), (60, o_istore 2 61), (61, o_iload 1 62), (62, o_const 4 63), (63, o_icmp (fun x y => y ≤ x) 70 66), (66, o_iload 2 67), (67, o_goto 111), (70, o_iload 1 71), (71, o_const 4 72), (72, o_icmp (fun x y => x = y) 75 92), (75, o_aload 0 76), (76, o_getf 5 5 79), (79, o_const 0 80), (80, o_ald 0 81), (81, o_aload 0 82), (82, o_callV 5 S_X5_all 0 85), (85, o_callS S_X5_ones 1 88), (88, o_bin (fun x y => x - y) 89), (89, o_goto 111), (92, o_iload 1 93), (93, o_const 5 94), (94, o_icmp (fun x y => x = y) 97 107), (97, o_aload 0 98), (98, o_getf 5 5 101), (101, o_const 17 103), (103, o_ald 0 104), (104, o_goto 111), (107, o_aload 0 108), (108, o_getf 5 2 111), (111, o_iret post)]
theorem k_X5_count_0 (post : PO) : lk (T_X5_count post) 0 = o_iload 1 1 := rfl
theorem k_X5_count_1 (post : PO) : lk (T_X5_count post) 1 = o_const 0 2 := rfl
theorem k_X5_count_2 (post : PO) : lk (T_X5_count post) 2 = o_const 6 4 := rfl
theorem k_X5_count_4 (post : PO) : lk (T_X5_count post) 4 = o_callS S_X5_in 3 7 := rfl
theorem k_X5_count_7 (post : PO) : lk (T_X5_count post) 7 = o_if (fun x => x = 0) 10 12 := rfl
theorem k_X5_count_10 (post : PO) : lk (T_X5_count post) 10 = o_const (-1) 11 := rfl
theorem k_X5_count_11 (post : PO) : lk (T_X5_count post) 11 = o_iret post := rfl
theorem k_X5_count_12 (post : PO) : lk (T_X5_count post) 12 = o_iload 1 13 := rfl
theorem k_X5_count_13 (post : PO) : lk (T_X5_count post) 13 = o_if (fun x => x = 0) 16 25 := rfl
theorem k_X5_count_16 (post : PO) : lk (T_X5_count post) 16 = o_aload 0 17 := rfl
theorem k_X5_count_17 (post : PO) : lk (T_X5_count post) 17 = o_getf 5 5 20 := rfl
theorem k_X5_count_20 (post : PO) : lk (T_X5_count post) 20 = o_const 0 21 := rfl
theorem k_X5_count_21 (post : PO) : lk (T_X5_count post) 21 = o_ald 0 22 := rfl
theorem k_X5_count_22 (post : PO) : lk (T_X5_count post) 22 = o_goto 60 := rfl
theorem k_X5_count_25 (post : PO) : lk (T_X5_count post) 25 = o_iload 1 26 := rfl
theorem k_X5_count_26 (post : PO) : lk (T_X5_count post) 26 = o_const 1 27 := rfl
theorem k_X5_count_27 (post : PO) : lk (T_X5_count post) 27 = o_icmp (fun x y => x = y) 30 39 := rfl
theorem k_X5_count_30 (post : PO) : lk (T_X5_count post) 30 = o_aload 0 31 := rfl
theorem k_X5_count_31 (post : PO) : lk (T_X5_count post) 31 = o_getf 5 3 34 := rfl
theorem k_X5_count_34 (post : PO) : lk (T_X5_count post) 34 = o_const 0 35 := rfl
theorem k_X5_count_35 (post : PO) : lk (T_X5_count post) 35 = o_ald 0 36 := rfl
theorem k_X5_count_36 (post : PO) : lk (T_X5_count post) 36 = o_goto 60 := rfl
theorem k_X5_count_39 (post : PO) : lk (T_X5_count post) 39 = o_iload 1 40 := rfl
theorem k_X5_count_40 (post : PO) : lk (T_X5_count post) 40 = o_const 2 41 := rfl
theorem k_X5_count_41 (post : PO) : lk (T_X5_count post) 41 = o_icmp (fun x y => x = y) 44 53 := rfl
theorem k_X5_count_44 (post : PO) : lk (T_X5_count post) 44 = o_aload 0 45 := rfl
theorem k_X5_count_45 (post : PO) : lk (T_X5_count post) 45 = o_getf 5 3 48 := rfl
theorem k_X5_count_48 (post : PO) : lk (T_X5_count post) 48 = o_const 1 49 := rfl
theorem k_X5_count_49 (post : PO) : lk (T_X5_count post) 49 = o_ald 0 50 := rfl
theorem k_X5_count_50 (post : PO) : lk (T_X5_count post) 50 = o_goto 60 := rfl
theorem k_X5_count_53 (post : PO) : lk (T_X5_count post) 53 = o_aload 0 54 := rfl
theorem k_X5_count_54 (post : PO) : lk (T_X5_count post) 54 = o_callV 5 S_X5_box 0 57 := rfl
theorem k_X5_count_57 (post : PO) : lk (T_X5_count post) 57 = o_callS S_X5_ones 1 60 := rfl
theorem k_X5_count_60 (post : PO) : lk (T_X5_count post) 60 = o_istore 2 61 := rfl
theorem k_X5_count_61 (post : PO) : lk (T_X5_count post) 61 = o_iload 1 62 := rfl
theorem k_X5_count_62 (post : PO) : lk (T_X5_count post) 62 = o_const 4 63 := rfl
theorem k_X5_count_63 (post : PO) : lk (T_X5_count post) 63 = o_icmp (fun x y => y ≤ x) 70 66 := rfl
theorem k_X5_count_66 (post : PO) : lk (T_X5_count post) 66 = o_iload 2 67 := rfl
theorem k_X5_count_67 (post : PO) : lk (T_X5_count post) 67 = o_goto 111 := rfl
theorem k_X5_count_70 (post : PO) : lk (T_X5_count post) 70 = o_iload 1 71 := rfl
theorem k_X5_count_71 (post : PO) : lk (T_X5_count post) 71 = o_const 4 72 := rfl
theorem k_X5_count_72 (post : PO) : lk (T_X5_count post) 72 = o_icmp (fun x y => x = y) 75 92 := rfl
theorem k_X5_count_75 (post : PO) : lk (T_X5_count post) 75 = o_aload 0 76 := rfl
theorem k_X5_count_76 (post : PO) : lk (T_X5_count post) 76 = o_getf 5 5 79 := rfl
theorem k_X5_count_79 (post : PO) : lk (T_X5_count post) 79 = o_const 0 80 := rfl
theorem k_X5_count_80 (post : PO) : lk (T_X5_count post) 80 = o_ald 0 81 := rfl
theorem k_X5_count_81 (post : PO) : lk (T_X5_count post) 81 = o_aload 0 82 := rfl
theorem k_X5_count_82 (post : PO) : lk (T_X5_count post) 82 = o_callV 5 S_X5_all 0 85 := rfl
theorem k_X5_count_85 (post : PO) : lk (T_X5_count post) 85 = o_callS S_X5_ones 1 88 := rfl
theorem k_X5_count_88 (post : PO) : lk (T_X5_count post) 88 = o_bin (fun x y => x - y) 89 := rfl
theorem k_X5_count_89 (post : PO) : lk (T_X5_count post) 89 = o_goto 111 := rfl
theorem k_X5_count_92 (post : PO) : lk (T_X5_count post) 92 = o_iload 1 93 := rfl
theorem k_X5_count_93 (post : PO) : lk (T_X5_count post) 93 = o_const 5 94 := rfl
theorem k_X5_count_94 (post : PO) : lk (T_X5_count post) 94 = o_icmp (fun x y => x = y) 97 107 := rfl
theorem k_X5_count_97 (post : PO) : lk (T_X5_count post) 97 = o_aload 0 98 := rfl
theorem k_X5_count_98 (post : PO) : lk (T_X5_count post) 98 = o_getf 5 5 101 := rfl
theorem k_X5_count_101 (post : PO) : lk (T_X5_count post) 101 = o_const 17 103 := rfl
theorem k_X5_count_103 (post : PO) : lk (T_X5_count post) 103 = o_ald 0 104 := rfl
theorem k_X5_count_104 (post : PO) : lk (T_X5_count post) 104 = o_goto 111 := rfl
theorem k_X5_count_107 (post : PO) : lk (T_X5_count post) 107 = o_aload 0 108 := rfl
theorem k_X5_count_108 (post : PO) : lk (T_X5_count post) 108 = o_getf 5 2 111 := rfl
theorem k_X5_count_111 (post : PO) : lk (T_X5_count post) 111 = o_iret post := rfl
set_option maxRecDepth 100000 in
theorem t_X5_count {p : Program} {l : Launch} {e : Env} {s : State} {m : MethodId} {args : Array Value} {below : List Frame} {meth : Method} {c : Code} {D : va_G} {dA : Nat → ClassId} {ad : Nat → Nat} (post : PO) (C : CX p s m args meth c cX5_count 3 yX5_count.cls D dA ad (AA ad s.heap.size)) (hr : meth.sig.returnType = (some .int)) : SndL (WW p l e ({ frames := 1, cells := 0, slots := 0, locals := 22 } : Room) s m args below meth c 0 0 (MQ below (CQ D dA ad post (AA ad s.heap.size)) args s 0 0 (AA ad s.heap.size)) 3 D dA ad (AA ad s.heap.size)) (T_X5_count post) := by
  refine snd_c (s_iload_n C rfl dX5_count_0) ?_
  refine snd_c (s_iconst C dX5_count_1 rfl) ?_
  refine snd_c (s_bipush C dX5_count_2 rfl) ?_
  refine snd_c (s_callS C c_X5_in cw_RX5_35 ⟨rfl, rfl⟩ ⟨by decide +kernel, by decide +kernel, by decide +kernel⟩ ⟨by decide, by decide⟩ ⟨Nat.zero_le _, Nat.zero_le _⟩ dX5_count_4) ?_
  refine snd_c (s_if_ne C dX5_count_7 (by decide)) ?_
  refine snd_c (s_iconst C dX5_count_10 rfl) ?_
  refine snd_c (s_iret C hr dX5_count_11) ?_
  refine snd_c (s_iload_n C rfl dX5_count_12) ?_
  refine snd_c (s_if_ne C dX5_count_13 (by decide)) ?_
  refine snd_c (s_aload_n C rfl dX5_count_16) ?_
  refine snd_c (s_getf C (ci := 5) (j := 5) (T := TX5) rfl inX5 (by decide) fl_RX5_19 dX5_count_17) ?_
  refine snd_c (s_iconst C dX5_count_20 rfl) ?_
  refine snd_c (s_iald C dX5_count_21) ?_
  refine snd_c (s_goto C dX5_count_22 (by decide)) ?_
  refine snd_c (s_iload_n C rfl dX5_count_25) ?_
  refine snd_c (s_iconst C dX5_count_26 rfl) ?_
  refine snd_c (s_icmp_ne C dX5_count_27 (by decide)) ?_
  refine snd_c (s_aload_n C rfl dX5_count_30) ?_
  refine snd_c (s_getf C (ci := 5) (j := 3) (T := TX5) rfl inX5 (by decide) fl_RX5_13 dX5_count_31) ?_
  refine snd_c (s_iconst C dX5_count_34 rfl) ?_
  refine snd_c (s_iald C dX5_count_35) ?_
  refine snd_c (s_goto C dX5_count_36 (by decide)) ?_
  refine snd_c (s_iload_n C rfl dX5_count_39) ?_
  refine snd_c (s_iconst C dX5_count_40 rfl) ?_
  refine snd_c (s_icmp_ne C dX5_count_41 (by decide)) ?_
  refine snd_c (s_aload_n C rfl dX5_count_44) ?_
  refine snd_c (s_getf C (ci := 5) (j := 3) (T := TX5) rfl inX5 (by decide) fl_RX5_13 dX5_count_45) ?_
  refine snd_c (s_iconst C dX5_count_48 rfl) ?_
  refine snd_c (s_iald C dX5_count_49) ?_
  refine snd_c (s_goto C dX5_count_50 (by decide)) ?_
  refine snd_c (s_aload_n C rfl dX5_count_53) ?_
  refine snd_c (s_callV C (ci := 5) c_X5_box rfl cw_RX5_147 ⟨rfl, rfl⟩ ⟨by decide +kernel, by decide +kernel, by decide +kernel⟩ ⟨by decide, by decide⟩ ⟨Nat.zero_le _, Nat.zero_le _⟩ dX5_count_54) ?_
  refine snd_c (s_callS C c_X5_ones cw_RX5_131 ⟨rfl, rfl⟩ ⟨by decide +kernel, by decide +kernel, by decide +kernel⟩ ⟨by decide, by decide⟩ ⟨Nat.zero_le _, Nat.zero_le _⟩ dX5_count_57) ?_
  refine snd_c (s_istore_n C rfl (by decide) dX5_count_60) ?_
  refine snd_c (s_iload_n C rfl dX5_count_61) ?_
  refine snd_c (s_iconst C dX5_count_62 rfl) ?_
  refine snd_c (s_icmp_ge C dX5_count_63 (by decide)) ?_
  refine snd_c (s_iload_n C rfl dX5_count_66) ?_
  refine snd_c (s_goto C dX5_count_67 (by decide)) ?_
  refine snd_c (s_iload_n C rfl dX5_count_70) ?_
  refine snd_c (s_iconst C dX5_count_71 rfl) ?_
  refine snd_c (s_icmp_ne C dX5_count_72 (by decide)) ?_
  refine snd_c (s_aload_n C rfl dX5_count_75) ?_
  refine snd_c (s_getf C (ci := 5) (j := 5) (T := TX5) rfl inX5 (by decide) fl_RX5_19 dX5_count_76) ?_
  refine snd_c (s_iconst C dX5_count_79 rfl) ?_
  refine snd_c (s_iald C dX5_count_80) ?_
  refine snd_c (s_aload_n C rfl dX5_count_81) ?_
  refine snd_c (s_callV C (ci := 5) c_X5_all rfl cw_RX5_104 ⟨rfl, rfl⟩ ⟨by decide +kernel, by decide +kernel, by decide +kernel⟩ ⟨by decide, by decide⟩ ⟨Nat.zero_le _, Nat.zero_le _⟩ dX5_count_82) ?_
  refine snd_c (s_callS C c_X5_ones cw_RX5_131 ⟨rfl, rfl⟩ ⟨by decide +kernel, by decide +kernel, by decide +kernel⟩ ⟨by decide, by decide⟩ ⟨Nat.zero_le _, Nat.zero_le _⟩ dX5_count_85) ?_
  refine snd_c (s_isub C dX5_count_88) ?_
  refine snd_c (s_goto C dX5_count_89 (by decide)) ?_
  refine snd_c (s_iload_n C rfl dX5_count_92) ?_
  refine snd_c (s_iconst C dX5_count_93 rfl) ?_
  refine snd_c (s_icmp_ne C dX5_count_94 (by decide)) ?_
  refine snd_c (s_aload_n C rfl dX5_count_97) ?_
  refine snd_c (s_getf C (ci := 5) (j := 5) (T := TX5) rfl inX5 (by decide) fl_RX5_19 dX5_count_98) ?_
  refine snd_c (s_bipush C dX5_count_101 rfl) ?_
  refine snd_c (s_iald C dX5_count_103) ?_
  refine snd_c (s_goto C dX5_count_104 (by decide)) ?_
  refine snd_c (s_aload_n C rfl dX5_count_107) ?_
  refine snd_c (s_getf C (ci := 5) (j := 2) (T := TX5) rfl inX5 (by decide) fl_RX5_39 dX5_count_108) ?_
  refine snd_c (s_iret C hr dX5_count_111) ?_
  exact trivial
theorem ct_RX5_150 : Cond.constant RX5 150 (-1000000) ∈ tb := tb_of 875 (by decide +kernel) (by decide +kernel)
theorem ctL_RX5_155 : Cond.constantLong RX5 155 (11) ∈ tb := tb_of 876 (by decide +kernel) (by decide +kernel)
theorem ctL_RX5_157 : Cond.constantLong RX5 157 (101) ∈ tb := tb_of 877 (by decide +kernel) (by decide +kernel)
theorem ctL_RX5_159 : Cond.constantLong RX5 159 (1011) ∈ tb := tb_of 878 (by decide +kernel) (by decide +kernel)
theorem ctL_RX5_161 : Cond.constantLong RX5 161 (10101) ∈ tb := tb_of 879 (by decide +kernel) (by decide +kernel)
theorem ctL_RX5_163 : Cond.constantLong RX5 163 (100001) ∈ tb := tb_of 880 (by decide +kernel) (by decide +kernel)
theorem dX5_rate_0 : decode cX5_rate 0 = .ok (.iload_n 1, 1) := by decide +kernel
theorem dX5_rate_1 : decode cX5_rate 1 = .ok (.iconst 0, 1) := by decide +kernel
theorem dX5_rate_2 : decode cX5_rate 2 = .ok (.iconst 5, 1) := by decide +kernel
theorem dX5_rate_3 : decode cX5_rate 3 = .ok (.invokestatic 35, 3) := by decide +kernel
theorem dX5_rate_6 : decode cX5_rate 6 = .ok (.ifCond .eq 11, 3) := by decide +kernel
theorem dX5_rate_9 : decode cX5_rate 9 = .ok (.aload_n 0, 1) := by decide +kernel
theorem dX5_rate_10 : decode cX5_rate 10 = .ok (.iload_n 2, 1) := by decide +kernel
theorem dX5_rate_11 : decode cX5_rate 11 = .ok (.invokevirtual 117, 3) := by decide +kernel
theorem dX5_rate_14 : decode cX5_rate 14 = .ok (.ifCond .ne 6, 3) := by decide +kernel
theorem dX5_rate_17 : decode cX5_rate 17 = .ok (.ldc 150, 2) := by decide +kernel
theorem dX5_rate_19 : decode cX5_rate 19 = .ok (.ireturn, 1) := by decide +kernel
theorem dX5_rate_20 : decode cX5_rate 20 = .ok (.aload_n 0, 1) := by decide +kernel
theorem dX5_rate_21 : decode cX5_rate 21 = .ok (.dup, 1) := by decide +kernel
theorem dX5_rate_22 : decode cX5_rate 22 = .ok (.getfield 151, 3) := by decide +kernel
theorem dX5_rate_25 : decode cX5_rate 25 = .ok (.iload_n 1, 1) := by decide +kernel
theorem dX5_rate_26 : decode cX5_rate 26 = .ok (.ifCond .ne 7, 3) := by decide +kernel
theorem dX5_rate_29 : decode cX5_rate 29 = .ok (.lconst 1, 1) := by decide +kernel
theorem dX5_rate_30 : decode cX5_rate 30 = .ok (.goto 50, 3) := by decide +kernel
theorem dX5_rate_33 : decode cX5_rate 33 = .ok (.iload_n 1, 1) := by decide +kernel
theorem dX5_rate_34 : decode cX5_rate 34 = .ok (.iconst 1, 1) := by decide +kernel
theorem dX5_rate_35 : decode cX5_rate 35 = .ok (.if_icmp .ne 9, 3) := by decide +kernel
theorem dX5_rate_38 : decode cX5_rate 38 = .ok (.ldc2_w 155, 3) := by decide +kernel
theorem dX5_rate_41 : decode cX5_rate 41 = .ok (.goto 39, 3) := by decide +kernel
theorem dX5_rate_44 : decode cX5_rate 44 = .ok (.iload_n 1, 1) := by decide +kernel
theorem dX5_rate_45 : decode cX5_rate 45 = .ok (.iconst 2, 1) := by decide +kernel
theorem dX5_rate_46 : decode cX5_rate 46 = .ok (.if_icmp .ne 9, 3) := by decide +kernel
theorem dX5_rate_49 : decode cX5_rate 49 = .ok (.ldc2_w 157, 3) := by decide +kernel
theorem dX5_rate_52 : decode cX5_rate 52 = .ok (.goto 28, 3) := by decide +kernel
theorem dX5_rate_55 : decode cX5_rate 55 = .ok (.iload_n 1, 1) := by decide +kernel
theorem dX5_rate_56 : decode cX5_rate 56 = .ok (.iconst 3, 1) := by decide +kernel
theorem dX5_rate_57 : decode cX5_rate 57 = .ok (.if_icmp .ne 9, 3) := by decide +kernel
theorem dX5_rate_60 : decode cX5_rate 60 = .ok (.ldc2_w 159, 3) := by decide +kernel
theorem dX5_rate_63 : decode cX5_rate 63 = .ok (.goto 17, 3) := by decide +kernel
theorem dX5_rate_66 : decode cX5_rate 66 = .ok (.iload_n 1, 1) := by decide +kernel
theorem dX5_rate_67 : decode cX5_rate 67 = .ok (.iconst 4, 1) := by decide +kernel
theorem dX5_rate_68 : decode cX5_rate 68 = .ok (.if_icmp .ne 9, 3) := by decide +kernel
theorem dX5_rate_71 : decode cX5_rate 71 = .ok (.ldc2_w 161, 3) := by decide +kernel
theorem dX5_rate_74 : decode cX5_rate 74 = .ok (.goto 6, 3) := by decide +kernel
theorem dX5_rate_77 : decode cX5_rate 77 = .ok (.ldc2_w 163, 3) := by decide +kernel
theorem dX5_rate_80 : decode cX5_rate 80 = .ok (.ladd, 1) := by decide +kernel
theorem dX5_rate_81 : decode cX5_rate 81 = .ok (.putfield 151, 3) := by decide +kernel
theorem dX5_rate_84 : decode cX5_rate 84 = .ok (.aload_n 0, 1) := by decide +kernel
theorem dX5_rate_85 : decode cX5_rate 85 = .ok (.iconst 1, 1) := by decide +kernel
theorem dX5_rate_86 : decode cX5_rate 86 = .ok (.iload_n 2, 1) := by decide +kernel
theorem dX5_rate_87 : decode cX5_rate 87 = .ok (.ishl, 1) := by decide +kernel
theorem dX5_rate_88 : decode cX5_rate 88 = .ok (.invokevirtual 137, 3) := by decide +kernel
theorem dX5_rate_91 : decode cX5_rate 91 = .ok (.istore_n 3, 1) := by decide +kernel
theorem dX5_rate_92 : decode cX5_rate 92 = .ok (.iload_n 3, 1) := by decide +kernel
theorem dX5_rate_93 : decode cX5_rate 93 = .ok (.invokestatic 131, 3) := by decide +kernel
theorem dX5_rate_96 : decode cX5_rate 96 = .ok (.istore 4, 2) := by decide +kernel
theorem dX5_rate_98 : decode cX5_rate 98 = .ok (.iload 4, 2) := by decide +kernel
theorem dX5_rate_100 : decode cX5_rate 100 = .ok (.aload_n 0, 1) := by decide +kernel
theorem dX5_rate_101 : decode cX5_rate 101 = .ok (.iload_n 3, 1) := by decide +kernel
theorem dX5_rate_102 : decode cX5_rate 102 = .ok (.invokevirtual 140, 3) := by decide +kernel
theorem dX5_rate_105 : decode cX5_rate 105 = .ok (.invokestatic 131, 3) := by decide +kernel
theorem dX5_rate_108 : decode cX5_rate 108 = .ok (.iadd, 1) := by decide +kernel
theorem dX5_rate_109 : decode cX5_rate 109 = .ok (.istore 5, 2) := by decide +kernel
theorem dX5_rate_111 : decode cX5_rate 111 = .ok (.iload 4, 2) := by decide +kernel
theorem dX5_rate_113 : decode cX5_rate 113 = .ok (.aload_n 0, 1) := by decide +kernel
theorem dX5_rate_114 : decode cX5_rate 114 = .ok (.iload_n 3, 1) := by decide +kernel
theorem dX5_rate_115 : decode cX5_rate 115 = .ok (.invokevirtual 110, 3) := by decide +kernel
theorem dX5_rate_118 : decode cX5_rate 118 = .ok (.invokestatic 131, 3) := by decide +kernel
theorem dX5_rate_121 : decode cX5_rate 121 = .ok (.isub, 1) := by decide +kernel
theorem dX5_rate_122 : decode cX5_rate 122 = .ok (.istore 6, 2) := by decide +kernel
theorem dX5_rate_124 : decode cX5_rate 124 = .ok (.iload_n 1, 1) := by decide +kernel
theorem dX5_rate_125 : decode cX5_rate 125 = .ok (.ifCond .ne 8, 3) := by decide +kernel
theorem dX5_rate_128 : decode cX5_rate 128 = .ok (.iload 4, 2) := by decide +kernel
theorem dX5_rate_130 : decode cX5_rate 130 = .ok (.goto 57, 3) := by decide +kernel
theorem dX5_rate_133 : decode cX5_rate 133 = .ok (.iload_n 1, 1) := by decide +kernel
theorem dX5_rate_134 : decode cX5_rate 134 = .ok (.iconst 1, 1) := by decide +kernel
theorem dX5_rate_135 : decode cX5_rate 135 = .ok (.if_icmp .ne 8, 3) := by decide +kernel
theorem dX5_rate_138 : decode cX5_rate 138 = .ok (.iload 5, 2) := by decide +kernel
theorem dX5_rate_140 : decode cX5_rate 140 = .ok (.goto 47, 3) := by decide +kernel
theorem dX5_rate_143 : decode cX5_rate 143 = .ok (.iload_n 1, 1) := by decide +kernel
theorem dX5_rate_144 : decode cX5_rate 144 = .ok (.iconst 2, 1) := by decide +kernel
theorem dX5_rate_145 : decode cX5_rate 145 = .ok (.if_icmp .ne 8, 3) := by decide +kernel
theorem dX5_rate_148 : decode cX5_rate 148 = .ok (.iload 6, 2) := by decide +kernel
theorem dX5_rate_150 : decode cX5_rate 150 = .ok (.goto 37, 3) := by decide +kernel
theorem dX5_rate_153 : decode cX5_rate 153 = .ok (.iload_n 1, 1) := by decide +kernel
theorem dX5_rate_154 : decode cX5_rate 154 = .ok (.iconst 3, 1) := by decide +kernel
theorem dX5_rate_155 : decode cX5_rate 155 = .ok (.if_icmp .ne 10, 3) := by decide +kernel
theorem dX5_rate_158 : decode cX5_rate 158 = .ok (.iconst 2, 1) := by decide +kernel
theorem dX5_rate_159 : decode cX5_rate 159 = .ok (.iload 5, 2) := by decide +kernel
theorem dX5_rate_161 : decode cX5_rate 161 = .ok (.imul, 1) := by decide +kernel
theorem dX5_rate_162 : decode cX5_rate 162 = .ok (.goto 25, 3) := by decide +kernel
theorem dX5_rate_165 : decode cX5_rate 165 = .ok (.iload_n 1, 1) := by decide +kernel
theorem dX5_rate_166 : decode cX5_rate 166 = .ok (.iconst 4, 1) := by decide +kernel
theorem dX5_rate_167 : decode cX5_rate 167 = .ok (.if_icmp .ne 10, 3) := by decide +kernel
theorem dX5_rate_170 : decode cX5_rate 170 = .ok (.iload 6, 2) := by decide +kernel
theorem dX5_rate_172 : decode cX5_rate 172 = .ok (.iload_n 2, 1) := by decide +kernel
theorem dX5_rate_173 : decode cX5_rate 173 = .ok (.iadd, 1) := by decide +kernel
theorem dX5_rate_174 : decode cX5_rate 174 = .ok (.goto 13, 3) := by decide +kernel
theorem dX5_rate_177 : decode cX5_rate 177 = .ok (.iload 4, 2) := by decide +kernel
theorem dX5_rate_179 : decode cX5_rate 179 = .ok (.aload_n 0, 1) := by decide +kernel
theorem dX5_rate_180 : decode cX5_rate 180 = .ok (.invokevirtual 147, 3) := by decide +kernel
theorem dX5_rate_183 : decode cX5_rate 183 = .ok (.invokestatic 131, 3) := by decide +kernel
theorem dX5_rate_186 : decode cX5_rate 186 = .ok (.iadd, 1) := by decide +kernel
theorem dX5_rate_187 : decode cX5_rate 187 = .ok (.ireturn, 1) := by decide +kernel
def T_X5_rate (post : PO) : List (Nat × OP) := [(0, o_iload 1 1), (1, o_const 0 2), (2, o_const 5 3), (3, o_callS S_X5_in 3 6), (6, o_if (fun x => x = 0) 17 9), (9, o_aload 0 10), (10, o_iload 2 11), (11, o_callV 5 S_X5_isPerson 1 14), (14, o_if (fun x => x = 0) 17 20), (17, o_const (-1000000) 19), (19, o_iret post), (20, o_aload 0 21), (21, o_dup 22), (22, o_getf 5 0 25), (25, o_iload 1 26), (26, o_if (fun x => x = 0) 29 33), (29, o_lconst 1 30), (30, o_goto 80), (33, o_iload 1 34), (34, o_const 1 35), (35, o_icmp (fun x y => x = y) 38 44), (38, o_lconst 11 41), (41, o_goto 80), (44, o_iload 1 45), (45, o_const 2 46), (46, o_icmp (fun x y => x = y) 49 55), (49, o_lconst 101 52), (52, o_goto 80), (55, o_iload 1 56), (56, o_const 3 57), (57, o_icmp (fun x y => x = y) 60 66), (60, o_lconst 1011 63), (63, o_goto 80), (66, o_iload 1 67), (67, o_const 4 68), (68, o_icmp (fun x y => x = y) 71 77), (71, o_lconst 10101 74), (74, o_goto 80), (77, o_lconst 100001 80), (80, o_lbin (fun x y => x + y) 81), (81, o_putL 5 0 84), (84, o_aload 0 85), (85, o_const 1 86), (86, o_iload 2 87), (87, o_bin (fun x y => x <<< (y &&& 31)) 88), (88, o_callV 5 S_X5_heldBy 1 91), (91, o_istore 3 92), (92, o_iload 3 93), (93, o_callS S_X5_ones 1 96), (96, o_istore 4 98), (98, o_iload 4 100), (100, o_aload 0 101), (101, o_iload 3 102), (102, o_callV 5 S_X5_opensBy 1 105), (105, o_callS S_X5_ones 1 108), (108, o_bin (fun x y => x + y) 109), (109, o_istore 5 111), (111, o_iload 4 113), (113, o_aload 0 114), (114, o_iload 3 115), (115, o_callV 5 S_X5_rowOf 1 118), (118, o_callS S_X5_ones 1 121), (121, o_bin (fun x y => x - y) 122), (122, o_istore 6 124), (124, o_iload 1 125), (125, o_if (fun x => x = 0) 128 133), (128, o_iload 4 130), (130, o_goto 187), (133, o_iload 1 134), (134, o_const 1 135), (135, o_icmp (fun x y => x = y) 138 143), (138, o_iload 5 140), (140, o_goto 187), (143, o_iload 1 144), (144, o_const 2 145), (145, o_icmp (fun x y => x = y) 148 153), (148, o_iload 6 150), (150, o_goto 187), (153, o_iload 1 154), (154, o_const 3 155), (155, o_icmp (fun x y => x = y) 158 165), (158, o_const 2 159), (159, o_iload 5 161), (161, o_bin (fun x y => x * y) 162), (162, o_goto 187), (165, o_iload 1 166), (166, o_const 4 167), (167, o_icmp (fun x y => x = y) 170 177), (170, o_iload 6 172), (172, o_iload 2 173), (173, o_bin (fun x y => x + y) 174), (174, o_goto 187), (177, o_iload 4 179), (179, o_aload 0 180), (180, o_callV 5 S_X5_box 0 183), (183, o_callS S_X5_ones 1 186), (186, o_bin (fun x y => x + y) 187), (187, o_iret post)]
theorem k_X5_rate_0 (post : PO) : lk (T_X5_rate post) 0 = o_iload 1 1 := rfl
theorem k_X5_rate_1 (post : PO) : lk (T_X5_rate post) 1 = o_const 0 2 := rfl
theorem k_X5_rate_2 (post : PO) : lk (T_X5_rate post) 2 = o_const 5 3 := rfl
theorem k_X5_rate_3 (post : PO) : lk (T_X5_rate post) 3 = o_callS S_X5_in 3 6 := rfl
theorem k_X5_rate_6 (post : PO) : lk (T_X5_rate post) 6 = o_if (fun x => x = 0) 17 9 := rfl
theorem k_X5_rate_9 (post : PO) : lk (T_X5_rate post) 9 = o_aload 0 10 := rfl
theorem k_X5_rate_10 (post : PO) : lk (T_X5_rate post) 10 = o_iload 2 11 := rfl
theorem k_X5_rate_11 (post : PO) : lk (T_X5_rate post) 11 = o_callV 5 S_X5_isPerson 1 14 := rfl
theorem k_X5_rate_14 (post : PO) : lk (T_X5_rate post) 14 = o_if (fun x => x = 0) 17 20 := rfl
theorem k_X5_rate_17 (post : PO) : lk (T_X5_rate post) 17 = o_const (-1000000) 19 := rfl
theorem k_X5_rate_19 (post : PO) : lk (T_X5_rate post) 19 = o_iret post := rfl
theorem k_X5_rate_20 (post : PO) : lk (T_X5_rate post) 20 = o_aload 0 21 := rfl
theorem k_X5_rate_21 (post : PO) : lk (T_X5_rate post) 21 = o_dup 22 := rfl
theorem k_X5_rate_22 (post : PO) : lk (T_X5_rate post) 22 = o_getf 5 0 25 := rfl
theorem k_X5_rate_25 (post : PO) : lk (T_X5_rate post) 25 = o_iload 1 26 := rfl
theorem k_X5_rate_26 (post : PO) : lk (T_X5_rate post) 26 = o_if (fun x => x = 0) 29 33 := rfl
theorem k_X5_rate_29 (post : PO) : lk (T_X5_rate post) 29 = o_lconst 1 30 := rfl
theorem k_X5_rate_30 (post : PO) : lk (T_X5_rate post) 30 = o_goto 80 := rfl
theorem k_X5_rate_33 (post : PO) : lk (T_X5_rate post) 33 = o_iload 1 34 := rfl
theorem k_X5_rate_34 (post : PO) : lk (T_X5_rate post) 34 = o_const 1 35 := rfl
theorem k_X5_rate_35 (post : PO) : lk (T_X5_rate post) 35 = o_icmp (fun x y => x = y) 38 44 := rfl
theorem k_X5_rate_38 (post : PO) : lk (T_X5_rate post) 38 = o_lconst 11 41 := rfl
theorem k_X5_rate_41 (post : PO) : lk (T_X5_rate post) 41 = o_goto 80 := rfl
theorem k_X5_rate_44 (post : PO) : lk (T_X5_rate post) 44 = o_iload 1 45 := rfl
theorem k_X5_rate_45 (post : PO) : lk (T_X5_rate post) 45 = o_const 2 46 := rfl
theorem k_X5_rate_46 (post : PO) : lk (T_X5_rate post) 46 = o_icmp (fun x y => x = y) 49 55 := rfl
theorem k_X5_rate_49 (post : PO) : lk (T_X5_rate post) 49 = o_lconst 101 52 := rfl
theorem k_X5_rate_52 (post : PO) : lk (T_X5_rate post) 52 = o_goto 80 := rfl
theorem k_X5_rate_55 (post : PO) : lk (T_X5_rate post) 55 = o_iload 1 56 := rfl
theorem k_X5_rate_56 (post : PO) : lk (T_X5_rate post) 56 = o_const 3 57 := rfl
theorem k_X5_rate_57 (post : PO) : lk (T_X5_rate post) 57 = o_icmp (fun x y => x = y) 60 66 := rfl
theorem k_X5_rate_60 (post : PO) : lk (T_X5_rate post) 60 = o_lconst 1011 63 := rfl
theorem k_X5_rate_63 (post : PO) : lk (T_X5_rate post) 63 = o_goto 80 := rfl
theorem k_X5_rate_66 (post : PO) : lk (T_X5_rate post) 66 = o_iload 1 67 := rfl
theorem k_X5_rate_67 (post : PO) : lk (T_X5_rate post) 67 = o_const 4 68 := rfl
theorem k_X5_rate_68 (post : PO) : lk (T_X5_rate post) 68 = o_icmp (fun x y => x = y) 71 77 := rfl
theorem k_X5_rate_71 (post : PO) : lk (T_X5_rate post) 71 = o_lconst 10101 74 := rfl
theorem k_X5_rate_74 (post : PO) : lk (T_X5_rate post) 74 = o_goto 80 := rfl
theorem k_X5_rate_77 (post : PO) : lk (T_X5_rate post) 77 = o_lconst 100001 80 := rfl
theorem k_X5_rate_80 (post : PO) : lk (T_X5_rate post) 80 = o_lbin (fun x y => x + y) 81 := rfl
theorem k_X5_rate_81 (post : PO) : lk (T_X5_rate post) 81 = o_putL 5 0 84 := rfl
theorem k_X5_rate_84 (post : PO) : lk (T_X5_rate post) 84 = o_aload 0 85 := rfl
theorem k_X5_rate_85 (post : PO) : lk (T_X5_rate post) 85 = o_const 1 86 := rfl
theorem k_X5_rate_86 (post : PO) : lk (T_X5_rate post) 86 = o_iload 2 87 := rfl
theorem k_X5_rate_87 (post : PO) : lk (T_X5_rate post) 87 = o_bin (fun x y => x <<< (y &&& 31)) 88 := rfl
theorem k_X5_rate_88 (post : PO) : lk (T_X5_rate post) 88 = o_callV 5 S_X5_heldBy 1 91 := rfl
theorem k_X5_rate_91 (post : PO) : lk (T_X5_rate post) 91 = o_istore 3 92 := rfl
theorem k_X5_rate_92 (post : PO) : lk (T_X5_rate post) 92 = o_iload 3 93 := rfl
theorem k_X5_rate_93 (post : PO) : lk (T_X5_rate post) 93 = o_callS S_X5_ones 1 96 := rfl
theorem k_X5_rate_96 (post : PO) : lk (T_X5_rate post) 96 = o_istore 4 98 := rfl
theorem k_X5_rate_98 (post : PO) : lk (T_X5_rate post) 98 = o_iload 4 100 := rfl
theorem k_X5_rate_100 (post : PO) : lk (T_X5_rate post) 100 = o_aload 0 101 := rfl
theorem k_X5_rate_101 (post : PO) : lk (T_X5_rate post) 101 = o_iload 3 102 := rfl
theorem k_X5_rate_102 (post : PO) : lk (T_X5_rate post) 102 = o_callV 5 S_X5_opensBy 1 105 := rfl
theorem k_X5_rate_105 (post : PO) : lk (T_X5_rate post) 105 = o_callS S_X5_ones 1 108 := rfl
theorem k_X5_rate_108 (post : PO) : lk (T_X5_rate post) 108 = o_bin (fun x y => x + y) 109 := rfl
theorem k_X5_rate_109 (post : PO) : lk (T_X5_rate post) 109 = o_istore 5 111 := rfl
theorem k_X5_rate_111 (post : PO) : lk (T_X5_rate post) 111 = o_iload 4 113 := rfl
theorem k_X5_rate_113 (post : PO) : lk (T_X5_rate post) 113 = o_aload 0 114 := rfl
theorem k_X5_rate_114 (post : PO) : lk (T_X5_rate post) 114 = o_iload 3 115 := rfl
theorem k_X5_rate_115 (post : PO) : lk (T_X5_rate post) 115 = o_callV 5 S_X5_rowOf 1 118 := rfl
theorem k_X5_rate_118 (post : PO) : lk (T_X5_rate post) 118 = o_callS S_X5_ones 1 121 := rfl
theorem k_X5_rate_121 (post : PO) : lk (T_X5_rate post) 121 = o_bin (fun x y => x - y) 122 := rfl
theorem k_X5_rate_122 (post : PO) : lk (T_X5_rate post) 122 = o_istore 6 124 := rfl
theorem k_X5_rate_124 (post : PO) : lk (T_X5_rate post) 124 = o_iload 1 125 := rfl
theorem k_X5_rate_125 (post : PO) : lk (T_X5_rate post) 125 = o_if (fun x => x = 0) 128 133 := rfl
theorem k_X5_rate_128 (post : PO) : lk (T_X5_rate post) 128 = o_iload 4 130 := rfl
theorem k_X5_rate_130 (post : PO) : lk (T_X5_rate post) 130 = o_goto 187 := rfl
theorem k_X5_rate_133 (post : PO) : lk (T_X5_rate post) 133 = o_iload 1 134 := rfl
theorem k_X5_rate_134 (post : PO) : lk (T_X5_rate post) 134 = o_const 1 135 := rfl
theorem k_X5_rate_135 (post : PO) : lk (T_X5_rate post) 135 = o_icmp (fun x y => x = y) 138 143 := rfl
theorem k_X5_rate_138 (post : PO) : lk (T_X5_rate post) 138 = o_iload 5 140 := rfl
theorem k_X5_rate_140 (post : PO) : lk (T_X5_rate post) 140 = o_goto 187 := rfl
theorem k_X5_rate_143 (post : PO) : lk (T_X5_rate post) 143 = o_iload 1 144 := rfl
theorem k_X5_rate_144 (post : PO) : lk (T_X5_rate post) 144 = o_const 2 145 := rfl
theorem k_X5_rate_145 (post : PO) : lk (T_X5_rate post) 145 = o_icmp (fun x y => x = y) 148 153 := rfl
theorem k_X5_rate_148 (post : PO) : lk (T_X5_rate post) 148 = o_iload 6 150 := rfl
theorem k_X5_rate_150 (post : PO) : lk (T_X5_rate post) 150 = o_goto 187 := rfl
theorem k_X5_rate_153 (post : PO) : lk (T_X5_rate post) 153 = o_iload 1 154 := rfl
theorem k_X5_rate_154 (post : PO) : lk (T_X5_rate post) 154 = o_const 3 155 := rfl
theorem k_X5_rate_155 (post : PO) : lk (T_X5_rate post) 155 = o_icmp (fun x y => x = y) 158 165 := rfl
theorem k_X5_rate_158 (post : PO) : lk (T_X5_rate post) 158 = o_const 2 159 := rfl
theorem k_X5_rate_159 (post : PO) : lk (T_X5_rate post) 159 = o_iload 5 161 := rfl
theorem k_X5_rate_161 (post : PO) : lk (T_X5_rate post) 161 = o_bin (fun x y => x * y) 162 := rfl
theorem k_X5_rate_162 (post : PO) : lk (T_X5_rate post) 162 = o_goto 187 := rfl
theorem k_X5_rate_165 (post : PO) : lk (T_X5_rate post) 165 = o_iload 1 166 := rfl
theorem k_X5_rate_166 (post : PO) : lk (T_X5_rate post) 166 = o_const 4 167 := rfl
theorem k_X5_rate_167 (post : PO) : lk (T_X5_rate post) 167 = o_icmp (fun x y => x = y) 170 177 := rfl
theorem k_X5_rate_170 (post : PO) : lk (T_X5_rate post) 170 = o_iload 6 172 := rfl
theorem k_X5_rate_172 (post : PO) : lk (T_X5_rate post) 172 = o_iload 2 173 := rfl
theorem k_X5_rate_173 (post : PO) : lk (T_X5_rate post) 173 = o_bin (fun x y => x + y) 174 := rfl
theorem k_X5_rate_174 (post : PO) : lk (T_X5_rate post) 174 = o_goto 187 := rfl
theorem k_X5_rate_177 (post : PO) : lk (T_X5_rate post) 177 = o_iload 4 179 := rfl
theorem k_X5_rate_179 (post : PO) : lk (T_X5_rate post) 179 = o_aload 0 180 := rfl
theorem k_X5_rate_180 (post : PO) : lk (T_X5_rate post) 180 = o_callV 5 S_X5_box 0 183 := rfl
theorem k_X5_rate_183 (post : PO) : lk (T_X5_rate post) 183 = o_callS S_X5_ones 1 186 := rfl
theorem k_X5_rate_186 (post : PO) : lk (T_X5_rate post) 186 = o_bin (fun x y => x + y) 187 := rfl
theorem k_X5_rate_187 (post : PO) : lk (T_X5_rate post) 187 = o_iret post := rfl
set_option maxRecDepth 100000 in
theorem t_X5_rate {p : Program} {l : Launch} {e : Env} {s : State} {m : MethodId} {args : Array Value} {below : List Frame} {meth : Method} {c : Code} {D : va_G} {dA : Nat → ClassId} {ad : Nat → Nat} (post : PO) (C : CX p s m args meth c cX5_rate 7 yX5_rate.cls D dA ad (AA ad s.heap.size)) (hr : meth.sig.returnType = (some .int)) : SndL (WW p l e ({ frames := 3, cells := 0, slots := 0, locals := 66 } : Room) s m args below meth c 0 0 (MQ below (CQ D dA ad post (AA ad s.heap.size)) args s 0 0 (AA ad s.heap.size)) 7 D dA ad (AA ad s.heap.size)) (T_X5_rate post) := by
  refine snd_c (s_iload_n C rfl dX5_rate_0) ?_
  refine snd_c (s_iconst C dX5_rate_1 rfl) ?_
  refine snd_c (s_iconst C dX5_rate_2 rfl) ?_
  refine snd_c (s_callS C c_X5_in cw_RX5_35 ⟨rfl, rfl⟩ ⟨by decide +kernel, by decide +kernel, by decide +kernel⟩ ⟨by decide, by decide⟩ ⟨Nat.zero_le _, Nat.zero_le _⟩ dX5_rate_3) ?_
  refine snd_c (s_if_eq C dX5_rate_6 (by decide)) ?_
  refine snd_c (s_aload_n C rfl dX5_rate_9) ?_
  refine snd_c (s_iload_n C rfl dX5_rate_10) ?_
  refine snd_c (s_callV C (ci := 5) c_X5_isPerson rfl cw_RX5_117 ⟨rfl, rfl⟩ ⟨by decide +kernel, by decide +kernel, by decide +kernel⟩ ⟨by decide, by decide⟩ ⟨Nat.zero_le _, Nat.zero_le _⟩ dX5_rate_11) ?_
  refine snd_c (s_if_ne C dX5_rate_14 (by decide)) ?_
  refine snd_c (s_ldc C ct_RX5_150 dX5_rate_17) ?_
  refine snd_c (s_iret C hr dX5_rate_19) ?_
  refine snd_c (s_aload_n C rfl dX5_rate_20) ?_
  refine snd_c (s_dup C dX5_rate_21) ?_
  refine snd_c (s_getf C (ci := 5) (j := 0) (T := TX5) rfl inX5 (by decide) fl_RX5_151 dX5_rate_22) ?_
  refine snd_c (s_iload_n C rfl dX5_rate_25) ?_
  refine snd_c (s_if_ne C dX5_rate_26 (by decide)) ?_
  refine snd_c (s_lconst C dX5_rate_29 rfl) ?_
  refine snd_c (s_goto C dX5_rate_30 (by decide)) ?_
  refine snd_c (s_iload_n C rfl dX5_rate_33) ?_
  refine snd_c (s_iconst C dX5_rate_34 rfl) ?_
  refine snd_c (s_icmp_ne C dX5_rate_35 (by decide)) ?_
  refine snd_c (s_ldc2 C ctL_RX5_155 dX5_rate_38) ?_
  refine snd_c (s_goto C dX5_rate_41 (by decide)) ?_
  refine snd_c (s_iload_n C rfl dX5_rate_44) ?_
  refine snd_c (s_iconst C dX5_rate_45 rfl) ?_
  refine snd_c (s_icmp_ne C dX5_rate_46 (by decide)) ?_
  refine snd_c (s_ldc2 C ctL_RX5_157 dX5_rate_49) ?_
  refine snd_c (s_goto C dX5_rate_52 (by decide)) ?_
  refine snd_c (s_iload_n C rfl dX5_rate_55) ?_
  refine snd_c (s_iconst C dX5_rate_56 rfl) ?_
  refine snd_c (s_icmp_ne C dX5_rate_57 (by decide)) ?_
  refine snd_c (s_ldc2 C ctL_RX5_159 dX5_rate_60) ?_
  refine snd_c (s_goto C dX5_rate_63 (by decide)) ?_
  refine snd_c (s_iload_n C rfl dX5_rate_66) ?_
  refine snd_c (s_iconst C dX5_rate_67 rfl) ?_
  refine snd_c (s_icmp_ne C dX5_rate_68 (by decide)) ?_
  refine snd_c (s_ldc2 C ctL_RX5_161 dX5_rate_71) ?_
  refine snd_c (s_goto C dX5_rate_74 (by decide)) ?_
  refine snd_c (s_ldc2 C ctL_RX5_163 dX5_rate_77) ?_
  refine snd_c (s_ladd C dX5_rate_80) ?_
  refine snd_c (s_putL C (ci := 5) (j := 0) (T := TX5) tyX5 tyX5_ok nmX5 rfl inX5 (by decide) rfl rfl fl_RX5_151 dX5_rate_81) ?_
  refine snd_c (s_aload_n C rfl dX5_rate_84) ?_
  refine snd_c (s_iconst C dX5_rate_85 rfl) ?_
  refine snd_c (s_iload_n C rfl dX5_rate_86) ?_
  refine snd_c (s_ishl C dX5_rate_87) ?_
  refine snd_c (s_callV C (ci := 5) c_X5_heldBy rfl cw_RX5_137 ⟨rfl, rfl⟩ ⟨by decide +kernel, by decide +kernel, by decide +kernel⟩ ⟨by decide, by decide⟩ ⟨Nat.zero_le _, Nat.zero_le _⟩ dX5_rate_88) ?_
  refine snd_c (s_istore_n C rfl (by decide) dX5_rate_91) ?_
  refine snd_c (s_iload_n C rfl dX5_rate_92) ?_
  refine snd_c (s_callS C c_X5_ones cw_RX5_131 ⟨rfl, rfl⟩ ⟨by decide +kernel, by decide +kernel, by decide +kernel⟩ ⟨by decide, by decide⟩ ⟨Nat.zero_le _, Nat.zero_le _⟩ dX5_rate_93) ?_
  refine snd_c (s_istore C (by decide) dX5_rate_96) ?_
  refine snd_c (s_iload C dX5_rate_98) ?_
  refine snd_c (s_aload_n C rfl dX5_rate_100) ?_
  refine snd_c (s_iload_n C rfl dX5_rate_101) ?_
  refine snd_c (s_callV C (ci := 5) c_X5_opensBy rfl cw_RX5_140 ⟨rfl, rfl⟩ ⟨by decide +kernel, by decide +kernel, by decide +kernel⟩ ⟨by decide, by decide⟩ ⟨Nat.zero_le _, Nat.zero_le _⟩ dX5_rate_102) ?_
  refine snd_c (s_callS C c_X5_ones cw_RX5_131 ⟨rfl, rfl⟩ ⟨by decide +kernel, by decide +kernel, by decide +kernel⟩ ⟨by decide, by decide⟩ ⟨Nat.zero_le _, Nat.zero_le _⟩ dX5_rate_105) ?_
  refine snd_c (s_iadd C dX5_rate_108) ?_
  refine snd_c (s_istore C (by decide) dX5_rate_109) ?_
  refine snd_c (s_iload C dX5_rate_111) ?_
  refine snd_c (s_aload_n C rfl dX5_rate_113) ?_
  refine snd_c (s_iload_n C rfl dX5_rate_114) ?_
  refine snd_c (s_callV C (ci := 5) c_X5_rowOf rfl cw_RX5_110 ⟨rfl, rfl⟩ ⟨by decide +kernel, by decide +kernel, by decide +kernel⟩ ⟨by decide, by decide⟩ ⟨Nat.zero_le _, Nat.zero_le _⟩ dX5_rate_115) ?_
  refine snd_c (s_callS C c_X5_ones cw_RX5_131 ⟨rfl, rfl⟩ ⟨by decide +kernel, by decide +kernel, by decide +kernel⟩ ⟨by decide, by decide⟩ ⟨Nat.zero_le _, Nat.zero_le _⟩ dX5_rate_118) ?_
  refine snd_c (s_isub C dX5_rate_121) ?_
  refine snd_c (s_istore C (by decide) dX5_rate_122) ?_
  refine snd_c (s_iload_n C rfl dX5_rate_124) ?_
  refine snd_c (s_if_ne C dX5_rate_125 (by decide)) ?_
  refine snd_c (s_iload C dX5_rate_128) ?_
  refine snd_c (s_goto C dX5_rate_130 (by decide)) ?_
  refine snd_c (s_iload_n C rfl dX5_rate_133) ?_
  refine snd_c (s_iconst C dX5_rate_134 rfl) ?_
  refine snd_c (s_icmp_ne C dX5_rate_135 (by decide)) ?_
  refine snd_c (s_iload C dX5_rate_138) ?_
  refine snd_c (s_goto C dX5_rate_140 (by decide)) ?_
  refine snd_c (s_iload_n C rfl dX5_rate_143) ?_
  refine snd_c (s_iconst C dX5_rate_144 rfl) ?_
  refine snd_c (s_icmp_ne C dX5_rate_145 (by decide)) ?_
  refine snd_c (s_iload C dX5_rate_148) ?_
  refine snd_c (s_goto C dX5_rate_150 (by decide)) ?_
  refine snd_c (s_iload_n C rfl dX5_rate_153) ?_
  refine snd_c (s_iconst C dX5_rate_154 rfl) ?_
  refine snd_c (s_icmp_ne C dX5_rate_155 (by decide)) ?_
  refine snd_c (s_iconst C dX5_rate_158 rfl) ?_
  refine snd_c (s_iload C dX5_rate_159) ?_
  refine snd_c (s_imul C dX5_rate_161) ?_
  refine snd_c (s_goto C dX5_rate_162 (by decide)) ?_
  refine snd_c (s_iload_n C rfl dX5_rate_165) ?_
  refine snd_c (s_iconst C dX5_rate_166 rfl) ?_
  refine snd_c (s_icmp_ne C dX5_rate_167 (by decide)) ?_
  refine snd_c (s_iload C dX5_rate_170) ?_
  refine snd_c (s_iload_n C rfl dX5_rate_172) ?_
  refine snd_c (s_iadd C dX5_rate_173) ?_
  refine snd_c (s_goto C dX5_rate_174 (by decide)) ?_
  refine snd_c (s_iload C dX5_rate_177) ?_
  refine snd_c (s_aload_n C rfl dX5_rate_179) ?_
  refine snd_c (s_callV C (ci := 5) c_X5_box rfl cw_RX5_147 ⟨rfl, rfl⟩ ⟨by decide +kernel, by decide +kernel, by decide +kernel⟩ ⟨by decide, by decide⟩ ⟨Nat.zero_le _, Nat.zero_le _⟩ dX5_rate_180) ?_
  refine snd_c (s_callS C c_X5_ones cw_RX5_131 ⟨rfl, rfl⟩ ⟨by decide +kernel, by decide +kernel, by decide +kernel⟩ ⟨by decide, by decide⟩ ⟨Nat.zero_le _, Nat.zero_le _⟩ dX5_rate_183) ?_
  refine snd_c (s_iadd C dX5_rate_186) ?_
  refine snd_c (s_iret C hr dX5_rate_187) ?_
  exact trivial
theorem ie {x : Int32} (h : 0 ≤ x ∧ x ≤ 1) : ∃ e, e < 2 ∧ x = nI e := (i01.mp h).elim (fun q => ⟨0, by omega, q⟩) (fun q => ⟨1, by omega, q⟩)
theorem n48 : ∀ e, e < 2 → (48 : Int32) * nI e = nI (48 * e) := fun e _ => pk_mul 48 e
set_option maxRecDepth 100000 in
theorem v_X5_keep : ∀ as M post, S_X5_keep as M post → wsum as ≤ 3 ∧ RUN (T_X5_keep post) 0 (entL 3 as) [] M := by
  rintro as M post ⟨x, rfl, h1, h2⟩
  refine ⟨by show 2 ≤ 3; omega, run_of [13] (fun μ pc lv st M' => st = [] ∧ pc = 13 ∧ ∃ e i, e < 2 ∧ x = nI e ∧ i ≤ 48 ∧ M' = sA 34 (cpI (M.2.2 34) (M.2.2 33) e i) M ∧ 100 - i = μ ∧ lv = [some (VR 39), some (VI x), some (VI (nI i))]) 60 200 ?_ ?_⟩
  · rintro μ pc lv st M' ⟨rfl, rfl, e, i, he, rfl, hi, rfl, rfl, rfl⟩
    dsimp only [k_X5_keep_0, k_X5_keep_1, k_X5_keep_2, k_X5_keep_3, k_X5_keep_6, k_X5_keep_9, k_X5_keep_10, k_X5_keep_11, k_X5_keep_12, k_X5_keep_13, k_X5_keep_14, k_X5_keep_16, k_X5_keep_19, k_X5_keep_20, k_X5_keep_23, k_X5_keep_25, k_X5_keep_26, k_X5_keep_27, k_X5_keep_28, k_X5_keep_29, k_X5_keep_30, k_X5_keep_33, k_X5_keep_34, k_X5_keep_35, k_X5_keep_36, k_X5_keep_39, k_X5_keep_42, k_X5_keep_43, k_X5_keep_46, k_X5_keep_47, k_X5_keep_48, k_X5_keep_49, k_X5_keep_50, k_X5_keep_53, k_X5_keep_54, k_X5_keep_55, wp1, wp_s, cutIn, kont, Nat.reduceSub, Nat.reduceAdd, nth, o_const, o_lconst, o_ref, o_iload, o_lload, o_aload, o_istore, o_lstore, o_astore, o_iinc, o_bin, o_div, o_un, o_lbin, o_lsh, o_lcmp, o_i2l, o_l2i, o_if, o_icmp, o_goto, o_dup, o_dup2, o_pop, fav, o_getf, o_putI, o_putZ, o_putL, o_ald, o_ast, o_alen, popn, rst, o_callV, o_callT, o_callS, swx, o_sw, o_ret, o_iret, o_zret, o_cret, o_lret, o_aret, lg, lput, lput2, ls1, isL, entL, wsum, rdI1, rdI2, rdA1, rdA21, rdA22, rdL1, rdL22, rdL21, upN_at, rep, sh_0, F_0_0, F_0_1, F_0_2, F_0_3, F_0_4, F_0_5, F_0_6, F_0_7, F_0_8, sh_1, F_1_0, F_1_1, F_1_2, F_1_3, F_1_4, F_1_5, sh_3, F_3_0, F_3_1, F_3_2, F_3_3, F_3_4, F_3_5, sh_5, F_5_0, F_5_1, F_5_2, F_5_3, F_5_4, F_5_5, F_5_6, F_5_7, F_5_8, sh_12, F_12_0, F_12_1, F_12_2, F_12_3, F_12_4, F_12_5, sh_14, F_14_0, F_14_1, F_14_2, F_14_3, F_14_4, F_14_5, F_14_6, F_14_7, F_14_8, sh_21, F_21_0, F_21_1, F_21_2, F_21_3, F_21_4, F_21_5, F_21_6, F_21_7, F_21_8, sh_28, F_28_0, F_28_1, F_28_2, F_28_3, F_28_4, F_28_5, F_28_6, F_28_7, F_28_8, sh_35, F_35_0, sh_39, F_39_0, F_39_1, F_39_2, F_39_3, F_39_4, F_39_5, F_39_6, F_39_7, F_39_8, F_39_9, F_39_10, F_39_11, F_39_12, F_39_13, A_2, A_4, A_6, A_7, A_8, A_9, A_10, A_11, A_13, A_15, A_16, A_17, A_18, A_19, A_20, A_22, A_23, A_24, A_25, A_26, A_27, A_29, A_30, A_31, A_32, A_33, A_34, A_36, A_37, A_38, A_40, A_41, A_42, A_43, A_44, A_45, A_46, A_47]
    rw [show (48 : Int32) = nI 48 from rfl]
    simp (disch := omega) only [nI_leI, nI_ltI, nI_eq, nI_1, nI_add, one_shl, nI_or, nI_xor, nI_and, bit_0, bit_1, true_or, or_true, true_and, and_true, eq_self, not_true_eq_false, not_false_eq_true, forall_const]
    refine ⟨fun w1 => ⟨e, he, rfl, 0, by omega, rfl, ?_⟩, fun w1 => ⟨i, by omega, rfl, 48 * e + i, by omega, ?_, cut _ _ ⟨rfl, rfl, e, i + 1, he, rfl, by omega, ?_, rfl, rfl⟩ (by omega) ⟨rfl, rfl, vi_eq (by first | rfl | exact nI_1 _), trivial⟩⟩⟩
    · rw [show i = 48 by omega]
      exact h2 e he rfl
    · rw [show nI 48 * nI e = nI (48 * e) from pk_mul 48 e, nI_add]
    · rw [sA_sA]
      congr 1
      funext j
      by_cases e1 : j = 48 * e + i
      · subst e1; rw [upd_s]; unfold cpI; rw [if_pos (by omega), show 48 * e + i - 48 * e = i by omega]
      · rw [upd_n _ _ e1]; unfold cpI
        by_cases e2 : 48 * e ≤ j ∧ j < 48 * e + i
        · rw [if_pos e2, if_pos (by omega)]
        · rw [if_neg e2, if_neg (by omega)]
  · dsimp only [k_X5_keep_0, k_X5_keep_1, k_X5_keep_2, k_X5_keep_3, k_X5_keep_6, k_X5_keep_9, k_X5_keep_10, k_X5_keep_11, k_X5_keep_12, k_X5_keep_13, k_X5_keep_14, k_X5_keep_16, k_X5_keep_19, k_X5_keep_20, k_X5_keep_23, k_X5_keep_25, k_X5_keep_26, k_X5_keep_27, k_X5_keep_28, k_X5_keep_29, k_X5_keep_30, k_X5_keep_33, k_X5_keep_34, k_X5_keep_35, k_X5_keep_36, k_X5_keep_39, k_X5_keep_42, k_X5_keep_43, k_X5_keep_46, k_X5_keep_47, k_X5_keep_48, k_X5_keep_49, k_X5_keep_50, k_X5_keep_53, k_X5_keep_54, k_X5_keep_55, wp1, wp_s, cutIn, kont, Nat.reduceSub, Nat.reduceAdd, nth, o_const, o_lconst, o_ref, o_iload, o_lload, o_aload, o_istore, o_lstore, o_astore, o_iinc, o_bin, o_div, o_un, o_lbin, o_lsh, o_lcmp, o_i2l, o_l2i, o_if, o_icmp, o_goto, o_dup, o_dup2, o_pop, fav, o_getf, o_putI, o_putZ, o_putL, o_ald, o_ast, o_alen, popn, rst, o_callV, o_callT, o_callS, swx, o_sw, o_ret, o_iret, o_zret, o_cret, o_lret, o_aret, lg, lput, lput2, ls1, isL, entL, wsum, rdI1, rdI2, rdA1, rdA21, rdA22, rdL1, rdL22, rdL21, upN_at, rep, sh_0, F_0_0, F_0_1, F_0_2, F_0_3, F_0_4, F_0_5, F_0_6, F_0_7, F_0_8, sh_1, F_1_0, F_1_1, F_1_2, F_1_3, F_1_4, F_1_5, sh_3, F_3_0, F_3_1, F_3_2, F_3_3, F_3_4, F_3_5, sh_5, F_5_0, F_5_1, F_5_2, F_5_3, F_5_4, F_5_5, F_5_6, F_5_7, F_5_8, sh_12, F_12_0, F_12_1, F_12_2, F_12_3, F_12_4, F_12_5, sh_14, F_14_0, F_14_1, F_14_2, F_14_3, F_14_4, F_14_5, F_14_6, F_14_7, F_14_8, sh_21, F_21_0, F_21_1, F_21_2, F_21_3, F_21_4, F_21_5, F_21_6, F_21_7, F_21_8, sh_28, F_28_0, F_28_1, F_28_2, F_28_3, F_28_4, F_28_5, F_28_6, F_28_7, F_28_8, sh_35, F_35_0, sh_39, F_39_0, F_39_1, F_39_2, F_39_3, F_39_4, F_39_5, F_39_6, F_39_7, F_39_8, F_39_9, F_39_10, F_39_11, F_39_12, F_39_13, A_2, A_4, A_6, A_7, A_8, A_9, A_10, A_11, A_13, A_15, A_16, A_17, A_18, A_19, A_20, A_22, A_23, A_24, A_25, A_26, A_27, A_29, A_30, A_31, A_32, A_33, A_34, A_36, A_37, A_38, A_40, A_41, A_42, A_43, A_44, A_45, A_46, A_47]
    refine ⟨x, 0, 1, rfl, fun w1 => ?_, fun w1 => ?_⟩
    · obtain ⟨e, he, rfl⟩ := ie w1
      dsimp only [k_X5_keep_0, k_X5_keep_1, k_X5_keep_2, k_X5_keep_3, k_X5_keep_6, k_X5_keep_9, k_X5_keep_10, k_X5_keep_11, k_X5_keep_12, k_X5_keep_13, k_X5_keep_14, k_X5_keep_16, k_X5_keep_19, k_X5_keep_20, k_X5_keep_23, k_X5_keep_25, k_X5_keep_26, k_X5_keep_27, k_X5_keep_28, k_X5_keep_29, k_X5_keep_30, k_X5_keep_33, k_X5_keep_34, k_X5_keep_35, k_X5_keep_36, k_X5_keep_39, k_X5_keep_42, k_X5_keep_43, k_X5_keep_46, k_X5_keep_47, k_X5_keep_48, k_X5_keep_49, k_X5_keep_50, k_X5_keep_53, k_X5_keep_54, k_X5_keep_55, wp1, wp_s, cutIn, kont, Nat.reduceSub, Nat.reduceAdd, nth, o_const, o_lconst, o_ref, o_iload, o_lload, o_aload, o_istore, o_lstore, o_astore, o_iinc, o_bin, o_div, o_un, o_lbin, o_lsh, o_lcmp, o_i2l, o_l2i, o_if, o_icmp, o_goto, o_dup, o_dup2, o_pop, fav, o_getf, o_putI, o_putZ, o_putL, o_ald, o_ast, o_alen, popn, rst, o_callV, o_callT, o_callS, swx, o_sw, o_ret, o_iret, o_zret, o_cret, o_lret, o_aret, lg, lput, lput2, ls1, isL, entL, wsum, rdI1, rdI2, rdA1, rdA21, rdA22, rdL1, rdL22, rdL21, upN_at, rep, sh_0, F_0_0, F_0_1, F_0_2, F_0_3, F_0_4, F_0_5, F_0_6, F_0_7, F_0_8, sh_1, F_1_0, F_1_1, F_1_2, F_1_3, F_1_4, F_1_5, sh_3, F_3_0, F_3_1, F_3_2, F_3_3, F_3_4, F_3_5, sh_5, F_5_0, F_5_1, F_5_2, F_5_3, F_5_4, F_5_5, F_5_6, F_5_7, F_5_8, sh_12, F_12_0, F_12_1, F_12_2, F_12_3, F_12_4, F_12_5, sh_14, F_14_0, F_14_1, F_14_2, F_14_3, F_14_4, F_14_5, F_14_6, F_14_7, F_14_8, sh_21, F_21_0, F_21_1, F_21_2, F_21_3, F_21_4, F_21_5, F_21_6, F_21_7, F_21_8, sh_28, F_28_0, F_28_1, F_28_2, F_28_3, F_28_4, F_28_5, F_28_6, F_28_7, F_28_8, sh_35, F_35_0, sh_39, F_39_0, F_39_1, F_39_2, F_39_3, F_39_4, F_39_5, F_39_6, F_39_7, F_39_8, F_39_9, F_39_10, F_39_11, F_39_12, F_39_13, A_2, A_4, A_6, A_7, A_8, A_9, A_10, A_11, A_13, A_15, A_16, A_17, A_18, A_19, A_20, A_22, A_23, A_24, A_25, A_26, A_27, A_29, A_30, A_31, A_32, A_33, A_34, A_36, A_37, A_38, A_40, A_41, A_42, A_43, A_44, A_45, A_46, A_47]
      refine ⟨fun q => absurd q (by decide), fun _ => cut _ _ ⟨rfl, rfl, e, 0, he, rfl, by omega, ?_, rfl, rfl⟩ (by omega) ⟨rfl, rfl, rfl, trivial⟩⟩
      rw [show cpI (M.2.2 34) (M.2.2 33) e 0 = M.2.2 34 from funext fun j => by unfold cpI; rw [if_neg (by omega)]]
      exact (sA_self 34 M).symm
    · dsimp only [k_X5_keep_0, k_X5_keep_1, k_X5_keep_2, k_X5_keep_3, k_X5_keep_6, k_X5_keep_9, k_X5_keep_10, k_X5_keep_11, k_X5_keep_12, k_X5_keep_13, k_X5_keep_14, k_X5_keep_16, k_X5_keep_19, k_X5_keep_20, k_X5_keep_23, k_X5_keep_25, k_X5_keep_26, k_X5_keep_27, k_X5_keep_28, k_X5_keep_29, k_X5_keep_30, k_X5_keep_33, k_X5_keep_34, k_X5_keep_35, k_X5_keep_36, k_X5_keep_39, k_X5_keep_42, k_X5_keep_43, k_X5_keep_46, k_X5_keep_47, k_X5_keep_48, k_X5_keep_49, k_X5_keep_50, k_X5_keep_53, k_X5_keep_54, k_X5_keep_55, wp1, wp_s, cutIn, kont, Nat.reduceSub, Nat.reduceAdd, nth, o_const, o_lconst, o_ref, o_iload, o_lload, o_aload, o_istore, o_lstore, o_astore, o_iinc, o_bin, o_div, o_un, o_lbin, o_lsh, o_lcmp, o_i2l, o_l2i, o_if, o_icmp, o_goto, o_dup, o_dup2, o_pop, fav, o_getf, o_putI, o_putZ, o_putL, o_ald, o_ast, o_alen, popn, rst, o_callV, o_callT, o_callS, swx, o_sw, o_ret, o_iret, o_zret, o_cret, o_lret, o_aret, lg, lput, lput2, ls1, isL, entL, wsum, rdI1, rdI2, rdA1, rdA21, rdA22, rdL1, rdL22, rdL21, upN_at, rep, sh_0, F_0_0, F_0_1, F_0_2, F_0_3, F_0_4, F_0_5, F_0_6, F_0_7, F_0_8, sh_1, F_1_0, F_1_1, F_1_2, F_1_3, F_1_4, F_1_5, sh_3, F_3_0, F_3_1, F_3_2, F_3_3, F_3_4, F_3_5, sh_5, F_5_0, F_5_1, F_5_2, F_5_3, F_5_4, F_5_5, F_5_6, F_5_7, F_5_8, sh_12, F_12_0, F_12_1, F_12_2, F_12_3, F_12_4, F_12_5, sh_14, F_14_0, F_14_1, F_14_2, F_14_3, F_14_4, F_14_5, F_14_6, F_14_7, F_14_8, sh_21, F_21_0, F_21_1, F_21_2, F_21_3, F_21_4, F_21_5, F_21_6, F_21_7, F_21_8, sh_28, F_28_0, F_28_1, F_28_2, F_28_3, F_28_4, F_28_5, F_28_6, F_28_7, F_28_8, sh_35, F_35_0, sh_39, F_39_0, F_39_1, F_39_2, F_39_3, F_39_4, F_39_5, F_39_6, F_39_7, F_39_8, F_39_9, F_39_10, F_39_11, F_39_12, F_39_13, A_2, A_4, A_6, A_7, A_8, A_9, A_10, A_11, A_13, A_15, A_16, A_17, A_18, A_19, A_20, A_22, A_23, A_24, A_25, A_26, A_27, A_29, A_30, A_31, A_32, A_33, A_34, A_36, A_37, A_38, A_40, A_41, A_42, A_43, A_44, A_45, A_46, A_47]
      exact ⟨fun _ => h1 fun q => w1 (i01.mpr q), fun q => absurd rfl q⟩
set_option maxRecDepth 100000 in
theorem v_X5_back : ∀ as M post, S_X5_back as M post → wsum as ≤ 3 ∧ RUN (T_X5_back post) 0 (entL 3 as) [] M := by
  rintro as M post ⟨x, rfl, h1, h2, h3⟩
  refine ⟨by show 2 ≤ 3; omega, run_of [25] (fun μ pc lv st M' => st = [] ∧ pc = 25 ∧ ∃ e i, e < 2 ∧ x = nI e ∧ i ≤ 48 ∧ ¬ M.2.2 35 e = 0 ∧ M' = sA 33 (bkI (M.2.2 33) (M.2.2 34) e i) M ∧ 100 - i = μ ∧ lv = [some (VR 39), some (VI x), some (VI (nI i))]) 60 200 ?_ ?_⟩
  · rintro μ pc lv st M' ⟨rfl, rfl, e, i, he, rfl, hi, hk, rfl, rfl, rfl⟩
    dsimp only [k_X5_back_0, k_X5_back_1, k_X5_back_2, k_X5_back_3, k_X5_back_6, k_X5_back_9, k_X5_back_10, k_X5_back_11, k_X5_back_12, k_X5_back_15, k_X5_back_16, k_X5_back_17, k_X5_back_20, k_X5_back_22, k_X5_back_23, k_X5_back_24, k_X5_back_25, k_X5_back_26, k_X5_back_28, k_X5_back_31, k_X5_back_32, k_X5_back_35, k_X5_back_36, k_X5_back_37, k_X5_back_40, k_X5_back_42, k_X5_back_43, k_X5_back_44, k_X5_back_45, k_X5_back_46, k_X5_back_47, k_X5_back_48, k_X5_back_51, k_X5_back_54, k_X5_back_55, k_X5_back_58, k_X5_back_59, k_X5_back_60, wp1, wp_s, cutIn, kont, Nat.reduceSub, Nat.reduceAdd, nth, o_const, o_lconst, o_ref, o_iload, o_lload, o_aload, o_istore, o_lstore, o_astore, o_iinc, o_bin, o_div, o_un, o_lbin, o_lsh, o_lcmp, o_i2l, o_l2i, o_if, o_icmp, o_goto, o_dup, o_dup2, o_pop, fav, o_getf, o_putI, o_putZ, o_putL, o_ald, o_ast, o_alen, popn, rst, o_callV, o_callT, o_callS, swx, o_sw, o_ret, o_iret, o_zret, o_cret, o_lret, o_aret, lg, lput, lput2, ls1, isL, entL, wsum, rdI1, rdI2, rdA1, rdA21, rdA22, rdL1, rdL22, rdL21, upN_at, rep, sh_0, F_0_0, F_0_1, F_0_2, F_0_3, F_0_4, F_0_5, F_0_6, F_0_7, F_0_8, sh_1, F_1_0, F_1_1, F_1_2, F_1_3, F_1_4, F_1_5, sh_3, F_3_0, F_3_1, F_3_2, F_3_3, F_3_4, F_3_5, sh_5, F_5_0, F_5_1, F_5_2, F_5_3, F_5_4, F_5_5, F_5_6, F_5_7, F_5_8, sh_12, F_12_0, F_12_1, F_12_2, F_12_3, F_12_4, F_12_5, sh_14, F_14_0, F_14_1, F_14_2, F_14_3, F_14_4, F_14_5, F_14_6, F_14_7, F_14_8, sh_21, F_21_0, F_21_1, F_21_2, F_21_3, F_21_4, F_21_5, F_21_6, F_21_7, F_21_8, sh_28, F_28_0, F_28_1, F_28_2, F_28_3, F_28_4, F_28_5, F_28_6, F_28_7, F_28_8, sh_35, F_35_0, sh_39, F_39_0, F_39_1, F_39_2, F_39_3, F_39_4, F_39_5, F_39_6, F_39_7, F_39_8, F_39_9, F_39_10, F_39_11, F_39_12, F_39_13, A_2, A_4, A_6, A_7, A_8, A_9, A_10, A_11, A_13, A_15, A_16, A_17, A_18, A_19, A_20, A_22, A_23, A_24, A_25, A_26, A_27, A_29, A_30, A_31, A_32, A_33, A_34, A_36, A_37, A_38, A_40, A_41, A_42, A_43, A_44, A_45, A_46, A_47]
    rw [show (48 : Int32) = nI 48 from rfl]
    simp (disch := omega) only [nI_leI, nI_ltI, nI_eq, nI_1, nI_add, one_shl, nI_or, nI_xor, nI_and, bit_0, bit_1, true_or, or_true, true_and, and_true, eq_self, not_true_eq_false, not_false_eq_true, forall_const]
    refine ⟨fun w1 => ⟨0, by omega, rfl, ?_⟩, fun w1 => ⟨48 * e + i, by omega, ?_, i, by omega, rfl, cut _ _ ⟨rfl, rfl, e, i + 1, he, rfl, by omega, hk, ?_, rfl, rfl⟩ (by omega) ⟨rfl, rfl, vi_eq (by first | rfl | exact nI_1 _), trivial⟩⟩⟩
    · rw [show i = 48 by omega]
      exact h3 e he rfl hk
    · rw [show nI 48 * nI e = nI (48 * e) from pk_mul 48 e, nI_add]
    · rw [sA_sA]
      congr 1
      funext j
      by_cases e1 : j = i
      · subst e1; rw [upd_s]; unfold bkI; rw [if_pos (by omega)]
      · rw [upd_n _ _ e1]; unfold bkI
        by_cases e2 : j < i
        · rw [if_pos e2, if_pos (by omega)]
        · rw [if_neg e2, if_neg (by omega)]
  · dsimp only [k_X5_back_0, k_X5_back_1, k_X5_back_2, k_X5_back_3, k_X5_back_6, k_X5_back_9, k_X5_back_10, k_X5_back_11, k_X5_back_12, k_X5_back_15, k_X5_back_16, k_X5_back_17, k_X5_back_20, k_X5_back_22, k_X5_back_23, k_X5_back_24, k_X5_back_25, k_X5_back_26, k_X5_back_28, k_X5_back_31, k_X5_back_32, k_X5_back_35, k_X5_back_36, k_X5_back_37, k_X5_back_40, k_X5_back_42, k_X5_back_43, k_X5_back_44, k_X5_back_45, k_X5_back_46, k_X5_back_47, k_X5_back_48, k_X5_back_51, k_X5_back_54, k_X5_back_55, k_X5_back_58, k_X5_back_59, k_X5_back_60, wp1, wp_s, cutIn, kont, Nat.reduceSub, Nat.reduceAdd, nth, o_const, o_lconst, o_ref, o_iload, o_lload, o_aload, o_istore, o_lstore, o_astore, o_iinc, o_bin, o_div, o_un, o_lbin, o_lsh, o_lcmp, o_i2l, o_l2i, o_if, o_icmp, o_goto, o_dup, o_dup2, o_pop, fav, o_getf, o_putI, o_putZ, o_putL, o_ald, o_ast, o_alen, popn, rst, o_callV, o_callT, o_callS, swx, o_sw, o_ret, o_iret, o_zret, o_cret, o_lret, o_aret, lg, lput, lput2, ls1, isL, entL, wsum, rdI1, rdI2, rdA1, rdA21, rdA22, rdL1, rdL22, rdL21, upN_at, rep, sh_0, F_0_0, F_0_1, F_0_2, F_0_3, F_0_4, F_0_5, F_0_6, F_0_7, F_0_8, sh_1, F_1_0, F_1_1, F_1_2, F_1_3, F_1_4, F_1_5, sh_3, F_3_0, F_3_1, F_3_2, F_3_3, F_3_4, F_3_5, sh_5, F_5_0, F_5_1, F_5_2, F_5_3, F_5_4, F_5_5, F_5_6, F_5_7, F_5_8, sh_12, F_12_0, F_12_1, F_12_2, F_12_3, F_12_4, F_12_5, sh_14, F_14_0, F_14_1, F_14_2, F_14_3, F_14_4, F_14_5, F_14_6, F_14_7, F_14_8, sh_21, F_21_0, F_21_1, F_21_2, F_21_3, F_21_4, F_21_5, F_21_6, F_21_7, F_21_8, sh_28, F_28_0, F_28_1, F_28_2, F_28_3, F_28_4, F_28_5, F_28_6, F_28_7, F_28_8, sh_35, F_35_0, sh_39, F_39_0, F_39_1, F_39_2, F_39_3, F_39_4, F_39_5, F_39_6, F_39_7, F_39_8, F_39_9, F_39_10, F_39_11, F_39_12, F_39_13, A_2, A_4, A_6, A_7, A_8, A_9, A_10, A_11, A_13, A_15, A_16, A_17, A_18, A_19, A_20, A_22, A_23, A_24, A_25, A_26, A_27, A_29, A_30, A_31, A_32, A_33, A_34, A_36, A_37, A_38, A_40, A_41, A_42, A_43, A_44, A_45, A_46, A_47]
    refine ⟨x, 0, 1, rfl, fun w1 => ?_, fun w1 => ?_⟩
    · obtain ⟨e, he, rfl⟩ := ie w1
      dsimp only [k_X5_back_0, k_X5_back_1, k_X5_back_2, k_X5_back_3, k_X5_back_6, k_X5_back_9, k_X5_back_10, k_X5_back_11, k_X5_back_12, k_X5_back_15, k_X5_back_16, k_X5_back_17, k_X5_back_20, k_X5_back_22, k_X5_back_23, k_X5_back_24, k_X5_back_25, k_X5_back_26, k_X5_back_28, k_X5_back_31, k_X5_back_32, k_X5_back_35, k_X5_back_36, k_X5_back_37, k_X5_back_40, k_X5_back_42, k_X5_back_43, k_X5_back_44, k_X5_back_45, k_X5_back_46, k_X5_back_47, k_X5_back_48, k_X5_back_51, k_X5_back_54, k_X5_back_55, k_X5_back_58, k_X5_back_59, k_X5_back_60, wp1, wp_s, cutIn, kont, Nat.reduceSub, Nat.reduceAdd, nth, o_const, o_lconst, o_ref, o_iload, o_lload, o_aload, o_istore, o_lstore, o_astore, o_iinc, o_bin, o_div, o_un, o_lbin, o_lsh, o_lcmp, o_i2l, o_l2i, o_if, o_icmp, o_goto, o_dup, o_dup2, o_pop, fav, o_getf, o_putI, o_putZ, o_putL, o_ald, o_ast, o_alen, popn, rst, o_callV, o_callT, o_callS, swx, o_sw, o_ret, o_iret, o_zret, o_cret, o_lret, o_aret, lg, lput, lput2, ls1, isL, entL, wsum, rdI1, rdI2, rdA1, rdA21, rdA22, rdL1, rdL22, rdL21, upN_at, rep, sh_0, F_0_0, F_0_1, F_0_2, F_0_3, F_0_4, F_0_5, F_0_6, F_0_7, F_0_8, sh_1, F_1_0, F_1_1, F_1_2, F_1_3, F_1_4, F_1_5, sh_3, F_3_0, F_3_1, F_3_2, F_3_3, F_3_4, F_3_5, sh_5, F_5_0, F_5_1, F_5_2, F_5_3, F_5_4, F_5_5, F_5_6, F_5_7, F_5_8, sh_12, F_12_0, F_12_1, F_12_2, F_12_3, F_12_4, F_12_5, sh_14, F_14_0, F_14_1, F_14_2, F_14_3, F_14_4, F_14_5, F_14_6, F_14_7, F_14_8, sh_21, F_21_0, F_21_1, F_21_2, F_21_3, F_21_4, F_21_5, F_21_6, F_21_7, F_21_8, sh_28, F_28_0, F_28_1, F_28_2, F_28_3, F_28_4, F_28_5, F_28_6, F_28_7, F_28_8, sh_35, F_35_0, sh_39, F_39_0, F_39_1, F_39_2, F_39_3, F_39_4, F_39_5, F_39_6, F_39_7, F_39_8, F_39_9, F_39_10, F_39_11, F_39_12, F_39_13, A_2, A_4, A_6, A_7, A_8, A_9, A_10, A_11, A_13, A_15, A_16, A_17, A_18, A_19, A_20, A_22, A_23, A_24, A_25, A_26, A_27, A_29, A_30, A_31, A_32, A_33, A_34, A_36, A_37, A_38, A_40, A_41, A_42, A_43, A_44, A_45, A_46, A_47]
      refine ⟨fun q => absurd q (by decide), fun _ => ⟨e, by omega, rfl, fun q => h2 e he rfl q, fun q => cut _ _ ⟨rfl, rfl, e, 0, he, rfl, by omega, q, ?_, rfl, rfl⟩ (by omega) ⟨rfl, rfl, rfl, trivial⟩⟩⟩
      rw [show bkI (M.2.2 33) (M.2.2 34) e 0 = M.2.2 33 from funext fun j => by unfold bkI; rw [if_neg (by omega)]]
      exact (sA_self 33 M).symm
    · dsimp only [k_X5_back_0, k_X5_back_1, k_X5_back_2, k_X5_back_3, k_X5_back_6, k_X5_back_9, k_X5_back_10, k_X5_back_11, k_X5_back_12, k_X5_back_15, k_X5_back_16, k_X5_back_17, k_X5_back_20, k_X5_back_22, k_X5_back_23, k_X5_back_24, k_X5_back_25, k_X5_back_26, k_X5_back_28, k_X5_back_31, k_X5_back_32, k_X5_back_35, k_X5_back_36, k_X5_back_37, k_X5_back_40, k_X5_back_42, k_X5_back_43, k_X5_back_44, k_X5_back_45, k_X5_back_46, k_X5_back_47, k_X5_back_48, k_X5_back_51, k_X5_back_54, k_X5_back_55, k_X5_back_58, k_X5_back_59, k_X5_back_60, wp1, wp_s, cutIn, kont, Nat.reduceSub, Nat.reduceAdd, nth, o_const, o_lconst, o_ref, o_iload, o_lload, o_aload, o_istore, o_lstore, o_astore, o_iinc, o_bin, o_div, o_un, o_lbin, o_lsh, o_lcmp, o_i2l, o_l2i, o_if, o_icmp, o_goto, o_dup, o_dup2, o_pop, fav, o_getf, o_putI, o_putZ, o_putL, o_ald, o_ast, o_alen, popn, rst, o_callV, o_callT, o_callS, swx, o_sw, o_ret, o_iret, o_zret, o_cret, o_lret, o_aret, lg, lput, lput2, ls1, isL, entL, wsum, rdI1, rdI2, rdA1, rdA21, rdA22, rdL1, rdL22, rdL21, upN_at, rep, sh_0, F_0_0, F_0_1, F_0_2, F_0_3, F_0_4, F_0_5, F_0_6, F_0_7, F_0_8, sh_1, F_1_0, F_1_1, F_1_2, F_1_3, F_1_4, F_1_5, sh_3, F_3_0, F_3_1, F_3_2, F_3_3, F_3_4, F_3_5, sh_5, F_5_0, F_5_1, F_5_2, F_5_3, F_5_4, F_5_5, F_5_6, F_5_7, F_5_8, sh_12, F_12_0, F_12_1, F_12_2, F_12_3, F_12_4, F_12_5, sh_14, F_14_0, F_14_1, F_14_2, F_14_3, F_14_4, F_14_5, F_14_6, F_14_7, F_14_8, sh_21, F_21_0, F_21_1, F_21_2, F_21_3, F_21_4, F_21_5, F_21_6, F_21_7, F_21_8, sh_28, F_28_0, F_28_1, F_28_2, F_28_3, F_28_4, F_28_5, F_28_6, F_28_7, F_28_8, sh_35, F_35_0, sh_39, F_39_0, F_39_1, F_39_2, F_39_3, F_39_4, F_39_5, F_39_6, F_39_7, F_39_8, F_39_9, F_39_10, F_39_11, F_39_12, F_39_13, A_2, A_4, A_6, A_7, A_8, A_9, A_10, A_11, A_13, A_15, A_16, A_17, A_18, A_19, A_20, A_22, A_23, A_24, A_25, A_26, A_27, A_29, A_30, A_31, A_32, A_33, A_34, A_36, A_37, A_38, A_40, A_41, A_42, A_43, A_44, A_45, A_46, A_47]
      exact ⟨fun _ => h1 fun q => w1 (i01.mpr q), fun q => absurd rfl q⟩
theorem cn_c (P : Nat → Bool) (n : Nat) : ∀ m, cn (mk P n) m + cn (mk (fun k => !P k) n) m = min m n := by
  intro m
  induction m with
  | zero => rw [Nat.zero_min]; rfl
  | succ m ih =>
    rw [cn, cn, mk_bit, mk_bit]
    by_cases e : m < n
    · rw [decide_eq_true e]
      cases P m <;> simp <;> omega
    · rw [decide_eq_false e]
      simp; omega
theorem six {x : Int32} (h : 0 ≤ x ∧ x ≤ 6) : x = 0 ∨ x = 1 ∨ x = 2 ∨ x = 3 ∨ x = 4 ∨ x = 5 ∨ x = 6 := by
  obtain ⟨k, hk, rfl⟩ := nI_of (x := x) (Int32.not_lt.mpr h.1)
  have h2 := h.2
  rw [show (6 : Int32) = nI 6 from rfl, nI_leI (by omega) (by omega)] at h2
  have : k = 0 ∨ k = 1 ∨ k = 2 ∨ k = 3 ∨ k = 4 ∨ k = 5 ∨ k = 6 := by omega
  rcases this with rfl | rfl | rfl | rfl | rfl | rfl | rfl
  · exact Or.inl rfl
  · exact Or.inr (Or.inl rfl)
  · exact Or.inr (Or.inr (Or.inl rfl))
  · exact Or.inr (Or.inr (Or.inr (Or.inl rfl)))
  · exact Or.inr (Or.inr (Or.inr (Or.inr (Or.inl rfl))))
  · exact Or.inr (Or.inr (Or.inr (Or.inr (Or.inr (Or.inl rfl)))))
  · exact Or.inr (Or.inr (Or.inr (Or.inr (Or.inr (Or.inr rfl)))))
set_option maxRecDepth 100000 in
theorem v_X5_count : ∀ as M post, S_X5_count as M post → wsum as ≤ 3 ∧ RUN (T_X5_count post) 0 (entL 3 as) [] M := by
  rintro as M post ⟨x, n, c, p, r, h0, lk, rfl, hX, z0, z1, z2, z3, z4, z5, z6, z7⟩
  have hX0 := hX
  obtain ⟨hn, hn8, hc, hc6, hp, hp4, hr, hhk, hl⟩ := hX
  have hkb : bx h0 n < 256 := Nat.lt_of_lt_of_le (mk_lt _ n) (Nat.pow_le_pow_right (n := 2) (by omega) hn8)
  have hul := us_lt h0 hn8
  refine ⟨by show 2 ≤ 3; omega, run_wp 60 ?_⟩
  dsimp only [k_X5_count_0, k_X5_count_1, k_X5_count_2, k_X5_count_4, k_X5_count_7, k_X5_count_10, k_X5_count_11, k_X5_count_12, k_X5_count_13, k_X5_count_16, k_X5_count_17, k_X5_count_20, k_X5_count_21, k_X5_count_22, k_X5_count_25, k_X5_count_26, k_X5_count_27, k_X5_count_30, k_X5_count_31, k_X5_count_34, k_X5_count_35, k_X5_count_36, k_X5_count_39, k_X5_count_40, k_X5_count_41, k_X5_count_44, k_X5_count_45, k_X5_count_48, k_X5_count_49, k_X5_count_50, k_X5_count_53, k_X5_count_54, k_X5_count_57, k_X5_count_60, k_X5_count_61, k_X5_count_62, k_X5_count_63, k_X5_count_66, k_X5_count_67, k_X5_count_70, k_X5_count_71, k_X5_count_72, k_X5_count_75, k_X5_count_76, k_X5_count_79, k_X5_count_80, k_X5_count_81, k_X5_count_82, k_X5_count_85, k_X5_count_88, k_X5_count_89, k_X5_count_92, k_X5_count_93, k_X5_count_94, k_X5_count_97, k_X5_count_98, k_X5_count_101, k_X5_count_103, k_X5_count_104, k_X5_count_107, k_X5_count_108, k_X5_count_111, wp1, wp_s, cutIn, kont, Nat.reduceSub, Nat.reduceAdd, nth, o_const, o_lconst, o_ref, o_iload, o_lload, o_aload, o_istore, o_lstore, o_astore, o_iinc, o_bin, o_div, o_un, o_lbin, o_lsh, o_lcmp, o_i2l, o_l2i, o_if, o_icmp, o_goto, o_dup, o_dup2, o_pop, fav, o_getf, o_putI, o_putZ, o_putL, o_ald, o_ast, o_alen, popn, rst, o_callV, o_callT, o_callS, swx, o_sw, o_ret, o_iret, o_zret, o_cret, o_lret, o_aret, lg, lput, lput2, ls1, isL, entL, wsum, rdI1, rdI2, rdA1, rdA21, rdA22, rdL1, rdL22, rdL21, upN_at, rep, sh_0, F_0_0, F_0_1, F_0_2, F_0_3, F_0_4, F_0_5, F_0_6, F_0_7, F_0_8, sh_1, F_1_0, F_1_1, F_1_2, F_1_3, F_1_4, F_1_5, sh_3, F_3_0, F_3_1, F_3_2, F_3_3, F_3_4, F_3_5, sh_5, F_5_0, F_5_1, F_5_2, F_5_3, F_5_4, F_5_5, F_5_6, F_5_7, F_5_8, sh_12, F_12_0, F_12_1, F_12_2, F_12_3, F_12_4, F_12_5, sh_14, F_14_0, F_14_1, F_14_2, F_14_3, F_14_4, F_14_5, F_14_6, F_14_7, F_14_8, sh_21, F_21_0, F_21_1, F_21_2, F_21_3, F_21_4, F_21_5, F_21_6, F_21_7, F_21_8, sh_28, F_28_0, F_28_1, F_28_2, F_28_3, F_28_4, F_28_5, F_28_6, F_28_7, F_28_8, sh_35, F_35_0, sh_39, F_39_0, F_39_1, F_39_2, F_39_3, F_39_4, F_39_5, F_39_6, F_39_7, F_39_8, F_39_9, F_39_10, F_39_11, F_39_12, F_39_13, A_2, A_4, A_6, A_7, A_8, A_9, A_10, A_11, A_13, A_15, A_16, A_17, A_18, A_19, A_20, A_22, A_23, A_24, A_25, A_26, A_27, A_29, A_30, A_31, A_32, A_33, A_34, A_36, A_37, A_38, A_40, A_41, A_42, A_43, A_44, A_45, A_46, A_47]
  refine ⟨x, 0, 6, rfl, fun w1 => ?_, fun w1 => ?_⟩
  · dsimp only [k_X5_count_0, k_X5_count_1, k_X5_count_2, k_X5_count_4, k_X5_count_7, k_X5_count_10, k_X5_count_11, k_X5_count_12, k_X5_count_13, k_X5_count_16, k_X5_count_17, k_X5_count_20, k_X5_count_21, k_X5_count_22, k_X5_count_25, k_X5_count_26, k_X5_count_27, k_X5_count_30, k_X5_count_31, k_X5_count_34, k_X5_count_35, k_X5_count_36, k_X5_count_39, k_X5_count_40, k_X5_count_41, k_X5_count_44, k_X5_count_45, k_X5_count_48, k_X5_count_49, k_X5_count_50, k_X5_count_53, k_X5_count_54, k_X5_count_57, k_X5_count_60, k_X5_count_61, k_X5_count_62, k_X5_count_63, k_X5_count_66, k_X5_count_67, k_X5_count_70, k_X5_count_71, k_X5_count_72, k_X5_count_75, k_X5_count_76, k_X5_count_79, k_X5_count_80, k_X5_count_81, k_X5_count_82, k_X5_count_85, k_X5_count_88, k_X5_count_89, k_X5_count_92, k_X5_count_93, k_X5_count_94, k_X5_count_97, k_X5_count_98, k_X5_count_101, k_X5_count_103, k_X5_count_104, k_X5_count_107, k_X5_count_108, k_X5_count_111, wp1, wp_s, cutIn, kont, Nat.reduceSub, Nat.reduceAdd, nth, o_const, o_lconst, o_ref, o_iload, o_lload, o_aload, o_istore, o_lstore, o_astore, o_iinc, o_bin, o_div, o_un, o_lbin, o_lsh, o_lcmp, o_i2l, o_l2i, o_if, o_icmp, o_goto, o_dup, o_dup2, o_pop, fav, o_getf, o_putI, o_putZ, o_putL, o_ald, o_ast, o_alen, popn, rst, o_callV, o_callT, o_callS, swx, o_sw, o_ret, o_iret, o_zret, o_cret, o_lret, o_aret, lg, lput, lput2, ls1, isL, entL, wsum, rdI1, rdI2, rdA1, rdA21, rdA22, rdL1, rdL22, rdL21, upN_at, rep, sh_0, F_0_0, F_0_1, F_0_2, F_0_3, F_0_4, F_0_5, F_0_6, F_0_7, F_0_8, sh_1, F_1_0, F_1_1, F_1_2, F_1_3, F_1_4, F_1_5, sh_3, F_3_0, F_3_1, F_3_2, F_3_3, F_3_4, F_3_5, sh_5, F_5_0, F_5_1, F_5_2, F_5_3, F_5_4, F_5_5, F_5_6, F_5_7, F_5_8, sh_12, F_12_0, F_12_1, F_12_2, F_12_3, F_12_4, F_12_5, sh_14, F_14_0, F_14_1, F_14_2, F_14_3, F_14_4, F_14_5, F_14_6, F_14_7, F_14_8, sh_21, F_21_0, F_21_1, F_21_2, F_21_3, F_21_4, F_21_5, F_21_6, F_21_7, F_21_8, sh_28, F_28_0, F_28_1, F_28_2, F_28_3, F_28_4, F_28_5, F_28_6, F_28_7, F_28_8, sh_35, F_35_0, sh_39, F_39_0, F_39_1, F_39_2, F_39_3, F_39_4, F_39_5, F_39_6, F_39_7, F_39_8, F_39_9, F_39_10, F_39_11, F_39_12, F_39_13, A_2, A_4, A_6, A_7, A_8, A_9, A_10, A_11, A_13, A_15, A_16, A_17, A_18, A_19, A_20, A_22, A_23, A_24, A_25, A_26, A_27, A_29, A_30, A_31, A_32, A_33, A_34, A_36, A_37, A_38, A_40, A_41, A_42, A_43, A_44, A_45, A_46, A_47]
    refine ⟨fun q => absurd q (by decide), fun _ => ⟨fun e0 => ⟨0, by omega, rfl, fun q => absurd q (by rw [e0]; decide), fun _ => by rw [hn]; exact z0 e0⟩, fun e0 => ⟨fun e1 => ⟨0, by omega, rfl, fun q => absurd q (by rw [e1]; decide), fun _ => by rw [hc]; exact z1 e1⟩, fun e1 => ⟨fun e2 => ⟨1, by omega, rfl, fun q => absurd q (by rw [e2]; decide), fun _ => by rw [hp]; exact z2 e2⟩, fun e2 => ?_⟩⟩⟩⟩
    refine ⟨n, c, p, r, h0, lk, rfl, hX0, ?_⟩
    dsimp only [k_X5_count_0, k_X5_count_1, k_X5_count_2, k_X5_count_4, k_X5_count_7, k_X5_count_10, k_X5_count_11, k_X5_count_12, k_X5_count_13, k_X5_count_16, k_X5_count_17, k_X5_count_20, k_X5_count_21, k_X5_count_22, k_X5_count_25, k_X5_count_26, k_X5_count_27, k_X5_count_30, k_X5_count_31, k_X5_count_34, k_X5_count_35, k_X5_count_36, k_X5_count_39, k_X5_count_40, k_X5_count_41, k_X5_count_44, k_X5_count_45, k_X5_count_48, k_X5_count_49, k_X5_count_50, k_X5_count_53, k_X5_count_54, k_X5_count_57, k_X5_count_60, k_X5_count_61, k_X5_count_62, k_X5_count_63, k_X5_count_66, k_X5_count_67, k_X5_count_70, k_X5_count_71, k_X5_count_72, k_X5_count_75, k_X5_count_76, k_X5_count_79, k_X5_count_80, k_X5_count_81, k_X5_count_82, k_X5_count_85, k_X5_count_88, k_X5_count_89, k_X5_count_92, k_X5_count_93, k_X5_count_94, k_X5_count_97, k_X5_count_98, k_X5_count_101, k_X5_count_103, k_X5_count_104, k_X5_count_107, k_X5_count_108, k_X5_count_111, wp1, wp_s, cutIn, kont, Nat.reduceSub, Nat.reduceAdd, nth, o_const, o_lconst, o_ref, o_iload, o_lload, o_aload, o_istore, o_lstore, o_astore, o_iinc, o_bin, o_div, o_un, o_lbin, o_lsh, o_lcmp, o_i2l, o_l2i, o_if, o_icmp, o_goto, o_dup, o_dup2, o_pop, fav, o_getf, o_putI, o_putZ, o_putL, o_ald, o_ast, o_alen, popn, rst, o_callV, o_callT, o_callS, swx, o_sw, o_ret, o_iret, o_zret, o_cret, o_lret, o_aret, lg, lput, lput2, ls1, isL, entL, wsum, rdI1, rdI2, rdA1, rdA21, rdA22, rdL1, rdL22, rdL21, upN_at, rep, sh_0, F_0_0, F_0_1, F_0_2, F_0_3, F_0_4, F_0_5, F_0_6, F_0_7, F_0_8, sh_1, F_1_0, F_1_1, F_1_2, F_1_3, F_1_4, F_1_5, sh_3, F_3_0, F_3_1, F_3_2, F_3_3, F_3_4, F_3_5, sh_5, F_5_0, F_5_1, F_5_2, F_5_3, F_5_4, F_5_5, F_5_6, F_5_7, F_5_8, sh_12, F_12_0, F_12_1, F_12_2, F_12_3, F_12_4, F_12_5, sh_14, F_14_0, F_14_1, F_14_2, F_14_3, F_14_4, F_14_5, F_14_6, F_14_7, F_14_8, sh_21, F_21_0, F_21_1, F_21_2, F_21_3, F_21_4, F_21_5, F_21_6, F_21_7, F_21_8, sh_28, F_28_0, F_28_1, F_28_2, F_28_3, F_28_4, F_28_5, F_28_6, F_28_7, F_28_8, sh_35, F_35_0, sh_39, F_39_0, F_39_1, F_39_2, F_39_3, F_39_4, F_39_5, F_39_6, F_39_7, F_39_8, F_39_9, F_39_10, F_39_11, F_39_12, F_39_13, A_2, A_4, A_6, A_7, A_8, A_9, A_10, A_11, A_13, A_15, A_16, A_17, A_18, A_19, A_20, A_22, A_23, A_24, A_25, A_26, A_27, A_29, A_30, A_31, A_32, A_33, A_34, A_36, A_37, A_38, A_40, A_41, A_42, A_43, A_44, A_45, A_46, A_47]
    refine ⟨_, rfl, by omega, ?_⟩
    dsimp only [k_X5_count_0, k_X5_count_1, k_X5_count_2, k_X5_count_4, k_X5_count_7, k_X5_count_10, k_X5_count_11, k_X5_count_12, k_X5_count_13, k_X5_count_16, k_X5_count_17, k_X5_count_20, k_X5_count_21, k_X5_count_22, k_X5_count_25, k_X5_count_26, k_X5_count_27, k_X5_count_30, k_X5_count_31, k_X5_count_34, k_X5_count_35, k_X5_count_36, k_X5_count_39, k_X5_count_40, k_X5_count_41, k_X5_count_44, k_X5_count_45, k_X5_count_48, k_X5_count_49, k_X5_count_50, k_X5_count_53, k_X5_count_54, k_X5_count_57, k_X5_count_60, k_X5_count_61, k_X5_count_62, k_X5_count_63, k_X5_count_66, k_X5_count_67, k_X5_count_70, k_X5_count_71, k_X5_count_72, k_X5_count_75, k_X5_count_76, k_X5_count_79, k_X5_count_80, k_X5_count_81, k_X5_count_82, k_X5_count_85, k_X5_count_88, k_X5_count_89, k_X5_count_92, k_X5_count_93, k_X5_count_94, k_X5_count_97, k_X5_count_98, k_X5_count_101, k_X5_count_103, k_X5_count_104, k_X5_count_107, k_X5_count_108, k_X5_count_111, wp1, wp_s, cutIn, kont, Nat.reduceSub, Nat.reduceAdd, nth, o_const, o_lconst, o_ref, o_iload, o_lload, o_aload, o_istore, o_lstore, o_astore, o_iinc, o_bin, o_div, o_un, o_lbin, o_lsh, o_lcmp, o_i2l, o_l2i, o_if, o_icmp, o_goto, o_dup, o_dup2, o_pop, fav, o_getf, o_putI, o_putZ, o_putL, o_ald, o_ast, o_alen, popn, rst, o_callV, o_callT, o_callS, swx, o_sw, o_ret, o_iret, o_zret, o_cret, o_lret, o_aret, lg, lput, lput2, ls1, isL, entL, wsum, rdI1, rdI2, rdA1, rdA21, rdA22, rdL1, rdL22, rdL21, upN_at, rep, sh_0, F_0_0, F_0_1, F_0_2, F_0_3, F_0_4, F_0_5, F_0_6, F_0_7, F_0_8, sh_1, F_1_0, F_1_1, F_1_2, F_1_3, F_1_4, F_1_5, sh_3, F_3_0, F_3_1, F_3_2, F_3_3, F_3_4, F_3_5, sh_5, F_5_0, F_5_1, F_5_2, F_5_3, F_5_4, F_5_5, F_5_6, F_5_7, F_5_8, sh_12, F_12_0, F_12_1, F_12_2, F_12_3, F_12_4, F_12_5, sh_14, F_14_0, F_14_1, F_14_2, F_14_3, F_14_4, F_14_5, F_14_6, F_14_7, F_14_8, sh_21, F_21_0, F_21_1, F_21_2, F_21_3, F_21_4, F_21_5, F_21_6, F_21_7, F_21_8, sh_28, F_28_0, F_28_1, F_28_2, F_28_3, F_28_4, F_28_5, F_28_6, F_28_7, F_28_8, sh_35, F_35_0, sh_39, F_39_0, F_39_1, F_39_2, F_39_3, F_39_4, F_39_5, F_39_6, F_39_7, F_39_8, F_39_9, F_39_10, F_39_11, F_39_12, F_39_13, A_2, A_4, A_6, A_7, A_8, A_9, A_10, A_11, A_13, A_15, A_16, A_17, A_18, A_19, A_20, A_22, A_23, A_24, A_25, A_26, A_27, A_29, A_30, A_31, A_32, A_33, A_34, A_36, A_37, A_38, A_40, A_41, A_42, A_43, A_44, A_45, A_46, A_47]
    refine ⟨fun q => ⟨fun e4 => ⟨0, by omega, rfl, n, c, p, r, h0, lk, rfl, hX0, ?_⟩, fun e4 => ⟨fun e5 => ⟨17, by omega, rfl, z5 e5⟩, fun e5 => z6 ?_⟩⟩, fun q => z3 ?_⟩
    · dsimp only [k_X5_count_0, k_X5_count_1, k_X5_count_2, k_X5_count_4, k_X5_count_7, k_X5_count_10, k_X5_count_11, k_X5_count_12, k_X5_count_13, k_X5_count_16, k_X5_count_17, k_X5_count_20, k_X5_count_21, k_X5_count_22, k_X5_count_25, k_X5_count_26, k_X5_count_27, k_X5_count_30, k_X5_count_31, k_X5_count_34, k_X5_count_35, k_X5_count_36, k_X5_count_39, k_X5_count_40, k_X5_count_41, k_X5_count_44, k_X5_count_45, k_X5_count_48, k_X5_count_49, k_X5_count_50, k_X5_count_53, k_X5_count_54, k_X5_count_57, k_X5_count_60, k_X5_count_61, k_X5_count_62, k_X5_count_63, k_X5_count_66, k_X5_count_67, k_X5_count_70, k_X5_count_71, k_X5_count_72, k_X5_count_75, k_X5_count_76, k_X5_count_79, k_X5_count_80, k_X5_count_81, k_X5_count_82, k_X5_count_85, k_X5_count_88, k_X5_count_89, k_X5_count_92, k_X5_count_93, k_X5_count_94, k_X5_count_97, k_X5_count_98, k_X5_count_101, k_X5_count_103, k_X5_count_104, k_X5_count_107, k_X5_count_108, k_X5_count_111, wp1, wp_s, cutIn, kont, Nat.reduceSub, Nat.reduceAdd, nth, o_const, o_lconst, o_ref, o_iload, o_lload, o_aload, o_istore, o_lstore, o_astore, o_iinc, o_bin, o_div, o_un, o_lbin, o_lsh, o_lcmp, o_i2l, o_l2i, o_if, o_icmp, o_goto, o_dup, o_dup2, o_pop, fav, o_getf, o_putI, o_putZ, o_putL, o_ald, o_ast, o_alen, popn, rst, o_callV, o_callT, o_callS, swx, o_sw, o_ret, o_iret, o_zret, o_cret, o_lret, o_aret, lg, lput, lput2, ls1, isL, entL, wsum, rdI1, rdI2, rdA1, rdA21, rdA22, rdL1, rdL22, rdL21, upN_at, rep, sh_0, F_0_0, F_0_1, F_0_2, F_0_3, F_0_4, F_0_5, F_0_6, F_0_7, F_0_8, sh_1, F_1_0, F_1_1, F_1_2, F_1_3, F_1_4, F_1_5, sh_3, F_3_0, F_3_1, F_3_2, F_3_3, F_3_4, F_3_5, sh_5, F_5_0, F_5_1, F_5_2, F_5_3, F_5_4, F_5_5, F_5_6, F_5_7, F_5_8, sh_12, F_12_0, F_12_1, F_12_2, F_12_3, F_12_4, F_12_5, sh_14, F_14_0, F_14_1, F_14_2, F_14_3, F_14_4, F_14_5, F_14_6, F_14_7, F_14_8, sh_21, F_21_0, F_21_1, F_21_2, F_21_3, F_21_4, F_21_5, F_21_6, F_21_7, F_21_8, sh_28, F_28_0, F_28_1, F_28_2, F_28_3, F_28_4, F_28_5, F_28_6, F_28_7, F_28_8, sh_35, F_35_0, sh_39, F_39_0, F_39_1, F_39_2, F_39_3, F_39_4, F_39_5, F_39_6, F_39_7, F_39_8, F_39_9, F_39_10, F_39_11, F_39_12, F_39_13, A_2, A_4, A_6, A_7, A_8, A_9, A_10, A_11, A_13, A_15, A_16, A_17, A_18, A_19, A_20, A_22, A_23, A_24, A_25, A_26, A_27, A_29, A_30, A_31, A_32, A_33, A_34, A_36, A_37, A_38, A_40, A_41, A_42, A_43, A_44, A_45, A_46, A_47]
      refine ⟨_, rfl, by omega, ?_⟩
      dsimp only [k_X5_count_0, k_X5_count_1, k_X5_count_2, k_X5_count_4, k_X5_count_7, k_X5_count_10, k_X5_count_11, k_X5_count_12, k_X5_count_13, k_X5_count_16, k_X5_count_17, k_X5_count_20, k_X5_count_21, k_X5_count_22, k_X5_count_25, k_X5_count_26, k_X5_count_27, k_X5_count_30, k_X5_count_31, k_X5_count_34, k_X5_count_35, k_X5_count_36, k_X5_count_39, k_X5_count_40, k_X5_count_41, k_X5_count_44, k_X5_count_45, k_X5_count_48, k_X5_count_49, k_X5_count_50, k_X5_count_53, k_X5_count_54, k_X5_count_57, k_X5_count_60, k_X5_count_61, k_X5_count_62, k_X5_count_63, k_X5_count_66, k_X5_count_67, k_X5_count_70, k_X5_count_71, k_X5_count_72, k_X5_count_75, k_X5_count_76, k_X5_count_79, k_X5_count_80, k_X5_count_81, k_X5_count_82, k_X5_count_85, k_X5_count_88, k_X5_count_89, k_X5_count_92, k_X5_count_93, k_X5_count_94, k_X5_count_97, k_X5_count_98, k_X5_count_101, k_X5_count_103, k_X5_count_104, k_X5_count_107, k_X5_count_108, k_X5_count_111, wp1, wp_s, cutIn, kont, Nat.reduceSub, Nat.reduceAdd, nth, o_const, o_lconst, o_ref, o_iload, o_lload, o_aload, o_istore, o_lstore, o_astore, o_iinc, o_bin, o_div, o_un, o_lbin, o_lsh, o_lcmp, o_i2l, o_l2i, o_if, o_icmp, o_goto, o_dup, o_dup2, o_pop, fav, o_getf, o_putI, o_putZ, o_putL, o_ald, o_ast, o_alen, popn, rst, o_callV, o_callT, o_callS, swx, o_sw, o_ret, o_iret, o_zret, o_cret, o_lret, o_aret, lg, lput, lput2, ls1, isL, entL, wsum, rdI1, rdI2, rdA1, rdA21, rdA22, rdL1, rdL22, rdL21, upN_at, rep, sh_0, F_0_0, F_0_1, F_0_2, F_0_3, F_0_4, F_0_5, F_0_6, F_0_7, F_0_8, sh_1, F_1_0, F_1_1, F_1_2, F_1_3, F_1_4, F_1_5, sh_3, F_3_0, F_3_1, F_3_2, F_3_3, F_3_4, F_3_5, sh_5, F_5_0, F_5_1, F_5_2, F_5_3, F_5_4, F_5_5, F_5_6, F_5_7, F_5_8, sh_12, F_12_0, F_12_1, F_12_2, F_12_3, F_12_4, F_12_5, sh_14, F_14_0, F_14_1, F_14_2, F_14_3, F_14_4, F_14_5, F_14_6, F_14_7, F_14_8, sh_21, F_21_0, F_21_1, F_21_2, F_21_3, F_21_4, F_21_5, F_21_6, F_21_7, F_21_8, sh_28, F_28_0, F_28_1, F_28_2, F_28_3, F_28_4, F_28_5, F_28_6, F_28_7, F_28_8, sh_35, F_35_0, sh_39, F_39_0, F_39_1, F_39_2, F_39_3, F_39_4, F_39_5, F_39_6, F_39_7, F_39_8, F_39_9, F_39_10, F_39_11, F_39_12, F_39_13, A_2, A_4, A_6, A_7, A_8, A_9, A_10, A_11, A_13, A_15, A_16, A_17, A_18, A_19, A_20, A_22, A_23, A_24, A_25, A_26, A_27, A_29, A_30, A_31, A_32, A_33, A_34, A_36, A_37, A_38, A_40, A_41, A_42, A_43, A_44, A_45, A_46, A_47]
      have hcc := cn_c (fun k => h0 k == -3) n 9
      rw [show mk (fun k => !(fun k => h0 k == -3) k) n = us h0 n from rfl, show mk (fun k => h0 k == -3) n = kB h0 n (-3) from rfl, Nat.min_eq_right (by omega)] at hcc
      have hz := z4 e4
      rw [show cn (kB h0 n (-3)) 9 = n - cn (us h0 n) 9 by omega] at hz
      rw [hn, pk_sub (by omega)]
      exact hz
    · rcases six w1 with e | e | e | e | e | e | e
      · exact absurd e e0
      · exact absurd e e1
      · exact absurd e e2
      · rw [e] at q; exact absurd q (by decide)
      · exact absurd e e4
      · exact absurd e e5
      · exact e
    · rcases six w1 with e | e | e | e | e | e | e
      · exact absurd e e0
      · exact absurd e e1
      · exact absurd e e2
      · exact e
      · exact absurd (by rw [e]; decide) q
      · exact absurd (by rw [e]; decide) q
      · exact absurd (by rw [e]; decide) q
  · dsimp only [k_X5_count_0, k_X5_count_1, k_X5_count_2, k_X5_count_4, k_X5_count_7, k_X5_count_10, k_X5_count_11, k_X5_count_12, k_X5_count_13, k_X5_count_16, k_X5_count_17, k_X5_count_20, k_X5_count_21, k_X5_count_22, k_X5_count_25, k_X5_count_26, k_X5_count_27, k_X5_count_30, k_X5_count_31, k_X5_count_34, k_X5_count_35, k_X5_count_36, k_X5_count_39, k_X5_count_40, k_X5_count_41, k_X5_count_44, k_X5_count_45, k_X5_count_48, k_X5_count_49, k_X5_count_50, k_X5_count_53, k_X5_count_54, k_X5_count_57, k_X5_count_60, k_X5_count_61, k_X5_count_62, k_X5_count_63, k_X5_count_66, k_X5_count_67, k_X5_count_70, k_X5_count_71, k_X5_count_72, k_X5_count_75, k_X5_count_76, k_X5_count_79, k_X5_count_80, k_X5_count_81, k_X5_count_82, k_X5_count_85, k_X5_count_88, k_X5_count_89, k_X5_count_92, k_X5_count_93, k_X5_count_94, k_X5_count_97, k_X5_count_98, k_X5_count_101, k_X5_count_103, k_X5_count_104, k_X5_count_107, k_X5_count_108, k_X5_count_111, wp1, wp_s, cutIn, kont, Nat.reduceSub, Nat.reduceAdd, nth, o_const, o_lconst, o_ref, o_iload, o_lload, o_aload, o_istore, o_lstore, o_astore, o_iinc, o_bin, o_div, o_un, o_lbin, o_lsh, o_lcmp, o_i2l, o_l2i, o_if, o_icmp, o_goto, o_dup, o_dup2, o_pop, fav, o_getf, o_putI, o_putZ, o_putL, o_ald, o_ast, o_alen, popn, rst, o_callV, o_callT, o_callS, swx, o_sw, o_ret, o_iret, o_zret, o_cret, o_lret, o_aret, lg, lput, lput2, ls1, isL, entL, wsum, rdI1, rdI2, rdA1, rdA21, rdA22, rdL1, rdL22, rdL21, upN_at, rep, sh_0, F_0_0, F_0_1, F_0_2, F_0_3, F_0_4, F_0_5, F_0_6, F_0_7, F_0_8, sh_1, F_1_0, F_1_1, F_1_2, F_1_3, F_1_4, F_1_5, sh_3, F_3_0, F_3_1, F_3_2, F_3_3, F_3_4, F_3_5, sh_5, F_5_0, F_5_1, F_5_2, F_5_3, F_5_4, F_5_5, F_5_6, F_5_7, F_5_8, sh_12, F_12_0, F_12_1, F_12_2, F_12_3, F_12_4, F_12_5, sh_14, F_14_0, F_14_1, F_14_2, F_14_3, F_14_4, F_14_5, F_14_6, F_14_7, F_14_8, sh_21, F_21_0, F_21_1, F_21_2, F_21_3, F_21_4, F_21_5, F_21_6, F_21_7, F_21_8, sh_28, F_28_0, F_28_1, F_28_2, F_28_3, F_28_4, F_28_5, F_28_6, F_28_7, F_28_8, sh_35, F_35_0, sh_39, F_39_0, F_39_1, F_39_2, F_39_3, F_39_4, F_39_5, F_39_6, F_39_7, F_39_8, F_39_9, F_39_10, F_39_11, F_39_12, F_39_13, A_2, A_4, A_6, A_7, A_8, A_9, A_10, A_11, A_13, A_15, A_16, A_17, A_18, A_19, A_20, A_22, A_23, A_24, A_25, A_26, A_27, A_29, A_30, A_31, A_32, A_33, A_34, A_36, A_37, A_38, A_40, A_41, A_42, A_43, A_44, A_45, A_46, A_47]
    refine ⟨fun _ => z7 fun q => w1 ⟨q.1, ?_⟩, fun q => absurd rfl q⟩
    obtain ⟨k, rfl, hk⟩ := rg (n := 7) (by omega) q
    rw [show (6 : Int32) = nI 6 from rfl, nI_leI (by omega) (by omega)]; omega
theorem hd_1 {h : Nat → Int32} {q p n : Nat} (hq : q < p) (hp : p ≤ 4) : hd h (2 ^ q) p n = kB h n (nI q) := by
  refine mk_congr fun k _ => ?_
  rw [Bool.eq_iff_iff, hh_iff]
  constructor
  · rintro ⟨t, ht, hb, e⟩
    rw [Nat.testBit_two_pow] at hb
    have : q = t := by simpa using hb
    subst this
    simp [e]
  · intro e
    exact ⟨q, hq, by rw [Nat.testBit_two_pow]; simp, by simpa using e⟩
theorem rT_1 (t : Int64) : rT 1 t = t + 11 := by show t + 10 + 1 = t + 11; rw [Int64.add_assoc]; rfl
theorem rT_2 (t : Int64) : rT 2 t = t + 101 := by show t + 100 + 1 = t + 101; rw [Int64.add_assoc]; rfl
theorem rT_3 (t : Int64) : rT 3 t = t + 1011 := by show t + 1000 + 10 + 1 = t + 1011; rw [Int64.add_assoc, Int64.add_assoc]; rfl
theorem rT_4 (t : Int64) : rT 4 t = t + 10101 := by show t + 10000 + 100 + 1 = t + 10101; rw [Int64.add_assoc, Int64.add_assoc]; rfl
theorem rT_5 (t : Int64) : rT 5 t = t + 100001 := by show t + 100000 + 1 = t + 100001; rw [Int64.add_assoc]; rfl
set_option maxRecDepth 100000 in
theorem v_X5_rate : ∀ as M post, S_X5_rate as M post → wsum as ≤ 7 ∧ RUN (T_X5_rate post) 0 (entL 7 as) [] M := by
  rintro as M post ⟨y, x, n, c, p, r, h0, lk, rfl, hX, hH, h1, h2⟩
  have hX0 := hX
  obtain ⟨hn, hn8, hc, hc6, hp, hp4, hr, hhk, hl⟩ := hX
  refine ⟨by show 3 ≤ 7; omega, run_wp 80 ?_⟩
  dsimp only [k_X5_rate_0, k_X5_rate_1, k_X5_rate_2, k_X5_rate_3, k_X5_rate_6, k_X5_rate_9, k_X5_rate_10, k_X5_rate_11, k_X5_rate_14, k_X5_rate_17, k_X5_rate_19, k_X5_rate_20, k_X5_rate_21, k_X5_rate_22, k_X5_rate_25, k_X5_rate_26, k_X5_rate_29, k_X5_rate_30, k_X5_rate_33, k_X5_rate_34, k_X5_rate_35, k_X5_rate_38, k_X5_rate_41, k_X5_rate_44, k_X5_rate_45, k_X5_rate_46, k_X5_rate_49, k_X5_rate_52, k_X5_rate_55, k_X5_rate_56, k_X5_rate_57, k_X5_rate_60, k_X5_rate_63, k_X5_rate_66, k_X5_rate_67, k_X5_rate_68, k_X5_rate_71, k_X5_rate_74, k_X5_rate_77, k_X5_rate_80, k_X5_rate_81, k_X5_rate_84, k_X5_rate_85, k_X5_rate_86, k_X5_rate_87, k_X5_rate_88, k_X5_rate_91, k_X5_rate_92, k_X5_rate_93, k_X5_rate_96, k_X5_rate_98, k_X5_rate_100, k_X5_rate_101, k_X5_rate_102, k_X5_rate_105, k_X5_rate_108, k_X5_rate_109, k_X5_rate_111, k_X5_rate_113, k_X5_rate_114, k_X5_rate_115, k_X5_rate_118, k_X5_rate_121, k_X5_rate_122, k_X5_rate_124, k_X5_rate_125, k_X5_rate_128, k_X5_rate_130, k_X5_rate_133, k_X5_rate_134, k_X5_rate_135, k_X5_rate_138, k_X5_rate_140, k_X5_rate_143, k_X5_rate_144, k_X5_rate_145, k_X5_rate_148, k_X5_rate_150, k_X5_rate_153, k_X5_rate_154, k_X5_rate_155, k_X5_rate_158, k_X5_rate_159, k_X5_rate_161, k_X5_rate_162, k_X5_rate_165, k_X5_rate_166, k_X5_rate_167, k_X5_rate_170, k_X5_rate_172, k_X5_rate_173, k_X5_rate_174, k_X5_rate_177, k_X5_rate_179, k_X5_rate_180, k_X5_rate_183, k_X5_rate_186, k_X5_rate_187, wp1, wp_s, cutIn, kont, Nat.reduceSub, Nat.reduceAdd, nth, o_const, o_lconst, o_ref, o_iload, o_lload, o_aload, o_istore, o_lstore, o_astore, o_iinc, o_bin, o_div, o_un, o_lbin, o_lsh, o_lcmp, o_i2l, o_l2i, o_if, o_icmp, o_goto, o_dup, o_dup2, o_pop, fav, o_getf, o_putI, o_putZ, o_putL, o_ald, o_ast, o_alen, popn, rst, o_callV, o_callT, o_callS, swx, o_sw, o_ret, o_iret, o_zret, o_cret, o_lret, o_aret, lg, lput, lput2, ls1, isL, entL, wsum, rdI1, rdI2, rdA1, rdA21, rdA22, rdL1, rdL22, rdL21, upN_at, rep, sh_0, F_0_0, F_0_1, F_0_2, F_0_3, F_0_4, F_0_5, F_0_6, F_0_7, F_0_8, sh_1, F_1_0, F_1_1, F_1_2, F_1_3, F_1_4, F_1_5, sh_3, F_3_0, F_3_1, F_3_2, F_3_3, F_3_4, F_3_5, sh_5, F_5_0, F_5_1, F_5_2, F_5_3, F_5_4, F_5_5, F_5_6, F_5_7, F_5_8, sh_12, F_12_0, F_12_1, F_12_2, F_12_3, F_12_4, F_12_5, sh_14, F_14_0, F_14_1, F_14_2, F_14_3, F_14_4, F_14_5, F_14_6, F_14_7, F_14_8, sh_21, F_21_0, F_21_1, F_21_2, F_21_3, F_21_4, F_21_5, F_21_6, F_21_7, F_21_8, sh_28, F_28_0, F_28_1, F_28_2, F_28_3, F_28_4, F_28_5, F_28_6, F_28_7, F_28_8, sh_35, F_35_0, sh_39, F_39_0, F_39_1, F_39_2, F_39_3, F_39_4, F_39_5, F_39_6, F_39_7, F_39_8, F_39_9, F_39_10, F_39_11, F_39_12, F_39_13, A_2, A_4, A_6, A_7, A_8, A_9, A_10, A_11, A_13, A_15, A_16, A_17, A_18, A_19, A_20, A_22, A_23, A_24, A_25, A_26, A_27, A_29, A_30, A_31, A_32, A_33, A_34, A_36, A_37, A_38, A_40, A_41, A_42, A_43, A_44, A_45, A_46, A_47]
  refine ⟨y, 0, 5, rfl, fun w1 => ?_, fun w1 => ?_⟩
  · obtain ⟨k, hk, rfl⟩ := nI_of (x := y) (Int32.not_lt.mpr w1.1)
    have hk5 := w1.2
    rw [show (5 : Int32) = nI 5 from rfl, nI_leI (by omega) (by omega)] at hk5
    dsimp only [k_X5_rate_0, k_X5_rate_1, k_X5_rate_2, k_X5_rate_3, k_X5_rate_6, k_X5_rate_9, k_X5_rate_10, k_X5_rate_11, k_X5_rate_14, k_X5_rate_17, k_X5_rate_19, k_X5_rate_20, k_X5_rate_21, k_X5_rate_22, k_X5_rate_25, k_X5_rate_26, k_X5_rate_29, k_X5_rate_30, k_X5_rate_33, k_X5_rate_34, k_X5_rate_35, k_X5_rate_38, k_X5_rate_41, k_X5_rate_44, k_X5_rate_45, k_X5_rate_46, k_X5_rate_49, k_X5_rate_52, k_X5_rate_55, k_X5_rate_56, k_X5_rate_57, k_X5_rate_60, k_X5_rate_63, k_X5_rate_66, k_X5_rate_67, k_X5_rate_68, k_X5_rate_71, k_X5_rate_74, k_X5_rate_77, k_X5_rate_80, k_X5_rate_81, k_X5_rate_84, k_X5_rate_85, k_X5_rate_86, k_X5_rate_87, k_X5_rate_88, k_X5_rate_91, k_X5_rate_92, k_X5_rate_93, k_X5_rate_96, k_X5_rate_98, k_X5_rate_100, k_X5_rate_101, k_X5_rate_102, k_X5_rate_105, k_X5_rate_108, k_X5_rate_109, k_X5_rate_111, k_X5_rate_113, k_X5_rate_114, k_X5_rate_115, k_X5_rate_118, k_X5_rate_121, k_X5_rate_122, k_X5_rate_124, k_X5_rate_125, k_X5_rate_128, k_X5_rate_130, k_X5_rate_133, k_X5_rate_134, k_X5_rate_135, k_X5_rate_138, k_X5_rate_140, k_X5_rate_143, k_X5_rate_144, k_X5_rate_145, k_X5_rate_148, k_X5_rate_150, k_X5_rate_153, k_X5_rate_154, k_X5_rate_155, k_X5_rate_158, k_X5_rate_159, k_X5_rate_161, k_X5_rate_162, k_X5_rate_165, k_X5_rate_166, k_X5_rate_167, k_X5_rate_170, k_X5_rate_172, k_X5_rate_173, k_X5_rate_174, k_X5_rate_177, k_X5_rate_179, k_X5_rate_180, k_X5_rate_183, k_X5_rate_186, k_X5_rate_187, wp1, wp_s, cutIn, kont, Nat.reduceSub, Nat.reduceAdd, nth, o_const, o_lconst, o_ref, o_iload, o_lload, o_aload, o_istore, o_lstore, o_astore, o_iinc, o_bin, o_div, o_un, o_lbin, o_lsh, o_lcmp, o_i2l, o_l2i, o_if, o_icmp, o_goto, o_dup, o_dup2, o_pop, fav, o_getf, o_putI, o_putZ, o_putL, o_ald, o_ast, o_alen, popn, rst, o_callV, o_callT, o_callS, swx, o_sw, o_ret, o_iret, o_zret, o_cret, o_lret, o_aret, lg, lput, lput2, ls1, isL, entL, wsum, rdI1, rdI2, rdA1, rdA21, rdA22, rdL1, rdL22, rdL21, upN_at, rep, sh_0, F_0_0, F_0_1, F_0_2, F_0_3, F_0_4, F_0_5, F_0_6, F_0_7, F_0_8, sh_1, F_1_0, F_1_1, F_1_2, F_1_3, F_1_4, F_1_5, sh_3, F_3_0, F_3_1, F_3_2, F_3_3, F_3_4, F_3_5, sh_5, F_5_0, F_5_1, F_5_2, F_5_3, F_5_4, F_5_5, F_5_6, F_5_7, F_5_8, sh_12, F_12_0, F_12_1, F_12_2, F_12_3, F_12_4, F_12_5, sh_14, F_14_0, F_14_1, F_14_2, F_14_3, F_14_4, F_14_5, F_14_6, F_14_7, F_14_8, sh_21, F_21_0, F_21_1, F_21_2, F_21_3, F_21_4, F_21_5, F_21_6, F_21_7, F_21_8, sh_28, F_28_0, F_28_1, F_28_2, F_28_3, F_28_4, F_28_5, F_28_6, F_28_7, F_28_8, sh_35, F_35_0, sh_39, F_39_0, F_39_1, F_39_2, F_39_3, F_39_4, F_39_5, F_39_6, F_39_7, F_39_8, F_39_9, F_39_10, F_39_11, F_39_12, F_39_13, A_2, A_4, A_6, A_7, A_8, A_9, A_10, A_11, A_13, A_15, A_16, A_17, A_18, A_19, A_20, A_22, A_23, A_24, A_25, A_26, A_27, A_29, A_30, A_31, A_32, A_33, A_34, A_36, A_37, A_38, A_40, A_41, A_42, A_43, A_44, A_45, A_46, A_47]
    refine ⟨fun q => absurd q (by decide), fun _ => ⟨x, n, c, p, r, h0, lk, rfl, hX0, fun w2 => ?_, fun w2 => ?_⟩⟩
    · obtain ⟨q, rfl, hq⟩ := rg (by omega) w2
      have h3 := h2 k q rfl (by omega) rfl hq
      have hq4 : 2 ^ q < 2 ^ 31 := Nat.pow_lt_pow_right (by omega) (by omega)
      clear h2 h1
      have hkb := kB_lt h0 hn8 (nI q)
      have hbl : bx h0 n < 256 := kB_lt h0 hn8 (-4)
      have hol := opn_lt r n lk hc6 (kB h0 n (nI q))
      have hxl := xr_lt (f := r) (T := kB h0 n (nI q)) n (fun k hk => (hr k hk).2)
      have hkk : k = 0 ∨ k = 1 ∨ k = 2 ∨ k = 3 ∨ k = 4 ∨ k = 5 := by omega
      dsimp only [k_X5_rate_0, k_X5_rate_1, k_X5_rate_2, k_X5_rate_3, k_X5_rate_6, k_X5_rate_9, k_X5_rate_10, k_X5_rate_11, k_X5_rate_14, k_X5_rate_17, k_X5_rate_19, k_X5_rate_20, k_X5_rate_21, k_X5_rate_22, k_X5_rate_25, k_X5_rate_26, k_X5_rate_29, k_X5_rate_30, k_X5_rate_33, k_X5_rate_34, k_X5_rate_35, k_X5_rate_38, k_X5_rate_41, k_X5_rate_44, k_X5_rate_45, k_X5_rate_46, k_X5_rate_49, k_X5_rate_52, k_X5_rate_55, k_X5_rate_56, k_X5_rate_57, k_X5_rate_60, k_X5_rate_63, k_X5_rate_66, k_X5_rate_67, k_X5_rate_68, k_X5_rate_71, k_X5_rate_74, k_X5_rate_77, k_X5_rate_80, k_X5_rate_81, k_X5_rate_84, k_X5_rate_85, k_X5_rate_86, k_X5_rate_87, k_X5_rate_88, k_X5_rate_91, k_X5_rate_92, k_X5_rate_93, k_X5_rate_96, k_X5_rate_98, k_X5_rate_100, k_X5_rate_101, k_X5_rate_102, k_X5_rate_105, k_X5_rate_108, k_X5_rate_109, k_X5_rate_111, k_X5_rate_113, k_X5_rate_114, k_X5_rate_115, k_X5_rate_118, k_X5_rate_121, k_X5_rate_122, k_X5_rate_124, k_X5_rate_125, k_X5_rate_128, k_X5_rate_130, k_X5_rate_133, k_X5_rate_134, k_X5_rate_135, k_X5_rate_138, k_X5_rate_140, k_X5_rate_143, k_X5_rate_144, k_X5_rate_145, k_X5_rate_148, k_X5_rate_150, k_X5_rate_153, k_X5_rate_154, k_X5_rate_155, k_X5_rate_158, k_X5_rate_159, k_X5_rate_161, k_X5_rate_162, k_X5_rate_165, k_X5_rate_166, k_X5_rate_167, k_X5_rate_170, k_X5_rate_172, k_X5_rate_173, k_X5_rate_174, k_X5_rate_177, k_X5_rate_179, k_X5_rate_180, k_X5_rate_183, k_X5_rate_186, k_X5_rate_187, wp1, wp_s, cutIn, kont, Nat.reduceSub, Nat.reduceAdd, nth, o_const, o_lconst, o_ref, o_iload, o_lload, o_aload, o_istore, o_lstore, o_astore, o_iinc, o_bin, o_div, o_un, o_lbin, o_lsh, o_lcmp, o_i2l, o_l2i, o_if, o_icmp, o_goto, o_dup, o_dup2, o_pop, fav, o_getf, o_putI, o_putZ, o_putL, o_ald, o_ast, o_alen, popn, rst, o_callV, o_callT, o_callS, swx, o_sw, o_ret, o_iret, o_zret, o_cret, o_lret, o_aret, lg, lput, lput2, ls1, isL, entL, wsum, rdI1, rdI2, rdA1, rdA21, rdA22, rdL1, rdL22, rdL21, upN_at, rep, sh_0, F_0_0, F_0_1, F_0_2, F_0_3, F_0_4, F_0_5, F_0_6, F_0_7, F_0_8, sh_1, F_1_0, F_1_1, F_1_2, F_1_3, F_1_4, F_1_5, sh_3, F_3_0, F_3_1, F_3_2, F_3_3, F_3_4, F_3_5, sh_5, F_5_0, F_5_1, F_5_2, F_5_3, F_5_4, F_5_5, F_5_6, F_5_7, F_5_8, sh_12, F_12_0, F_12_1, F_12_2, F_12_3, F_12_4, F_12_5, sh_14, F_14_0, F_14_1, F_14_2, F_14_3, F_14_4, F_14_5, F_14_6, F_14_7, F_14_8, sh_21, F_21_0, F_21_1, F_21_2, F_21_3, F_21_4, F_21_5, F_21_6, F_21_7, F_21_8, sh_28, F_28_0, F_28_1, F_28_2, F_28_3, F_28_4, F_28_5, F_28_6, F_28_7, F_28_8, sh_35, F_35_0, sh_39, F_39_0, F_39_1, F_39_2, F_39_3, F_39_4, F_39_5, F_39_6, F_39_7, F_39_8, F_39_9, F_39_10, F_39_11, F_39_12, F_39_13, A_2, A_4, A_6, A_7, A_8, A_9, A_10, A_11, A_13, A_15, A_16, A_17, A_18, A_19, A_20, A_22, A_23, A_24, A_25, A_26, A_27, A_29, A_30, A_31, A_32, A_33, A_34, A_36, A_37, A_38, A_40, A_41, A_42, A_43, A_44, A_45, A_46, A_47]
      rcases hkk with rfl | rfl | rfl | rfl | rfl | rfl
      all_goals
        simp (config := { decide := true }) only [true_implies, false_implies, and_true, true_and, not_true_eq_false, not_false_eq_true, forall_const]
        rw [one_shl (by omega)]
        refine ⟨2 ^ q, n, c, p, r, h0, lk, rfl, MW_of hX0 rfl rfl, hH, hq4, ?_⟩
        rw [hd_1 hq hp4]
        dsimp only [k_X5_rate_0, k_X5_rate_1, k_X5_rate_2, k_X5_rate_3, k_X5_rate_6, k_X5_rate_9, k_X5_rate_10, k_X5_rate_11, k_X5_rate_14, k_X5_rate_17, k_X5_rate_19, k_X5_rate_20, k_X5_rate_21, k_X5_rate_22, k_X5_rate_25, k_X5_rate_26, k_X5_rate_29, k_X5_rate_30, k_X5_rate_33, k_X5_rate_34, k_X5_rate_35, k_X5_rate_38, k_X5_rate_41, k_X5_rate_44, k_X5_rate_45, k_X5_rate_46, k_X5_rate_49, k_X5_rate_52, k_X5_rate_55, k_X5_rate_56, k_X5_rate_57, k_X5_rate_60, k_X5_rate_63, k_X5_rate_66, k_X5_rate_67, k_X5_rate_68, k_X5_rate_71, k_X5_rate_74, k_X5_rate_77, k_X5_rate_80, k_X5_rate_81, k_X5_rate_84, k_X5_rate_85, k_X5_rate_86, k_X5_rate_87, k_X5_rate_88, k_X5_rate_91, k_X5_rate_92, k_X5_rate_93, k_X5_rate_96, k_X5_rate_98, k_X5_rate_100, k_X5_rate_101, k_X5_rate_102, k_X5_rate_105, k_X5_rate_108, k_X5_rate_109, k_X5_rate_111, k_X5_rate_113, k_X5_rate_114, k_X5_rate_115, k_X5_rate_118, k_X5_rate_121, k_X5_rate_122, k_X5_rate_124, k_X5_rate_125, k_X5_rate_128, k_X5_rate_130, k_X5_rate_133, k_X5_rate_134, k_X5_rate_135, k_X5_rate_138, k_X5_rate_140, k_X5_rate_143, k_X5_rate_144, k_X5_rate_145, k_X5_rate_148, k_X5_rate_150, k_X5_rate_153, k_X5_rate_154, k_X5_rate_155, k_X5_rate_158, k_X5_rate_159, k_X5_rate_161, k_X5_rate_162, k_X5_rate_165, k_X5_rate_166, k_X5_rate_167, k_X5_rate_170, k_X5_rate_172, k_X5_rate_173, k_X5_rate_174, k_X5_rate_177, k_X5_rate_179, k_X5_rate_180, k_X5_rate_183, k_X5_rate_186, k_X5_rate_187, wp1, wp_s, cutIn, kont, Nat.reduceSub, Nat.reduceAdd, nth, o_const, o_lconst, o_ref, o_iload, o_lload, o_aload, o_istore, o_lstore, o_astore, o_iinc, o_bin, o_div, o_un, o_lbin, o_lsh, o_lcmp, o_i2l, o_l2i, o_if, o_icmp, o_goto, o_dup, o_dup2, o_pop, fav, o_getf, o_putI, o_putZ, o_putL, o_ald, o_ast, o_alen, popn, rst, o_callV, o_callT, o_callS, swx, o_sw, o_ret, o_iret, o_zret, o_cret, o_lret, o_aret, lg, lput, lput2, ls1, isL, entL, wsum, rdI1, rdI2, rdA1, rdA21, rdA22, rdL1, rdL22, rdL21, upN_at, rep, sh_0, F_0_0, F_0_1, F_0_2, F_0_3, F_0_4, F_0_5, F_0_6, F_0_7, F_0_8, sh_1, F_1_0, F_1_1, F_1_2, F_1_3, F_1_4, F_1_5, sh_3, F_3_0, F_3_1, F_3_2, F_3_3, F_3_4, F_3_5, sh_5, F_5_0, F_5_1, F_5_2, F_5_3, F_5_4, F_5_5, F_5_6, F_5_7, F_5_8, sh_12, F_12_0, F_12_1, F_12_2, F_12_3, F_12_4, F_12_5, sh_14, F_14_0, F_14_1, F_14_2, F_14_3, F_14_4, F_14_5, F_14_6, F_14_7, F_14_8, sh_21, F_21_0, F_21_1, F_21_2, F_21_3, F_21_4, F_21_5, F_21_6, F_21_7, F_21_8, sh_28, F_28_0, F_28_1, F_28_2, F_28_3, F_28_4, F_28_5, F_28_6, F_28_7, F_28_8, sh_35, F_35_0, sh_39, F_39_0, F_39_1, F_39_2, F_39_3, F_39_4, F_39_5, F_39_6, F_39_7, F_39_8, F_39_9, F_39_10, F_39_11, F_39_12, F_39_13, A_2, A_4, A_6, A_7, A_8, A_9, A_10, A_11, A_13, A_15, A_16, A_17, A_18, A_19, A_20, A_22, A_23, A_24, A_25, A_26, A_27, A_29, A_30, A_31, A_32, A_33, A_34, A_36, A_37, A_38, A_40, A_41, A_42, A_43, A_44, A_45, A_46, A_47]
        refine ⟨_, rfl, by omega, ?_⟩
        dsimp only [k_X5_rate_0, k_X5_rate_1, k_X5_rate_2, k_X5_rate_3, k_X5_rate_6, k_X5_rate_9, k_X5_rate_10, k_X5_rate_11, k_X5_rate_14, k_X5_rate_17, k_X5_rate_19, k_X5_rate_20, k_X5_rate_21, k_X5_rate_22, k_X5_rate_25, k_X5_rate_26, k_X5_rate_29, k_X5_rate_30, k_X5_rate_33, k_X5_rate_34, k_X5_rate_35, k_X5_rate_38, k_X5_rate_41, k_X5_rate_44, k_X5_rate_45, k_X5_rate_46, k_X5_rate_49, k_X5_rate_52, k_X5_rate_55, k_X5_rate_56, k_X5_rate_57, k_X5_rate_60, k_X5_rate_63, k_X5_rate_66, k_X5_rate_67, k_X5_rate_68, k_X5_rate_71, k_X5_rate_74, k_X5_rate_77, k_X5_rate_80, k_X5_rate_81, k_X5_rate_84, k_X5_rate_85, k_X5_rate_86, k_X5_rate_87, k_X5_rate_88, k_X5_rate_91, k_X5_rate_92, k_X5_rate_93, k_X5_rate_96, k_X5_rate_98, k_X5_rate_100, k_X5_rate_101, k_X5_rate_102, k_X5_rate_105, k_X5_rate_108, k_X5_rate_109, k_X5_rate_111, k_X5_rate_113, k_X5_rate_114, k_X5_rate_115, k_X5_rate_118, k_X5_rate_121, k_X5_rate_122, k_X5_rate_124, k_X5_rate_125, k_X5_rate_128, k_X5_rate_130, k_X5_rate_133, k_X5_rate_134, k_X5_rate_135, k_X5_rate_138, k_X5_rate_140, k_X5_rate_143, k_X5_rate_144, k_X5_rate_145, k_X5_rate_148, k_X5_rate_150, k_X5_rate_153, k_X5_rate_154, k_X5_rate_155, k_X5_rate_158, k_X5_rate_159, k_X5_rate_161, k_X5_rate_162, k_X5_rate_165, k_X5_rate_166, k_X5_rate_167, k_X5_rate_170, k_X5_rate_172, k_X5_rate_173, k_X5_rate_174, k_X5_rate_177, k_X5_rate_179, k_X5_rate_180, k_X5_rate_183, k_X5_rate_186, k_X5_rate_187, wp1, wp_s, cutIn, kont, Nat.reduceSub, Nat.reduceAdd, nth, o_const, o_lconst, o_ref, o_iload, o_lload, o_aload, o_istore, o_lstore, o_astore, o_iinc, o_bin, o_div, o_un, o_lbin, o_lsh, o_lcmp, o_i2l, o_l2i, o_if, o_icmp, o_goto, o_dup, o_dup2, o_pop, fav, o_getf, o_putI, o_putZ, o_putL, o_ald, o_ast, o_alen, popn, rst, o_callV, o_callT, o_callS, swx, o_sw, o_ret, o_iret, o_zret, o_cret, o_lret, o_aret, lg, lput, lput2, ls1, isL, entL, wsum, rdI1, rdI2, rdA1, rdA21, rdA22, rdL1, rdL22, rdL21, upN_at, rep, sh_0, F_0_0, F_0_1, F_0_2, F_0_3, F_0_4, F_0_5, F_0_6, F_0_7, F_0_8, sh_1, F_1_0, F_1_1, F_1_2, F_1_3, F_1_4, F_1_5, sh_3, F_3_0, F_3_1, F_3_2, F_3_3, F_3_4, F_3_5, sh_5, F_5_0, F_5_1, F_5_2, F_5_3, F_5_4, F_5_5, F_5_6, F_5_7, F_5_8, sh_12, F_12_0, F_12_1, F_12_2, F_12_3, F_12_4, F_12_5, sh_14, F_14_0, F_14_1, F_14_2, F_14_3, F_14_4, F_14_5, F_14_6, F_14_7, F_14_8, sh_21, F_21_0, F_21_1, F_21_2, F_21_3, F_21_4, F_21_5, F_21_6, F_21_7, F_21_8, sh_28, F_28_0, F_28_1, F_28_2, F_28_3, F_28_4, F_28_5, F_28_6, F_28_7, F_28_8, sh_35, F_35_0, sh_39, F_39_0, F_39_1, F_39_2, F_39_3, F_39_4, F_39_5, F_39_6, F_39_7, F_39_8, F_39_9, F_39_10, F_39_11, F_39_12, F_39_13, A_2, A_4, A_6, A_7, A_8, A_9, A_10, A_11, A_13, A_15, A_16, A_17, A_18, A_19, A_20, A_22, A_23, A_24, A_25, A_26, A_27, A_29, A_30, A_31, A_32, A_33, A_34, A_36, A_37, A_38, A_40, A_41, A_42, A_43, A_44, A_45, A_46, A_47]
        refine ⟨_, n, c, p, r, h0, lk, rfl, mk_lt _ n, MW_of hX0 rfl rfl, fun f => ?_⟩
        dsimp only [k_X5_rate_0, k_X5_rate_1, k_X5_rate_2, k_X5_rate_3, k_X5_rate_6, k_X5_rate_9, k_X5_rate_10, k_X5_rate_11, k_X5_rate_14, k_X5_rate_17, k_X5_rate_19, k_X5_rate_20, k_X5_rate_21, k_X5_rate_22, k_X5_rate_25, k_X5_rate_26, k_X5_rate_29, k_X5_rate_30, k_X5_rate_33, k_X5_rate_34, k_X5_rate_35, k_X5_rate_38, k_X5_rate_41, k_X5_rate_44, k_X5_rate_45, k_X5_rate_46, k_X5_rate_49, k_X5_rate_52, k_X5_rate_55, k_X5_rate_56, k_X5_rate_57, k_X5_rate_60, k_X5_rate_63, k_X5_rate_66, k_X5_rate_67, k_X5_rate_68, k_X5_rate_71, k_X5_rate_74, k_X5_rate_77, k_X5_rate_80, k_X5_rate_81, k_X5_rate_84, k_X5_rate_85, k_X5_rate_86, k_X5_rate_87, k_X5_rate_88, k_X5_rate_91, k_X5_rate_92, k_X5_rate_93, k_X5_rate_96, k_X5_rate_98, k_X5_rate_100, k_X5_rate_101, k_X5_rate_102, k_X5_rate_105, k_X5_rate_108, k_X5_rate_109, k_X5_rate_111, k_X5_rate_113, k_X5_rate_114, k_X5_rate_115, k_X5_rate_118, k_X5_rate_121, k_X5_rate_122, k_X5_rate_124, k_X5_rate_125, k_X5_rate_128, k_X5_rate_130, k_X5_rate_133, k_X5_rate_134, k_X5_rate_135, k_X5_rate_138, k_X5_rate_140, k_X5_rate_143, k_X5_rate_144, k_X5_rate_145, k_X5_rate_148, k_X5_rate_150, k_X5_rate_153, k_X5_rate_154, k_X5_rate_155, k_X5_rate_158, k_X5_rate_159, k_X5_rate_161, k_X5_rate_162, k_X5_rate_165, k_X5_rate_166, k_X5_rate_167, k_X5_rate_170, k_X5_rate_172, k_X5_rate_173, k_X5_rate_174, k_X5_rate_177, k_X5_rate_179, k_X5_rate_180, k_X5_rate_183, k_X5_rate_186, k_X5_rate_187, wp1, wp_s, cutIn, kont, Nat.reduceSub, Nat.reduceAdd, nth, o_const, o_lconst, o_ref, o_iload, o_lload, o_aload, o_istore, o_lstore, o_astore, o_iinc, o_bin, o_div, o_un, o_lbin, o_lsh, o_lcmp, o_i2l, o_l2i, o_if, o_icmp, o_goto, o_dup, o_dup2, o_pop, fav, o_getf, o_putI, o_putZ, o_putL, o_ald, o_ast, o_alen, popn, rst, o_callV, o_callT, o_callS, swx, o_sw, o_ret, o_iret, o_zret, o_cret, o_lret, o_aret, lg, lput, lput2, ls1, isL, entL, wsum, rdI1, rdI2, rdA1, rdA21, rdA22, rdL1, rdL22, rdL21, upN_at, rep, sh_0, F_0_0, F_0_1, F_0_2, F_0_3, F_0_4, F_0_5, F_0_6, F_0_7, F_0_8, sh_1, F_1_0, F_1_1, F_1_2, F_1_3, F_1_4, F_1_5, sh_3, F_3_0, F_3_1, F_3_2, F_3_3, F_3_4, F_3_5, sh_5, F_5_0, F_5_1, F_5_2, F_5_3, F_5_4, F_5_5, F_5_6, F_5_7, F_5_8, sh_12, F_12_0, F_12_1, F_12_2, F_12_3, F_12_4, F_12_5, sh_14, F_14_0, F_14_1, F_14_2, F_14_3, F_14_4, F_14_5, F_14_6, F_14_7, F_14_8, sh_21, F_21_0, F_21_1, F_21_2, F_21_3, F_21_4, F_21_5, F_21_6, F_21_7, F_21_8, sh_28, F_28_0, F_28_1, F_28_2, F_28_3, F_28_4, F_28_5, F_28_6, F_28_7, F_28_8, sh_35, F_35_0, sh_39, F_39_0, F_39_1, F_39_2, F_39_3, F_39_4, F_39_5, F_39_6, F_39_7, F_39_8, F_39_9, F_39_10, F_39_11, F_39_12, F_39_13, A_2, A_4, A_6, A_7, A_8, A_9, A_10, A_11, A_13, A_15, A_16, A_17, A_18, A_19, A_20, A_22, A_23, A_24, A_25, A_26, A_27, A_29, A_30, A_31, A_32, A_33, A_34, A_36, A_37, A_38, A_40, A_41, A_42, A_43, A_44, A_45, A_46, A_47]
        refine ⟨_, rfl, by omega, ?_⟩
        dsimp only [k_X5_rate_0, k_X5_rate_1, k_X5_rate_2, k_X5_rate_3, k_X5_rate_6, k_X5_rate_9, k_X5_rate_10, k_X5_rate_11, k_X5_rate_14, k_X5_rate_17, k_X5_rate_19, k_X5_rate_20, k_X5_rate_21, k_X5_rate_22, k_X5_rate_25, k_X5_rate_26, k_X5_rate_29, k_X5_rate_30, k_X5_rate_33, k_X5_rate_34, k_X5_rate_35, k_X5_rate_38, k_X5_rate_41, k_X5_rate_44, k_X5_rate_45, k_X5_rate_46, k_X5_rate_49, k_X5_rate_52, k_X5_rate_55, k_X5_rate_56, k_X5_rate_57, k_X5_rate_60, k_X5_rate_63, k_X5_rate_66, k_X5_rate_67, k_X5_rate_68, k_X5_rate_71, k_X5_rate_74, k_X5_rate_77, k_X5_rate_80, k_X5_rate_81, k_X5_rate_84, k_X5_rate_85, k_X5_rate_86, k_X5_rate_87, k_X5_rate_88, k_X5_rate_91, k_X5_rate_92, k_X5_rate_93, k_X5_rate_96, k_X5_rate_98, k_X5_rate_100, k_X5_rate_101, k_X5_rate_102, k_X5_rate_105, k_X5_rate_108, k_X5_rate_109, k_X5_rate_111, k_X5_rate_113, k_X5_rate_114, k_X5_rate_115, k_X5_rate_118, k_X5_rate_121, k_X5_rate_122, k_X5_rate_124, k_X5_rate_125, k_X5_rate_128, k_X5_rate_130, k_X5_rate_133, k_X5_rate_134, k_X5_rate_135, k_X5_rate_138, k_X5_rate_140, k_X5_rate_143, k_X5_rate_144, k_X5_rate_145, k_X5_rate_148, k_X5_rate_150, k_X5_rate_153, k_X5_rate_154, k_X5_rate_155, k_X5_rate_158, k_X5_rate_159, k_X5_rate_161, k_X5_rate_162, k_X5_rate_165, k_X5_rate_166, k_X5_rate_167, k_X5_rate_170, k_X5_rate_172, k_X5_rate_173, k_X5_rate_174, k_X5_rate_177, k_X5_rate_179, k_X5_rate_180, k_X5_rate_183, k_X5_rate_186, k_X5_rate_187, wp1, wp_s, cutIn, kont, Nat.reduceSub, Nat.reduceAdd, nth, o_const, o_lconst, o_ref, o_iload, o_lload, o_aload, o_istore, o_lstore, o_astore, o_iinc, o_bin, o_div, o_un, o_lbin, o_lsh, o_lcmp, o_i2l, o_l2i, o_if, o_icmp, o_goto, o_dup, o_dup2, o_pop, fav, o_getf, o_putI, o_putZ, o_putL, o_ald, o_ast, o_alen, popn, rst, o_callV, o_callT, o_callS, swx, o_sw, o_ret, o_iret, o_zret, o_cret, o_lret, o_aret, lg, lput, lput2, ls1, isL, entL, wsum, rdI1, rdI2, rdA1, rdA21, rdA22, rdL1, rdL22, rdL21, upN_at, rep, sh_0, F_0_0, F_0_1, F_0_2, F_0_3, F_0_4, F_0_5, F_0_6, F_0_7, F_0_8, sh_1, F_1_0, F_1_1, F_1_2, F_1_3, F_1_4, F_1_5, sh_3, F_3_0, F_3_1, F_3_2, F_3_3, F_3_4, F_3_5, sh_5, F_5_0, F_5_1, F_5_2, F_5_3, F_5_4, F_5_5, F_5_6, F_5_7, F_5_8, sh_12, F_12_0, F_12_1, F_12_2, F_12_3, F_12_4, F_12_5, sh_14, F_14_0, F_14_1, F_14_2, F_14_3, F_14_4, F_14_5, F_14_6, F_14_7, F_14_8, sh_21, F_21_0, F_21_1, F_21_2, F_21_3, F_21_4, F_21_5, F_21_6, F_21_7, F_21_8, sh_28, F_28_0, F_28_1, F_28_2, F_28_3, F_28_4, F_28_5, F_28_6, F_28_7, F_28_8, sh_35, F_35_0, sh_39, F_39_0, F_39_1, F_39_2, F_39_3, F_39_4, F_39_5, F_39_6, F_39_7, F_39_8, F_39_9, F_39_10, F_39_11, F_39_12, F_39_13, A_2, A_4, A_6, A_7, A_8, A_9, A_10, A_11, A_13, A_15, A_16, A_17, A_18, A_19, A_20, A_22, A_23, A_24, A_25, A_26, A_27, A_29, A_30, A_31, A_32, A_33, A_34, A_36, A_37, A_38, A_40, A_41, A_42, A_43, A_44, A_45, A_46, A_47]
        refine ⟨_, n, c, p, r, h0, lk, rfl, mk_lt _ n, MW_36 (MW_of hX0 rfl rfl) f, ?_⟩
        dsimp only [k_X5_rate_0, k_X5_rate_1, k_X5_rate_2, k_X5_rate_3, k_X5_rate_6, k_X5_rate_9, k_X5_rate_10, k_X5_rate_11, k_X5_rate_14, k_X5_rate_17, k_X5_rate_19, k_X5_rate_20, k_X5_rate_21, k_X5_rate_22, k_X5_rate_25, k_X5_rate_26, k_X5_rate_29, k_X5_rate_30, k_X5_rate_33, k_X5_rate_34, k_X5_rate_35, k_X5_rate_38, k_X5_rate_41, k_X5_rate_44, k_X5_rate_45, k_X5_rate_46, k_X5_rate_49, k_X5_rate_52, k_X5_rate_55, k_X5_rate_56, k_X5_rate_57, k_X5_rate_60, k_X5_rate_63, k_X5_rate_66, k_X5_rate_67, k_X5_rate_68, k_X5_rate_71, k_X5_rate_74, k_X5_rate_77, k_X5_rate_80, k_X5_rate_81, k_X5_rate_84, k_X5_rate_85, k_X5_rate_86, k_X5_rate_87, k_X5_rate_88, k_X5_rate_91, k_X5_rate_92, k_X5_rate_93, k_X5_rate_96, k_X5_rate_98, k_X5_rate_100, k_X5_rate_101, k_X5_rate_102, k_X5_rate_105, k_X5_rate_108, k_X5_rate_109, k_X5_rate_111, k_X5_rate_113, k_X5_rate_114, k_X5_rate_115, k_X5_rate_118, k_X5_rate_121, k_X5_rate_122, k_X5_rate_124, k_X5_rate_125, k_X5_rate_128, k_X5_rate_130, k_X5_rate_133, k_X5_rate_134, k_X5_rate_135, k_X5_rate_138, k_X5_rate_140, k_X5_rate_143, k_X5_rate_144, k_X5_rate_145, k_X5_rate_148, k_X5_rate_150, k_X5_rate_153, k_X5_rate_154, k_X5_rate_155, k_X5_rate_158, k_X5_rate_159, k_X5_rate_161, k_X5_rate_162, k_X5_rate_165, k_X5_rate_166, k_X5_rate_167, k_X5_rate_170, k_X5_rate_172, k_X5_rate_173, k_X5_rate_174, k_X5_rate_177, k_X5_rate_179, k_X5_rate_180, k_X5_rate_183, k_X5_rate_186, k_X5_rate_187, wp1, wp_s, cutIn, kont, Nat.reduceSub, Nat.reduceAdd, nth, o_const, o_lconst, o_ref, o_iload, o_lload, o_aload, o_istore, o_lstore, o_astore, o_iinc, o_bin, o_div, o_un, o_lbin, o_lsh, o_lcmp, o_i2l, o_l2i, o_if, o_icmp, o_goto, o_dup, o_dup2, o_pop, fav, o_getf, o_putI, o_putZ, o_putL, o_ald, o_ast, o_alen, popn, rst, o_callV, o_callT, o_callS, swx, o_sw, o_ret, o_iret, o_zret, o_cret, o_lret, o_aret, lg, lput, lput2, ls1, isL, entL, wsum, rdI1, rdI2, rdA1, rdA21, rdA22, rdL1, rdL22, rdL21, upN_at, rep, sh_0, F_0_0, F_0_1, F_0_2, F_0_3, F_0_4, F_0_5, F_0_6, F_0_7, F_0_8, sh_1, F_1_0, F_1_1, F_1_2, F_1_3, F_1_4, F_1_5, sh_3, F_3_0, F_3_1, F_3_2, F_3_3, F_3_4, F_3_5, sh_5, F_5_0, F_5_1, F_5_2, F_5_3, F_5_4, F_5_5, F_5_6, F_5_7, F_5_8, sh_12, F_12_0, F_12_1, F_12_2, F_12_3, F_12_4, F_12_5, sh_14, F_14_0, F_14_1, F_14_2, F_14_3, F_14_4, F_14_5, F_14_6, F_14_7, F_14_8, sh_21, F_21_0, F_21_1, F_21_2, F_21_3, F_21_4, F_21_5, F_21_6, F_21_7, F_21_8, sh_28, F_28_0, F_28_1, F_28_2, F_28_3, F_28_4, F_28_5, F_28_6, F_28_7, F_28_8, sh_35, F_35_0, sh_39, F_39_0, F_39_1, F_39_2, F_39_3, F_39_4, F_39_5, F_39_6, F_39_7, F_39_8, F_39_9, F_39_10, F_39_11, F_39_12, F_39_13, A_2, A_4, A_6, A_7, A_8, A_9, A_10, A_11, A_13, A_15, A_16, A_17, A_18, A_19, A_20, A_22, A_23, A_24, A_25, A_26, A_27, A_29, A_30, A_31, A_32, A_33, A_34, A_36, A_37, A_38, A_40, A_41, A_42, A_43, A_44, A_45, A_46, A_47]
        refine ⟨_, rfl, by omega, ?_⟩
        dsimp only [k_X5_rate_0, k_X5_rate_1, k_X5_rate_2, k_X5_rate_3, k_X5_rate_6, k_X5_rate_9, k_X5_rate_10, k_X5_rate_11, k_X5_rate_14, k_X5_rate_17, k_X5_rate_19, k_X5_rate_20, k_X5_rate_21, k_X5_rate_22, k_X5_rate_25, k_X5_rate_26, k_X5_rate_29, k_X5_rate_30, k_X5_rate_33, k_X5_rate_34, k_X5_rate_35, k_X5_rate_38, k_X5_rate_41, k_X5_rate_44, k_X5_rate_45, k_X5_rate_46, k_X5_rate_49, k_X5_rate_52, k_X5_rate_55, k_X5_rate_56, k_X5_rate_57, k_X5_rate_60, k_X5_rate_63, k_X5_rate_66, k_X5_rate_67, k_X5_rate_68, k_X5_rate_71, k_X5_rate_74, k_X5_rate_77, k_X5_rate_80, k_X5_rate_81, k_X5_rate_84, k_X5_rate_85, k_X5_rate_86, k_X5_rate_87, k_X5_rate_88, k_X5_rate_91, k_X5_rate_92, k_X5_rate_93, k_X5_rate_96, k_X5_rate_98, k_X5_rate_100, k_X5_rate_101, k_X5_rate_102, k_X5_rate_105, k_X5_rate_108, k_X5_rate_109, k_X5_rate_111, k_X5_rate_113, k_X5_rate_114, k_X5_rate_115, k_X5_rate_118, k_X5_rate_121, k_X5_rate_122, k_X5_rate_124, k_X5_rate_125, k_X5_rate_128, k_X5_rate_130, k_X5_rate_133, k_X5_rate_134, k_X5_rate_135, k_X5_rate_138, k_X5_rate_140, k_X5_rate_143, k_X5_rate_144, k_X5_rate_145, k_X5_rate_148, k_X5_rate_150, k_X5_rate_153, k_X5_rate_154, k_X5_rate_155, k_X5_rate_158, k_X5_rate_159, k_X5_rate_161, k_X5_rate_162, k_X5_rate_165, k_X5_rate_166, k_X5_rate_167, k_X5_rate_170, k_X5_rate_172, k_X5_rate_173, k_X5_rate_174, k_X5_rate_177, k_X5_rate_179, k_X5_rate_180, k_X5_rate_183, k_X5_rate_186, k_X5_rate_187, wp1, wp_s, cutIn, kont, Nat.reduceSub, Nat.reduceAdd, nth, o_const, o_lconst, o_ref, o_iload, o_lload, o_aload, o_istore, o_lstore, o_astore, o_iinc, o_bin, o_div, o_un, o_lbin, o_lsh, o_lcmp, o_i2l, o_l2i, o_if, o_icmp, o_goto, o_dup, o_dup2, o_pop, fav, o_getf, o_putI, o_putZ, o_putL, o_ald, o_ast, o_alen, popn, rst, o_callV, o_callT, o_callS, swx, o_sw, o_ret, o_iret, o_zret, o_cret, o_lret, o_aret, lg, lput, lput2, ls1, isL, entL, wsum, rdI1, rdI2, rdA1, rdA21, rdA22, rdL1, rdL22, rdL21, upN_at, rep, sh_0, F_0_0, F_0_1, F_0_2, F_0_3, F_0_4, F_0_5, F_0_6, F_0_7, F_0_8, sh_1, F_1_0, F_1_1, F_1_2, F_1_3, F_1_4, F_1_5, sh_3, F_3_0, F_3_1, F_3_2, F_3_3, F_3_4, F_3_5, sh_5, F_5_0, F_5_1, F_5_2, F_5_3, F_5_4, F_5_5, F_5_6, F_5_7, F_5_8, sh_12, F_12_0, F_12_1, F_12_2, F_12_3, F_12_4, F_12_5, sh_14, F_14_0, F_14_1, F_14_2, F_14_3, F_14_4, F_14_5, F_14_6, F_14_7, F_14_8, sh_21, F_21_0, F_21_1, F_21_2, F_21_3, F_21_4, F_21_5, F_21_6, F_21_7, F_21_8, sh_28, F_28_0, F_28_1, F_28_2, F_28_3, F_28_4, F_28_5, F_28_6, F_28_7, F_28_8, sh_35, F_35_0, sh_39, F_39_0, F_39_1, F_39_2, F_39_3, F_39_4, F_39_5, F_39_6, F_39_7, F_39_8, F_39_9, F_39_10, F_39_11, F_39_12, F_39_13, A_2, A_4, A_6, A_7, A_8, A_9, A_10, A_11, A_13, A_15, A_16, A_17, A_18, A_19, A_20, A_22, A_23, A_24, A_25, A_26, A_27, A_29, A_30, A_31, A_32, A_33, A_34, A_36, A_37, A_38, A_40, A_41, A_42, A_43, A_44, A_45, A_46, A_47]
        have h4 := h3 f
        simp (config := { decide := true }) only [true_implies, false_implies, and_true, true_and, not_true_eq_false, not_false_eq_true, forall_const]
      · exact h4
      · rw [rT_1] at h4; exact h4
      · rw [rT_2] at h4; exact h4
      · rw [rT_3] at h4; exact h4
      · rw [rT_4] at h4; exact h4
      · rw [rT_5] at h4
        refine ⟨n, c, p, r, h0, lk, rfl, MW_36 (MW_of hX0 rfl rfl) f, ?_⟩
        dsimp only [k_X5_rate_0, k_X5_rate_1, k_X5_rate_2, k_X5_rate_3, k_X5_rate_6, k_X5_rate_9, k_X5_rate_10, k_X5_rate_11, k_X5_rate_14, k_X5_rate_17, k_X5_rate_19, k_X5_rate_20, k_X5_rate_21, k_X5_rate_22, k_X5_rate_25, k_X5_rate_26, k_X5_rate_29, k_X5_rate_30, k_X5_rate_33, k_X5_rate_34, k_X5_rate_35, k_X5_rate_38, k_X5_rate_41, k_X5_rate_44, k_X5_rate_45, k_X5_rate_46, k_X5_rate_49, k_X5_rate_52, k_X5_rate_55, k_X5_rate_56, k_X5_rate_57, k_X5_rate_60, k_X5_rate_63, k_X5_rate_66, k_X5_rate_67, k_X5_rate_68, k_X5_rate_71, k_X5_rate_74, k_X5_rate_77, k_X5_rate_80, k_X5_rate_81, k_X5_rate_84, k_X5_rate_85, k_X5_rate_86, k_X5_rate_87, k_X5_rate_88, k_X5_rate_91, k_X5_rate_92, k_X5_rate_93, k_X5_rate_96, k_X5_rate_98, k_X5_rate_100, k_X5_rate_101, k_X5_rate_102, k_X5_rate_105, k_X5_rate_108, k_X5_rate_109, k_X5_rate_111, k_X5_rate_113, k_X5_rate_114, k_X5_rate_115, k_X5_rate_118, k_X5_rate_121, k_X5_rate_122, k_X5_rate_124, k_X5_rate_125, k_X5_rate_128, k_X5_rate_130, k_X5_rate_133, k_X5_rate_134, k_X5_rate_135, k_X5_rate_138, k_X5_rate_140, k_X5_rate_143, k_X5_rate_144, k_X5_rate_145, k_X5_rate_148, k_X5_rate_150, k_X5_rate_153, k_X5_rate_154, k_X5_rate_155, k_X5_rate_158, k_X5_rate_159, k_X5_rate_161, k_X5_rate_162, k_X5_rate_165, k_X5_rate_166, k_X5_rate_167, k_X5_rate_170, k_X5_rate_172, k_X5_rate_173, k_X5_rate_174, k_X5_rate_177, k_X5_rate_179, k_X5_rate_180, k_X5_rate_183, k_X5_rate_186, k_X5_rate_187, wp1, wp_s, cutIn, kont, Nat.reduceSub, Nat.reduceAdd, nth, o_const, o_lconst, o_ref, o_iload, o_lload, o_aload, o_istore, o_lstore, o_astore, o_iinc, o_bin, o_div, o_un, o_lbin, o_lsh, o_lcmp, o_i2l, o_l2i, o_if, o_icmp, o_goto, o_dup, o_dup2, o_pop, fav, o_getf, o_putI, o_putZ, o_putL, o_ald, o_ast, o_alen, popn, rst, o_callV, o_callT, o_callS, swx, o_sw, o_ret, o_iret, o_zret, o_cret, o_lret, o_aret, lg, lput, lput2, ls1, isL, entL, wsum, rdI1, rdI2, rdA1, rdA21, rdA22, rdL1, rdL22, rdL21, upN_at, rep, sh_0, F_0_0, F_0_1, F_0_2, F_0_3, F_0_4, F_0_5, F_0_6, F_0_7, F_0_8, sh_1, F_1_0, F_1_1, F_1_2, F_1_3, F_1_4, F_1_5, sh_3, F_3_0, F_3_1, F_3_2, F_3_3, F_3_4, F_3_5, sh_5, F_5_0, F_5_1, F_5_2, F_5_3, F_5_4, F_5_5, F_5_6, F_5_7, F_5_8, sh_12, F_12_0, F_12_1, F_12_2, F_12_3, F_12_4, F_12_5, sh_14, F_14_0, F_14_1, F_14_2, F_14_3, F_14_4, F_14_5, F_14_6, F_14_7, F_14_8, sh_21, F_21_0, F_21_1, F_21_2, F_21_3, F_21_4, F_21_5, F_21_6, F_21_7, F_21_8, sh_28, F_28_0, F_28_1, F_28_2, F_28_3, F_28_4, F_28_5, F_28_6, F_28_7, F_28_8, sh_35, F_35_0, sh_39, F_39_0, F_39_1, F_39_2, F_39_3, F_39_4, F_39_5, F_39_6, F_39_7, F_39_8, F_39_9, F_39_10, F_39_11, F_39_12, F_39_13, A_2, A_4, A_6, A_7, A_8, A_9, A_10, A_11, A_13, A_15, A_16, A_17, A_18, A_19, A_20, A_22, A_23, A_24, A_25, A_26, A_27, A_29, A_30, A_31, A_32, A_33, A_34, A_36, A_37, A_38, A_40, A_41, A_42, A_43, A_44, A_45, A_46, A_47]
        refine ⟨_, rfl, by omega, ?_⟩
        dsimp only [k_X5_rate_0, k_X5_rate_1, k_X5_rate_2, k_X5_rate_3, k_X5_rate_6, k_X5_rate_9, k_X5_rate_10, k_X5_rate_11, k_X5_rate_14, k_X5_rate_17, k_X5_rate_19, k_X5_rate_20, k_X5_rate_21, k_X5_rate_22, k_X5_rate_25, k_X5_rate_26, k_X5_rate_29, k_X5_rate_30, k_X5_rate_33, k_X5_rate_34, k_X5_rate_35, k_X5_rate_38, k_X5_rate_41, k_X5_rate_44, k_X5_rate_45, k_X5_rate_46, k_X5_rate_49, k_X5_rate_52, k_X5_rate_55, k_X5_rate_56, k_X5_rate_57, k_X5_rate_60, k_X5_rate_63, k_X5_rate_66, k_X5_rate_67, k_X5_rate_68, k_X5_rate_71, k_X5_rate_74, k_X5_rate_77, k_X5_rate_80, k_X5_rate_81, k_X5_rate_84, k_X5_rate_85, k_X5_rate_86, k_X5_rate_87, k_X5_rate_88, k_X5_rate_91, k_X5_rate_92, k_X5_rate_93, k_X5_rate_96, k_X5_rate_98, k_X5_rate_100, k_X5_rate_101, k_X5_rate_102, k_X5_rate_105, k_X5_rate_108, k_X5_rate_109, k_X5_rate_111, k_X5_rate_113, k_X5_rate_114, k_X5_rate_115, k_X5_rate_118, k_X5_rate_121, k_X5_rate_122, k_X5_rate_124, k_X5_rate_125, k_X5_rate_128, k_X5_rate_130, k_X5_rate_133, k_X5_rate_134, k_X5_rate_135, k_X5_rate_138, k_X5_rate_140, k_X5_rate_143, k_X5_rate_144, k_X5_rate_145, k_X5_rate_148, k_X5_rate_150, k_X5_rate_153, k_X5_rate_154, k_X5_rate_155, k_X5_rate_158, k_X5_rate_159, k_X5_rate_161, k_X5_rate_162, k_X5_rate_165, k_X5_rate_166, k_X5_rate_167, k_X5_rate_170, k_X5_rate_172, k_X5_rate_173, k_X5_rate_174, k_X5_rate_177, k_X5_rate_179, k_X5_rate_180, k_X5_rate_183, k_X5_rate_186, k_X5_rate_187, wp1, wp_s, cutIn, kont, Nat.reduceSub, Nat.reduceAdd, nth, o_const, o_lconst, o_ref, o_iload, o_lload, o_aload, o_istore, o_lstore, o_astore, o_iinc, o_bin, o_div, o_un, o_lbin, o_lsh, o_lcmp, o_i2l, o_l2i, o_if, o_icmp, o_goto, o_dup, o_dup2, o_pop, fav, o_getf, o_putI, o_putZ, o_putL, o_ald, o_ast, o_alen, popn, rst, o_callV, o_callT, o_callS, swx, o_sw, o_ret, o_iret, o_zret, o_cret, o_lret, o_aret, lg, lput, lput2, ls1, isL, entL, wsum, rdI1, rdI2, rdA1, rdA21, rdA22, rdL1, rdL22, rdL21, upN_at, rep, sh_0, F_0_0, F_0_1, F_0_2, F_0_3, F_0_4, F_0_5, F_0_6, F_0_7, F_0_8, sh_1, F_1_0, F_1_1, F_1_2, F_1_3, F_1_4, F_1_5, sh_3, F_3_0, F_3_1, F_3_2, F_3_3, F_3_4, F_3_5, sh_5, F_5_0, F_5_1, F_5_2, F_5_3, F_5_4, F_5_5, F_5_6, F_5_7, F_5_8, sh_12, F_12_0, F_12_1, F_12_2, F_12_3, F_12_4, F_12_5, sh_14, F_14_0, F_14_1, F_14_2, F_14_3, F_14_4, F_14_5, F_14_6, F_14_7, F_14_8, sh_21, F_21_0, F_21_1, F_21_2, F_21_3, F_21_4, F_21_5, F_21_6, F_21_7, F_21_8, sh_28, F_28_0, F_28_1, F_28_2, F_28_3, F_28_4, F_28_5, F_28_6, F_28_7, F_28_8, sh_35, F_35_0, sh_39, F_39_0, F_39_1, F_39_2, F_39_3, F_39_4, F_39_5, F_39_6, F_39_7, F_39_8, F_39_9, F_39_10, F_39_11, F_39_12, F_39_13, A_2, A_4, A_6, A_7, A_8, A_9, A_10, A_11, A_13, A_15, A_16, A_17, A_18, A_19, A_20, A_22, A_23, A_24, A_25, A_26, A_27, A_29, A_30, A_31, A_32, A_33, A_34, A_36, A_37, A_38, A_40, A_41, A_42, A_43, A_44, A_45, A_46, A_47]
        exact h4
    · dsimp only [k_X5_rate_0, k_X5_rate_1, k_X5_rate_2, k_X5_rate_3, k_X5_rate_6, k_X5_rate_9, k_X5_rate_10, k_X5_rate_11, k_X5_rate_14, k_X5_rate_17, k_X5_rate_19, k_X5_rate_20, k_X5_rate_21, k_X5_rate_22, k_X5_rate_25, k_X5_rate_26, k_X5_rate_29, k_X5_rate_30, k_X5_rate_33, k_X5_rate_34, k_X5_rate_35, k_X5_rate_38, k_X5_rate_41, k_X5_rate_44, k_X5_rate_45, k_X5_rate_46, k_X5_rate_49, k_X5_rate_52, k_X5_rate_55, k_X5_rate_56, k_X5_rate_57, k_X5_rate_60, k_X5_rate_63, k_X5_rate_66, k_X5_rate_67, k_X5_rate_68, k_X5_rate_71, k_X5_rate_74, k_X5_rate_77, k_X5_rate_80, k_X5_rate_81, k_X5_rate_84, k_X5_rate_85, k_X5_rate_86, k_X5_rate_87, k_X5_rate_88, k_X5_rate_91, k_X5_rate_92, k_X5_rate_93, k_X5_rate_96, k_X5_rate_98, k_X5_rate_100, k_X5_rate_101, k_X5_rate_102, k_X5_rate_105, k_X5_rate_108, k_X5_rate_109, k_X5_rate_111, k_X5_rate_113, k_X5_rate_114, k_X5_rate_115, k_X5_rate_118, k_X5_rate_121, k_X5_rate_122, k_X5_rate_124, k_X5_rate_125, k_X5_rate_128, k_X5_rate_130, k_X5_rate_133, k_X5_rate_134, k_X5_rate_135, k_X5_rate_138, k_X5_rate_140, k_X5_rate_143, k_X5_rate_144, k_X5_rate_145, k_X5_rate_148, k_X5_rate_150, k_X5_rate_153, k_X5_rate_154, k_X5_rate_155, k_X5_rate_158, k_X5_rate_159, k_X5_rate_161, k_X5_rate_162, k_X5_rate_165, k_X5_rate_166, k_X5_rate_167, k_X5_rate_170, k_X5_rate_172, k_X5_rate_173, k_X5_rate_174, k_X5_rate_177, k_X5_rate_179, k_X5_rate_180, k_X5_rate_183, k_X5_rate_186, k_X5_rate_187, wp1, wp_s, cutIn, kont, Nat.reduceSub, Nat.reduceAdd, nth, o_const, o_lconst, o_ref, o_iload, o_lload, o_aload, o_istore, o_lstore, o_astore, o_iinc, o_bin, o_div, o_un, o_lbin, o_lsh, o_lcmp, o_i2l, o_l2i, o_if, o_icmp, o_goto, o_dup, o_dup2, o_pop, fav, o_getf, o_putI, o_putZ, o_putL, o_ald, o_ast, o_alen, popn, rst, o_callV, o_callT, o_callS, swx, o_sw, o_ret, o_iret, o_zret, o_cret, o_lret, o_aret, lg, lput, lput2, ls1, isL, entL, wsum, rdI1, rdI2, rdA1, rdA21, rdA22, rdL1, rdL22, rdL21, upN_at, rep, sh_0, F_0_0, F_0_1, F_0_2, F_0_3, F_0_4, F_0_5, F_0_6, F_0_7, F_0_8, sh_1, F_1_0, F_1_1, F_1_2, F_1_3, F_1_4, F_1_5, sh_3, F_3_0, F_3_1, F_3_2, F_3_3, F_3_4, F_3_5, sh_5, F_5_0, F_5_1, F_5_2, F_5_3, F_5_4, F_5_5, F_5_6, F_5_7, F_5_8, sh_12, F_12_0, F_12_1, F_12_2, F_12_3, F_12_4, F_12_5, sh_14, F_14_0, F_14_1, F_14_2, F_14_3, F_14_4, F_14_5, F_14_6, F_14_7, F_14_8, sh_21, F_21_0, F_21_1, F_21_2, F_21_3, F_21_4, F_21_5, F_21_6, F_21_7, F_21_8, sh_28, F_28_0, F_28_1, F_28_2, F_28_3, F_28_4, F_28_5, F_28_6, F_28_7, F_28_8, sh_35, F_35_0, sh_39, F_39_0, F_39_1, F_39_2, F_39_3, F_39_4, F_39_5, F_39_6, F_39_7, F_39_8, F_39_9, F_39_10, F_39_11, F_39_12, F_39_13, A_2, A_4, A_6, A_7, A_8, A_9, A_10, A_11, A_13, A_15, A_16, A_17, A_18, A_19, A_20, A_22, A_23, A_24, A_25, A_26, A_27, A_29, A_30, A_31, A_32, A_33, A_34, A_36, A_37, A_38, A_40, A_41, A_42, A_43, A_44, A_45, A_46, A_47]
      exact ⟨fun _ => h1 fun q => w2 q.1, fun q => absurd rfl q⟩
  · dsimp only [k_X5_rate_0, k_X5_rate_1, k_X5_rate_2, k_X5_rate_3, k_X5_rate_6, k_X5_rate_9, k_X5_rate_10, k_X5_rate_11, k_X5_rate_14, k_X5_rate_17, k_X5_rate_19, k_X5_rate_20, k_X5_rate_21, k_X5_rate_22, k_X5_rate_25, k_X5_rate_26, k_X5_rate_29, k_X5_rate_30, k_X5_rate_33, k_X5_rate_34, k_X5_rate_35, k_X5_rate_38, k_X5_rate_41, k_X5_rate_44, k_X5_rate_45, k_X5_rate_46, k_X5_rate_49, k_X5_rate_52, k_X5_rate_55, k_X5_rate_56, k_X5_rate_57, k_X5_rate_60, k_X5_rate_63, k_X5_rate_66, k_X5_rate_67, k_X5_rate_68, k_X5_rate_71, k_X5_rate_74, k_X5_rate_77, k_X5_rate_80, k_X5_rate_81, k_X5_rate_84, k_X5_rate_85, k_X5_rate_86, k_X5_rate_87, k_X5_rate_88, k_X5_rate_91, k_X5_rate_92, k_X5_rate_93, k_X5_rate_96, k_X5_rate_98, k_X5_rate_100, k_X5_rate_101, k_X5_rate_102, k_X5_rate_105, k_X5_rate_108, k_X5_rate_109, k_X5_rate_111, k_X5_rate_113, k_X5_rate_114, k_X5_rate_115, k_X5_rate_118, k_X5_rate_121, k_X5_rate_122, k_X5_rate_124, k_X5_rate_125, k_X5_rate_128, k_X5_rate_130, k_X5_rate_133, k_X5_rate_134, k_X5_rate_135, k_X5_rate_138, k_X5_rate_140, k_X5_rate_143, k_X5_rate_144, k_X5_rate_145, k_X5_rate_148, k_X5_rate_150, k_X5_rate_153, k_X5_rate_154, k_X5_rate_155, k_X5_rate_158, k_X5_rate_159, k_X5_rate_161, k_X5_rate_162, k_X5_rate_165, k_X5_rate_166, k_X5_rate_167, k_X5_rate_170, k_X5_rate_172, k_X5_rate_173, k_X5_rate_174, k_X5_rate_177, k_X5_rate_179, k_X5_rate_180, k_X5_rate_183, k_X5_rate_186, k_X5_rate_187, wp1, wp_s, cutIn, kont, Nat.reduceSub, Nat.reduceAdd, nth, o_const, o_lconst, o_ref, o_iload, o_lload, o_aload, o_istore, o_lstore, o_astore, o_iinc, o_bin, o_div, o_un, o_lbin, o_lsh, o_lcmp, o_i2l, o_l2i, o_if, o_icmp, o_goto, o_dup, o_dup2, o_pop, fav, o_getf, o_putI, o_putZ, o_putL, o_ald, o_ast, o_alen, popn, rst, o_callV, o_callT, o_callS, swx, o_sw, o_ret, o_iret, o_zret, o_cret, o_lret, o_aret, lg, lput, lput2, ls1, isL, entL, wsum, rdI1, rdI2, rdA1, rdA21, rdA22, rdL1, rdL22, rdL21, upN_at, rep, sh_0, F_0_0, F_0_1, F_0_2, F_0_3, F_0_4, F_0_5, F_0_6, F_0_7, F_0_8, sh_1, F_1_0, F_1_1, F_1_2, F_1_3, F_1_4, F_1_5, sh_3, F_3_0, F_3_1, F_3_2, F_3_3, F_3_4, F_3_5, sh_5, F_5_0, F_5_1, F_5_2, F_5_3, F_5_4, F_5_5, F_5_6, F_5_7, F_5_8, sh_12, F_12_0, F_12_1, F_12_2, F_12_3, F_12_4, F_12_5, sh_14, F_14_0, F_14_1, F_14_2, F_14_3, F_14_4, F_14_5, F_14_6, F_14_7, F_14_8, sh_21, F_21_0, F_21_1, F_21_2, F_21_3, F_21_4, F_21_5, F_21_6, F_21_7, F_21_8, sh_28, F_28_0, F_28_1, F_28_2, F_28_3, F_28_4, F_28_5, F_28_6, F_28_7, F_28_8, sh_35, F_35_0, sh_39, F_39_0, F_39_1, F_39_2, F_39_3, F_39_4, F_39_5, F_39_6, F_39_7, F_39_8, F_39_9, F_39_10, F_39_11, F_39_12, F_39_13, A_2, A_4, A_6, A_7, A_8, A_9, A_10, A_11, A_13, A_15, A_16, A_17, A_18, A_19, A_20, A_22, A_23, A_24, A_25, A_26, A_27, A_29, A_30, A_31, A_32, A_33, A_34, A_36, A_37, A_38, A_40, A_41, A_42, A_43, A_44, A_45, A_46, A_47]
    refine ⟨fun _ => h1 fun q => w1 ⟨q.2.1, ?_⟩, fun q => absurd rfl q⟩
    obtain ⟨k, rfl, hk⟩ := rg (n := 6) (by omega) q.2
    rw [show (5 : Int32) = nI 5 from rfl, nI_leI (by omega) (by omega)]; omega
theorem c_X5_keep : Ctr yX5_keep cX5_keep 3 (some .int) ({ frames := 1, cells := 0, slots := 0, locals := 22 } : Room) S_X5_keep := ctr_of (T := T_X5_keep) (by decide +kernel) (fun post C hr => t_X5_keep post C hr) v_X5_keep
theorem c_X5_back : Ctr yX5_back cX5_back 3 (some .int) ({ frames := 1, cells := 0, slots := 0, locals := 22 } : Room) S_X5_back := ctr_of (T := T_X5_back) (by decide +kernel) (fun post C hr => t_X5_back post C hr) v_X5_back
theorem c_X5_count : Ctr yX5_count cX5_count 3 (some .int) ({ frames := 1, cells := 0, slots := 0, locals := 22 } : Room) S_X5_count := ctr_of (T := T_X5_count) (by decide +kernel) (fun post C hr => t_X5_count post C hr) v_X5_count
theorem c_X5_rate : Ctr yX5_rate cX5_rate 7 (some .int) ({ frames := 3, cells := 0, slots := 0, locals := 66 } : Room) S_X5_rate := ctr_of (T := T_X5_rate) (by decide +kernel) (fun post C hr => t_X5_rate post C hr) v_X5_rate
