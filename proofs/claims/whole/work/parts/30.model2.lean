/-! The model: what a set of keys makes and what it turns. -/
theorem MW_of {M M' : AM} {n c p : Nat} {r : Nat → Nat} {h : Nat → Int32} {lk : Nat → Nat} (hX : MW M n c p r h lk) (e33 : M'.2.2 33 = M.2.2 33) (e31 : M'.2.2 31 = M.2.2 31) : MW M' n c p r h lk := by
  unfold MW at hX ⊢
  rw [e33, e31]; exact hX
theorem MW_36 {M : AM} {n c p : Nat} {r : Nat → Nat} {h : Nat → Int32} {lk : Nat → Nat} (hX : MW M n c p r h lk) (f : Nat → Int32) : MW (sA 36 f M) n c p r h lk := MW_of hX rfl rfl
/-- the rows that T makes -/
def isMk (r : Nat → Nat) (n T : Nat) (f : Nat → Int32) : Prop := ∀ v, v < 512 → (rs (fsp r T n) v 9 = 0 → f v = 1) ∧ (rs (fsp r T n) v 9 ≠ 0 → f v = 0)
def S_X5_makes : SP := fun as M post => ∃ T n c p r h lk, as = [VR 39, VI (nI T)] ∧ T < 2 ^ n ∧ MW M n c p r h lk ∧ ∀ f, isMk r n T f → post none (sA 36 f M)
def S_X5_open : SP := fun as M post => ∃ T n c p r h lk, as = [VR 39] ∧ MW M n c p r h lk ∧ isMk r n T (M.2.2 36) ∧ post (some (VI (nI (opn r n lk c T)))) M
def S_X5_heldBy : SP := fun as M post => ∃ g n c p r h lk, as = [VR 39, VI (nI g)] ∧ MW M n c p r h lk ∧ (∀ k, k < n → h k < 0 ∨ ∃ q, q < p ∧ h k = nI q) ∧ g < 2 ^ 31 ∧ post (some (VI (nI (hd h g p n)))) M
theorem fl_RX5_29 : Cond.fieldLink RX5 29 (TX5 12).1 (TX5 12).2.1 (TX5 12).2.2.1 ∈ tb := tb_of 645 (by decide +kernel) (by decide +kernel)
theorem dX5_makes_0 : decode cX5_makes 0 = .ok (.iconst 0, 1) := by decide +kernel
theorem dX5_makes_1 : decode cX5_makes 1 = .ok (.istore_n 2, 1) := by decide +kernel
theorem dX5_makes_2 : decode cX5_makes 2 = .ok (.iload_n 2, 1) := by decide +kernel
theorem dX5_makes_3 : decode cX5_makes 3 = .ok (.sipush 512, 3) := by decide +kernel
theorem dX5_makes_6 : decode cX5_makes 6 = .ok (.if_icmp .ge 16, 3) := by decide +kernel
theorem dX5_makes_9 : decode cX5_makes 9 = .ok (.aload_n 0, 1) := by decide +kernel
theorem dX5_makes_10 : decode cX5_makes 10 = .ok (.getfield 29, 3) := by decide +kernel
theorem dX5_makes_13 : decode cX5_makes 13 = .ok (.iload_n 2, 1) := by decide +kernel
theorem dX5_makes_14 : decode cX5_makes 14 = .ok (.iconst 0, 1) := by decide +kernel
theorem dX5_makes_15 : decode cX5_makes 15 = .ok (.bastore, 1) := by decide +kernel
theorem dX5_makes_16 : decode cX5_makes 16 = .ok (.iinc 2 1, 3) := by decide +kernel
theorem dX5_makes_19 : decode cX5_makes 19 = .ok (.goto (-17), 3) := by decide +kernel
theorem dX5_makes_22 : decode cX5_makes 22 = .ok (.iconst 0, 1) := by decide +kernel
theorem dX5_makes_23 : decode cX5_makes 23 = .ok (.istore_n 2, 1) := by decide +kernel
theorem dX5_makes_24 : decode cX5_makes 24 = .ok (.iload_n 2, 1) := by decide +kernel
theorem dX5_makes_25 : decode cX5_makes 25 = .ok (.sipush 256, 3) := by decide +kernel
theorem dX5_makes_28 : decode cX5_makes 28 = .ok (.if_icmp .ge 28, 3) := by decide +kernel
theorem dX5_makes_31 : decode cX5_makes 31 = .ok (.iload_n 2, 1) := by decide +kernel
theorem dX5_makes_32 : decode cX5_makes 32 = .ok (.iload_n 1, 1) := by decide +kernel
theorem dX5_makes_33 : decode cX5_makes 33 = .ok (.iconst (-1), 1) := by decide +kernel
theorem dX5_makes_34 : decode cX5_makes 34 = .ok (.ixor, 1) := by decide +kernel
theorem dX5_makes_35 : decode cX5_makes 35 = .ok (.iand, 1) := by decide +kernel
theorem dX5_makes_36 : decode cX5_makes 36 = .ok (.ifCond .ne 14, 3) := by decide +kernel
theorem dX5_makes_39 : decode cX5_makes 39 = .ok (.aload_n 0, 1) := by decide +kernel
theorem dX5_makes_40 : decode cX5_makes 40 = .ok (.getfield 29, 3) := by decide +kernel
theorem dX5_makes_43 : decode cX5_makes 43 = .ok (.aload_n 0, 1) := by decide +kernel
theorem dX5_makes_44 : decode cX5_makes 44 = .ok (.iload_n 2, 1) := by decide +kernel
theorem dX5_makes_45 : decode cX5_makes 45 = .ok (.invokevirtual 110, 3) := by decide +kernel
theorem dX5_makes_48 : decode cX5_makes 48 = .ok (.iconst 1, 1) := by decide +kernel
theorem dX5_makes_49 : decode cX5_makes 49 = .ok (.bastore, 1) := by decide +kernel
theorem dX5_makes_50 : decode cX5_makes 50 = .ok (.iinc 2 1, 3) := by decide +kernel
theorem dX5_makes_53 : decode cX5_makes 53 = .ok (.goto (-29), 3) := by decide +kernel
theorem dX5_makes_56 : decode cX5_makes 56 = .ok (.return_, 1) := by decide +kernel
def T_X5_makes (post : PO) : List (Nat × OP) := [(0, o_const 0 1), (1, o_istore 2 2), (2, o_iload 2 3), (3, o_const 512 6), (6, o_icmp (fun x y => y ≤ x) 22 9), (9, o_aload 0 10), (10, o_getf 5 12 13), (13, o_iload 2 14), (14, o_const 0 15), (15, o_ast 2 (vp_nar .boolean) 16), (16, o_iinc 2 1 19), (19, o_goto 2), (22, o_const 0 23), (23, o_istore 2 24), (24, o_iload 2 25), (25, o_const 256 28), (28, o_icmp (fun x y => y ≤ x) 56 31), (31, o_iload 2 32), (32, o_iload 1 33), (33, o_const (-1) 34), (34, o_bin (fun x y => x ^^^ y) 35), (35, o_bin (fun x y => x &&& y) 36), (36, o_if (fun x => x = 0) 39 50), (39, o_aload 0 40), (40, o_getf 5 12 43), (43, o_aload 0 44), (44, o_iload 2 45), (45, o_callV 5 S_X5_rowOf 1 48), (48, o_const 1 49), (49, o_ast 2 (vp_nar .boolean) 50), (50, o_iinc 2 1 53), (53, o_goto 24), (56, o_ret post)]
theorem k_X5_makes_0 (post : PO) : lk (T_X5_makes post) 0 = o_const 0 1 := rfl
theorem k_X5_makes_1 (post : PO) : lk (T_X5_makes post) 1 = o_istore 2 2 := rfl
theorem k_X5_makes_2 (post : PO) : lk (T_X5_makes post) 2 = o_iload 2 3 := rfl
theorem k_X5_makes_3 (post : PO) : lk (T_X5_makes post) 3 = o_const 512 6 := rfl
theorem k_X5_makes_6 (post : PO) : lk (T_X5_makes post) 6 = o_icmp (fun x y => y ≤ x) 22 9 := rfl
theorem k_X5_makes_9 (post : PO) : lk (T_X5_makes post) 9 = o_aload 0 10 := rfl
theorem k_X5_makes_10 (post : PO) : lk (T_X5_makes post) 10 = o_getf 5 12 13 := rfl
theorem k_X5_makes_13 (post : PO) : lk (T_X5_makes post) 13 = o_iload 2 14 := rfl
theorem k_X5_makes_14 (post : PO) : lk (T_X5_makes post) 14 = o_const 0 15 := rfl
theorem k_X5_makes_15 (post : PO) : lk (T_X5_makes post) 15 = o_ast 2 (vp_nar .boolean) 16 := rfl
theorem k_X5_makes_16 (post : PO) : lk (T_X5_makes post) 16 = o_iinc 2 1 19 := rfl
theorem k_X5_makes_19 (post : PO) : lk (T_X5_makes post) 19 = o_goto 2 := rfl
theorem k_X5_makes_22 (post : PO) : lk (T_X5_makes post) 22 = o_const 0 23 := rfl
theorem k_X5_makes_23 (post : PO) : lk (T_X5_makes post) 23 = o_istore 2 24 := rfl
theorem k_X5_makes_24 (post : PO) : lk (T_X5_makes post) 24 = o_iload 2 25 := rfl
theorem k_X5_makes_25 (post : PO) : lk (T_X5_makes post) 25 = o_const 256 28 := rfl
theorem k_X5_makes_28 (post : PO) : lk (T_X5_makes post) 28 = o_icmp (fun x y => y ≤ x) 56 31 := rfl
theorem k_X5_makes_31 (post : PO) : lk (T_X5_makes post) 31 = o_iload 2 32 := rfl
theorem k_X5_makes_32 (post : PO) : lk (T_X5_makes post) 32 = o_iload 1 33 := rfl
theorem k_X5_makes_33 (post : PO) : lk (T_X5_makes post) 33 = o_const (-1) 34 := rfl
theorem k_X5_makes_34 (post : PO) : lk (T_X5_makes post) 34 = o_bin (fun x y => x ^^^ y) 35 := rfl
theorem k_X5_makes_35 (post : PO) : lk (T_X5_makes post) 35 = o_bin (fun x y => x &&& y) 36 := rfl
theorem k_X5_makes_36 (post : PO) : lk (T_X5_makes post) 36 = o_if (fun x => x = 0) 39 50 := rfl
theorem k_X5_makes_39 (post : PO) : lk (T_X5_makes post) 39 = o_aload 0 40 := rfl
theorem k_X5_makes_40 (post : PO) : lk (T_X5_makes post) 40 = o_getf 5 12 43 := rfl
theorem k_X5_makes_43 (post : PO) : lk (T_X5_makes post) 43 = o_aload 0 44 := rfl
theorem k_X5_makes_44 (post : PO) : lk (T_X5_makes post) 44 = o_iload 2 45 := rfl
theorem k_X5_makes_45 (post : PO) : lk (T_X5_makes post) 45 = o_callV 5 S_X5_rowOf 1 48 := rfl
theorem k_X5_makes_48 (post : PO) : lk (T_X5_makes post) 48 = o_const 1 49 := rfl
theorem k_X5_makes_49 (post : PO) : lk (T_X5_makes post) 49 = o_ast 2 (vp_nar .boolean) 50 := rfl
theorem k_X5_makes_50 (post : PO) : lk (T_X5_makes post) 50 = o_iinc 2 1 53 := rfl
theorem k_X5_makes_53 (post : PO) : lk (T_X5_makes post) 53 = o_goto 24 := rfl
theorem k_X5_makes_56 (post : PO) : lk (T_X5_makes post) 56 = o_ret post := rfl
set_option maxRecDepth 100000 in
theorem t_X5_makes {p : Program} {l : Launch} {e : Env} {s : State} {m : MethodId} {args : Array Value} {below : List Frame} {meth : Method} {c : Code} {D : va_G} {dA : Nat → ClassId} {ad : Nat → Nat} (post : PO) (C : CX p s m args meth c cX5_makes 3 yX5_makes.cls D dA ad (AA ad s.heap.size)) (hr : meth.sig.returnType = none) : SndL (WW p l e ({ frames := 1, cells := 0, slots := 0, locals := 23 } : Room) s m args below meth c 0 0 (MQ below (CQ D dA ad post (AA ad s.heap.size)) args s 0 0 (AA ad s.heap.size)) 3 D dA ad (AA ad s.heap.size)) (T_X5_makes post) := by
  refine snd_c (s_iconst C dX5_makes_0 rfl) ?_
  refine snd_c (s_istore_n C rfl (by decide) dX5_makes_1) ?_
  refine snd_c (s_iload_n C rfl dX5_makes_2) ?_
  refine snd_c (s_sipush C dX5_makes_3 rfl) ?_
  refine snd_c (s_icmp_ge C dX5_makes_6 (by decide)) ?_
  refine snd_c (s_aload_n C rfl dX5_makes_9) ?_
  refine snd_c (s_getf C (ci := 5) (j := 12) (T := TX5) rfl inX5 (by decide) fl_RX5_29 dX5_makes_10) ?_
  refine snd_c (s_iload_n C rfl dX5_makes_13) ?_
  refine snd_c (s_iconst C dX5_makes_14 rfl) ?_
  refine snd_c (s_bast2 C dX5_makes_15) ?_
  refine snd_c (s_iinc C (by decide) rfl dX5_makes_16) ?_
  refine snd_c (s_goto C dX5_makes_19 (by decide)) ?_
  refine snd_c (s_iconst C dX5_makes_22 rfl) ?_
  refine snd_c (s_istore_n C rfl (by decide) dX5_makes_23) ?_
  refine snd_c (s_iload_n C rfl dX5_makes_24) ?_
  refine snd_c (s_sipush C dX5_makes_25 rfl) ?_
  refine snd_c (s_icmp_ge C dX5_makes_28 (by decide)) ?_
  refine snd_c (s_iload_n C rfl dX5_makes_31) ?_
  refine snd_c (s_iload_n C rfl dX5_makes_32) ?_
  refine snd_c (s_iconst C dX5_makes_33 rfl) ?_
  refine snd_c (s_ixor C dX5_makes_34) ?_
  refine snd_c (s_iand C dX5_makes_35) ?_
  refine snd_c (s_if_ne C dX5_makes_36 (by decide)) ?_
  refine snd_c (s_aload_n C rfl dX5_makes_39) ?_
  refine snd_c (s_getf C (ci := 5) (j := 12) (T := TX5) rfl inX5 (by decide) fl_RX5_29 dX5_makes_40) ?_
  refine snd_c (s_aload_n C rfl dX5_makes_43) ?_
  refine snd_c (s_iload_n C rfl dX5_makes_44) ?_
  refine snd_c (s_callV C (ci := 5) c_X5_rowOf rfl cw_RX5_110 ⟨rfl, rfl⟩ ⟨by decide +kernel, by decide +kernel, by decide +kernel⟩ ⟨by decide, by decide⟩ ⟨Nat.zero_le _, Nat.zero_le _⟩ dX5_makes_45) ?_
  refine snd_c (s_iconst C dX5_makes_48 rfl) ?_
  refine snd_c (s_bast2 C dX5_makes_49) ?_
  refine snd_c (s_iinc C (by decide) rfl dX5_makes_50) ?_
  refine snd_c (s_goto C dX5_makes_53 (by decide)) ?_
  refine snd_c (s_ret C hr dX5_makes_56) ?_
  exact trivial
theorem dX5_open_0 : decode cX5_open 0 = .ok (.iconst 0, 1) := by decide +kernel
theorem dX5_open_1 : decode cX5_open 1 = .ok (.istore_n 1, 1) := by decide +kernel
theorem dX5_open_2 : decode cX5_open 2 = .ok (.iconst 0, 1) := by decide +kernel
theorem dX5_open_3 : decode cX5_open 3 = .ok (.istore_n 2, 1) := by decide +kernel
theorem dX5_open_4 : decode cX5_open 4 = .ok (.iload_n 2, 1) := by decide +kernel
theorem dX5_open_5 : decode cX5_open 5 = .ok (.aload_n 0, 1) := by decide +kernel
theorem dX5_open_6 : decode cX5_open 6 = .ok (.getfield 13, 3) := by decide +kernel
theorem dX5_open_9 : decode cX5_open 9 = .ok (.iconst 0, 1) := by decide +kernel
theorem dX5_open_10 : decode cX5_open 10 = .ok (.iaload, 1) := by decide +kernel
theorem dX5_open_11 : decode cX5_open 11 = .ok (.if_icmp .ge 35, 3) := by decide +kernel
theorem dX5_open_14 : decode cX5_open 14 = .ok (.iload_n 1, 1) := by decide +kernel
theorem dX5_open_15 : decode cX5_open 15 = .ok (.aload_n 0, 1) := by decide +kernel
theorem dX5_open_16 : decode cX5_open 16 = .ok (.getfield 29, 3) := by decide +kernel
theorem dX5_open_19 : decode cX5_open 19 = .ok (.aload_n 0, 1) := by decide +kernel
theorem dX5_open_20 : decode cX5_open 20 = .ok (.getfield 13, 3) := by decide +kernel
theorem dX5_open_23 : decode cX5_open 23 = .ok (.iconst 4, 1) := by decide +kernel
theorem dX5_open_24 : decode cX5_open 24 = .ok (.iload_n 2, 1) := by decide +kernel
theorem dX5_open_25 : decode cX5_open 25 = .ok (.iadd, 1) := by decide +kernel
theorem dX5_open_26 : decode cX5_open 26 = .ok (.iaload, 1) := by decide +kernel
theorem dX5_open_27 : decode cX5_open 27 = .ok (.baload, 1) := by decide +kernel
theorem dX5_open_28 : decode cX5_open 28 = .ok (.ifCond .eq 9, 3) := by decide +kernel
theorem dX5_open_31 : decode cX5_open 31 = .ok (.iconst 1, 1) := by decide +kernel
theorem dX5_open_32 : decode cX5_open 32 = .ok (.iload_n 2, 1) := by decide +kernel
theorem dX5_open_33 : decode cX5_open 33 = .ok (.ishl, 1) := by decide +kernel
theorem dX5_open_34 : decode cX5_open 34 = .ok (.goto 4, 3) := by decide +kernel
theorem dX5_open_37 : decode cX5_open 37 = .ok (.iconst 0, 1) := by decide +kernel
theorem dX5_open_38 : decode cX5_open 38 = .ok (.ior, 1) := by decide +kernel
theorem dX5_open_39 : decode cX5_open 39 = .ok (.istore_n 1, 1) := by decide +kernel
theorem dX5_open_40 : decode cX5_open 40 = .ok (.iinc 2 1, 3) := by decide +kernel
theorem dX5_open_43 : decode cX5_open 43 = .ok (.goto (-39), 3) := by decide +kernel
theorem dX5_open_46 : decode cX5_open 46 = .ok (.iload_n 1, 1) := by decide +kernel
theorem dX5_open_47 : decode cX5_open 47 = .ok (.ireturn, 1) := by decide +kernel
def T_X5_open (post : PO) : List (Nat × OP) := [(0, o_const 0 1), (1, o_istore 1 2), (2, o_const 0 3), (3, o_istore 2 4), (4, o_iload 2 5), (5, o_aload 0 6), (6, o_getf 5 3 9), (9, o_const 0 10), (10, o_ald 0 11), (11, o_icmp (fun x y => y ≤ x) 46 14), (14, o_iload 1 15), (15, o_aload 0 16), (16, o_getf 5 12 19), (19, o_aload 0 20), (20, o_getf 5 3 23), (23, o_const 4 24), (24, o_iload 2 25), (25, o_bin (fun x y => x + y) 26), (26, o_ald 0 27), (27, o_ald 2 28), (28, o_if (fun x => x = 0) 37 31), (31, o_const 1 32), (32, o_iload 2 33), (33, o_bin (fun x y => x <<< (y &&& 31)) 34), (34, o_goto 38), (37, o_const 0 38), (38, o_bin (fun x y => x ||| y) 39), (39, o_istore 1 40), (40, o_iinc 2 1 43), (43, o_goto 4), (46, o_iload 1 47), (47, o_iret post)]
theorem k_X5_open_0 (post : PO) : lk (T_X5_open post) 0 = o_const 0 1 := rfl
theorem k_X5_open_1 (post : PO) : lk (T_X5_open post) 1 = o_istore 1 2 := rfl
theorem k_X5_open_2 (post : PO) : lk (T_X5_open post) 2 = o_const 0 3 := rfl
theorem k_X5_open_3 (post : PO) : lk (T_X5_open post) 3 = o_istore 2 4 := rfl
theorem k_X5_open_4 (post : PO) : lk (T_X5_open post) 4 = o_iload 2 5 := rfl
theorem k_X5_open_5 (post : PO) : lk (T_X5_open post) 5 = o_aload 0 6 := rfl
theorem k_X5_open_6 (post : PO) : lk (T_X5_open post) 6 = o_getf 5 3 9 := rfl
theorem k_X5_open_9 (post : PO) : lk (T_X5_open post) 9 = o_const 0 10 := rfl
theorem k_X5_open_10 (post : PO) : lk (T_X5_open post) 10 = o_ald 0 11 := rfl
theorem k_X5_open_11 (post : PO) : lk (T_X5_open post) 11 = o_icmp (fun x y => y ≤ x) 46 14 := rfl
theorem k_X5_open_14 (post : PO) : lk (T_X5_open post) 14 = o_iload 1 15 := rfl
theorem k_X5_open_15 (post : PO) : lk (T_X5_open post) 15 = o_aload 0 16 := rfl
theorem k_X5_open_16 (post : PO) : lk (T_X5_open post) 16 = o_getf 5 12 19 := rfl
theorem k_X5_open_19 (post : PO) : lk (T_X5_open post) 19 = o_aload 0 20 := rfl
theorem k_X5_open_20 (post : PO) : lk (T_X5_open post) 20 = o_getf 5 3 23 := rfl
theorem k_X5_open_23 (post : PO) : lk (T_X5_open post) 23 = o_const 4 24 := rfl
theorem k_X5_open_24 (post : PO) : lk (T_X5_open post) 24 = o_iload 2 25 := rfl
theorem k_X5_open_25 (post : PO) : lk (T_X5_open post) 25 = o_bin (fun x y => x + y) 26 := rfl
theorem k_X5_open_26 (post : PO) : lk (T_X5_open post) 26 = o_ald 0 27 := rfl
theorem k_X5_open_27 (post : PO) : lk (T_X5_open post) 27 = o_ald 2 28 := rfl
theorem k_X5_open_28 (post : PO) : lk (T_X5_open post) 28 = o_if (fun x => x = 0) 37 31 := rfl
theorem k_X5_open_31 (post : PO) : lk (T_X5_open post) 31 = o_const 1 32 := rfl
theorem k_X5_open_32 (post : PO) : lk (T_X5_open post) 32 = o_iload 2 33 := rfl
theorem k_X5_open_33 (post : PO) : lk (T_X5_open post) 33 = o_bin (fun x y => x <<< (y &&& 31)) 34 := rfl
theorem k_X5_open_34 (post : PO) : lk (T_X5_open post) 34 = o_goto 38 := rfl
theorem k_X5_open_37 (post : PO) : lk (T_X5_open post) 37 = o_const 0 38 := rfl
theorem k_X5_open_38 (post : PO) : lk (T_X5_open post) 38 = o_bin (fun x y => x ||| y) 39 := rfl
theorem k_X5_open_39 (post : PO) : lk (T_X5_open post) 39 = o_istore 1 40 := rfl
theorem k_X5_open_40 (post : PO) : lk (T_X5_open post) 40 = o_iinc 2 1 43 := rfl
theorem k_X5_open_43 (post : PO) : lk (T_X5_open post) 43 = o_goto 4 := rfl
theorem k_X5_open_46 (post : PO) : lk (T_X5_open post) 46 = o_iload 1 47 := rfl
theorem k_X5_open_47 (post : PO) : lk (T_X5_open post) 47 = o_iret post := rfl
set_option maxRecDepth 100000 in
theorem t_X5_open {p : Program} {l : Launch} {e : Env} {s : State} {m : MethodId} {args : Array Value} {below : List Frame} {meth : Method} {c : Code} {D : va_G} {dA : Nat → ClassId} {ad : Nat → Nat} (post : PO) (C : CX p s m args meth c cX5_open 3 yX5_open.cls D dA ad (AA ad s.heap.size)) (hr : meth.sig.returnType = (some .int)) : SndL (WW p l e ({ frames := 0, cells := 0, slots := 0, locals := 0 } : Room) s m args below meth c 0 0 (MQ below (CQ D dA ad post (AA ad s.heap.size)) args s 0 0 (AA ad s.heap.size)) 3 D dA ad (AA ad s.heap.size)) (T_X5_open post) := by
  refine snd_c (s_iconst C dX5_open_0 rfl) ?_
  refine snd_c (s_istore_n C rfl (by decide) dX5_open_1) ?_
  refine snd_c (s_iconst C dX5_open_2 rfl) ?_
  refine snd_c (s_istore_n C rfl (by decide) dX5_open_3) ?_
  refine snd_c (s_iload_n C rfl dX5_open_4) ?_
  refine snd_c (s_aload_n C rfl dX5_open_5) ?_
  refine snd_c (s_getf C (ci := 5) (j := 3) (T := TX5) rfl inX5 (by decide) fl_RX5_13 dX5_open_6) ?_
  refine snd_c (s_iconst C dX5_open_9 rfl) ?_
  refine snd_c (s_iald C dX5_open_10) ?_
  refine snd_c (s_icmp_ge C dX5_open_11 (by decide)) ?_
  refine snd_c (s_iload_n C rfl dX5_open_14) ?_
  refine snd_c (s_aload_n C rfl dX5_open_15) ?_
  refine snd_c (s_getf C (ci := 5) (j := 12) (T := TX5) rfl inX5 (by decide) fl_RX5_29 dX5_open_16) ?_
  refine snd_c (s_aload_n C rfl dX5_open_19) ?_
  refine snd_c (s_getf C (ci := 5) (j := 3) (T := TX5) rfl inX5 (by decide) fl_RX5_13 dX5_open_20) ?_
  refine snd_c (s_iconst C dX5_open_23 rfl) ?_
  refine snd_c (s_iload_n C rfl dX5_open_24) ?_
  refine snd_c (s_iadd C dX5_open_25) ?_
  refine snd_c (s_iald C dX5_open_26) ?_
  refine snd_c (s_bald2 C dX5_open_27) ?_
  refine snd_c (s_if_eq C dX5_open_28 (by decide)) ?_
  refine snd_c (s_iconst C dX5_open_31 rfl) ?_
  refine snd_c (s_iload_n C rfl dX5_open_32) ?_
  refine snd_c (s_ishl C dX5_open_33) ?_
  refine snd_c (s_goto C dX5_open_34 (by decide)) ?_
  refine snd_c (s_iconst C dX5_open_37 rfl) ?_
  refine snd_c (s_ior C dX5_open_38) ?_
  refine snd_c (s_istore_n C rfl (by decide) dX5_open_39) ?_
  refine snd_c (s_iinc C (by decide) rfl dX5_open_40) ?_
  refine snd_c (s_goto C dX5_open_43 (by decide)) ?_
  refine snd_c (s_iload_n C rfl dX5_open_46) ?_
  refine snd_c (s_iret C hr dX5_open_47) ?_
  exact trivial
theorem dX5_heldBy_0 : decode cX5_heldBy 0 = .ok (.iconst 0, 1) := by decide +kernel
theorem dX5_heldBy_1 : decode cX5_heldBy 1 = .ok (.istore_n 2, 1) := by decide +kernel
theorem dX5_heldBy_2 : decode cX5_heldBy 2 = .ok (.iconst 0, 1) := by decide +kernel
theorem dX5_heldBy_3 : decode cX5_heldBy 3 = .ok (.istore_n 3, 1) := by decide +kernel
theorem dX5_heldBy_4 : decode cX5_heldBy 4 = .ok (.iload_n 3, 1) := by decide +kernel
theorem dX5_heldBy_5 : decode cX5_heldBy 5 = .ok (.aload_n 0, 1) := by decide +kernel
theorem dX5_heldBy_6 : decode cX5_heldBy 6 = .ok (.getfield 19, 3) := by decide +kernel
theorem dX5_heldBy_9 : decode cX5_heldBy 9 = .ok (.iconst 0, 1) := by decide +kernel
theorem dX5_heldBy_10 : decode cX5_heldBy 10 = .ok (.iaload, 1) := by decide +kernel
theorem dX5_heldBy_11 : decode cX5_heldBy 11 = .ok (.if_icmp .ge 50, 3) := by decide +kernel
theorem dX5_heldBy_14 : decode cX5_heldBy 14 = .ok (.iload_n 2, 1) := by decide +kernel
theorem dX5_heldBy_15 : decode cX5_heldBy 15 = .ok (.aload_n 0, 1) := by decide +kernel
theorem dX5_heldBy_16 : decode cX5_heldBy 16 = .ok (.getfield 19, 3) := by decide +kernel
theorem dX5_heldBy_19 : decode cX5_heldBy 19 = .ok (.bipush 9, 2) := by decide +kernel
theorem dX5_heldBy_21 : decode cX5_heldBy 21 = .ok (.iload_n 3, 1) := by decide +kernel
theorem dX5_heldBy_22 : decode cX5_heldBy 22 = .ok (.iadd, 1) := by decide +kernel
theorem dX5_heldBy_23 : decode cX5_heldBy 23 = .ok (.iaload, 1) := by decide +kernel
theorem dX5_heldBy_24 : decode cX5_heldBy 24 = .ok (.ifCond .lt 28, 3) := by decide +kernel
theorem dX5_heldBy_27 : decode cX5_heldBy 27 = .ok (.iload_n 1, 1) := by decide +kernel
theorem dX5_heldBy_28 : decode cX5_heldBy 28 = .ok (.aload_n 0, 1) := by decide +kernel
theorem dX5_heldBy_29 : decode cX5_heldBy 29 = .ok (.getfield 19, 3) := by decide +kernel
theorem dX5_heldBy_32 : decode cX5_heldBy 32 = .ok (.bipush 9, 2) := by decide +kernel
theorem dX5_heldBy_34 : decode cX5_heldBy 34 = .ok (.iload_n 3, 1) := by decide +kernel
theorem dX5_heldBy_35 : decode cX5_heldBy 35 = .ok (.iadd, 1) := by decide +kernel
theorem dX5_heldBy_36 : decode cX5_heldBy 36 = .ok (.iaload, 1) := by decide +kernel
theorem dX5_heldBy_37 : decode cX5_heldBy 37 = .ok (.iconst 3, 1) := by decide +kernel
theorem dX5_heldBy_38 : decode cX5_heldBy 38 = .ok (.iand, 1) := by decide +kernel
theorem dX5_heldBy_39 : decode cX5_heldBy 39 = .ok (.ishr, 1) := by decide +kernel
theorem dX5_heldBy_40 : decode cX5_heldBy 40 = .ok (.iconst 1, 1) := by decide +kernel
theorem dX5_heldBy_41 : decode cX5_heldBy 41 = .ok (.iand, 1) := by decide +kernel
theorem dX5_heldBy_42 : decode cX5_heldBy 42 = .ok (.iconst 1, 1) := by decide +kernel
theorem dX5_heldBy_43 : decode cX5_heldBy 43 = .ok (.if_icmp .ne 9, 3) := by decide +kernel
theorem dX5_heldBy_46 : decode cX5_heldBy 46 = .ok (.iconst 1, 1) := by decide +kernel
theorem dX5_heldBy_47 : decode cX5_heldBy 47 = .ok (.iload_n 3, 1) := by decide +kernel
theorem dX5_heldBy_48 : decode cX5_heldBy 48 = .ok (.ishl, 1) := by decide +kernel
theorem dX5_heldBy_49 : decode cX5_heldBy 49 = .ok (.goto 4, 3) := by decide +kernel
theorem dX5_heldBy_52 : decode cX5_heldBy 52 = .ok (.iconst 0, 1) := by decide +kernel
theorem dX5_heldBy_53 : decode cX5_heldBy 53 = .ok (.ior, 1) := by decide +kernel
theorem dX5_heldBy_54 : decode cX5_heldBy 54 = .ok (.istore_n 2, 1) := by decide +kernel
theorem dX5_heldBy_55 : decode cX5_heldBy 55 = .ok (.iinc 3 1, 3) := by decide +kernel
theorem dX5_heldBy_58 : decode cX5_heldBy 58 = .ok (.goto (-54), 3) := by decide +kernel
theorem dX5_heldBy_61 : decode cX5_heldBy 61 = .ok (.iload_n 2, 1) := by decide +kernel
theorem dX5_heldBy_62 : decode cX5_heldBy 62 = .ok (.ireturn, 1) := by decide +kernel
def T_X5_heldBy (post : PO) : List (Nat × OP) := [(0, o_const 0 1), (1, o_istore 2 2), (2, o_const 0 3), (3, o_istore 3 4), (4, o_iload 3 5), (5, o_aload 0 6), (6, o_getf 5 5 9), (9, o_const 0 10), (10, o_ald 0 11), (11, o_icmp (fun x y => y ≤ x) 61 14), (14, o_iload 2 15), (15, o_aload 0 16), (16, o_getf 5 5 19), (19, o_const 9 21), (21, o_iload 3 22), (22, o_bin (fun x y => x + y) 23), (23, o_ald 0 24), (24, o_if (fun x => x < 0) 52 27), (27, o_iload 1 28), (28, o_aload 0 29), (29, o_getf 5 5 32), (32, o_const 9 34), (34, o_iload 3 35), (35, o_bin (fun x y => x + y) 36), (36, o_ald 0 37), (37, o_const 3 38), (38, o_bin (fun x y => x &&& y) 39), (39, o_bin (fun x y => x >>> (y &&& 31)) 40), (40, o_const 1 41), (41, o_bin (fun x y => x &&& y) 42), (42, o_const 1 43), (43, o_icmp (fun x y => x = y) 46 52), (46, o_const 1 47), (47, o_iload 3 48), (48, o_bin (fun x y => x <<< (y &&& 31)) 49), (49, o_goto 53), (52, o_const 0 53), (53, o_bin (fun x y => x ||| y) 54), (54, o_istore 2 55), (55, o_iinc 3 1 58), (58, o_goto 4), (61, o_iload 2 62), (62, o_iret post)]
theorem k_X5_heldBy_0 (post : PO) : lk (T_X5_heldBy post) 0 = o_const 0 1 := rfl
theorem k_X5_heldBy_1 (post : PO) : lk (T_X5_heldBy post) 1 = o_istore 2 2 := rfl
theorem k_X5_heldBy_2 (post : PO) : lk (T_X5_heldBy post) 2 = o_const 0 3 := rfl
theorem k_X5_heldBy_3 (post : PO) : lk (T_X5_heldBy post) 3 = o_istore 3 4 := rfl
theorem k_X5_heldBy_4 (post : PO) : lk (T_X5_heldBy post) 4 = o_iload 3 5 := rfl
theorem k_X5_heldBy_5 (post : PO) : lk (T_X5_heldBy post) 5 = o_aload 0 6 := rfl
theorem k_X5_heldBy_6 (post : PO) : lk (T_X5_heldBy post) 6 = o_getf 5 5 9 := rfl
theorem k_X5_heldBy_9 (post : PO) : lk (T_X5_heldBy post) 9 = o_const 0 10 := rfl
theorem k_X5_heldBy_10 (post : PO) : lk (T_X5_heldBy post) 10 = o_ald 0 11 := rfl
theorem k_X5_heldBy_11 (post : PO) : lk (T_X5_heldBy post) 11 = o_icmp (fun x y => y ≤ x) 61 14 := rfl
theorem k_X5_heldBy_14 (post : PO) : lk (T_X5_heldBy post) 14 = o_iload 2 15 := rfl
theorem k_X5_heldBy_15 (post : PO) : lk (T_X5_heldBy post) 15 = o_aload 0 16 := rfl
theorem k_X5_heldBy_16 (post : PO) : lk (T_X5_heldBy post) 16 = o_getf 5 5 19 := rfl
theorem k_X5_heldBy_19 (post : PO) : lk (T_X5_heldBy post) 19 = o_const 9 21 := rfl
theorem k_X5_heldBy_21 (post : PO) : lk (T_X5_heldBy post) 21 = o_iload 3 22 := rfl
theorem k_X5_heldBy_22 (post : PO) : lk (T_X5_heldBy post) 22 = o_bin (fun x y => x + y) 23 := rfl
theorem k_X5_heldBy_23 (post : PO) : lk (T_X5_heldBy post) 23 = o_ald 0 24 := rfl
theorem k_X5_heldBy_24 (post : PO) : lk (T_X5_heldBy post) 24 = o_if (fun x => x < 0) 52 27 := rfl
theorem k_X5_heldBy_27 (post : PO) : lk (T_X5_heldBy post) 27 = o_iload 1 28 := rfl
theorem k_X5_heldBy_28 (post : PO) : lk (T_X5_heldBy post) 28 = o_aload 0 29 := rfl
theorem k_X5_heldBy_29 (post : PO) : lk (T_X5_heldBy post) 29 = o_getf 5 5 32 := rfl
theorem k_X5_heldBy_32 (post : PO) : lk (T_X5_heldBy post) 32 = o_const 9 34 := rfl
theorem k_X5_heldBy_34 (post : PO) : lk (T_X5_heldBy post) 34 = o_iload 3 35 := rfl
theorem k_X5_heldBy_35 (post : PO) : lk (T_X5_heldBy post) 35 = o_bin (fun x y => x + y) 36 := rfl
theorem k_X5_heldBy_36 (post : PO) : lk (T_X5_heldBy post) 36 = o_ald 0 37 := rfl
theorem k_X5_heldBy_37 (post : PO) : lk (T_X5_heldBy post) 37 = o_const 3 38 := rfl
theorem k_X5_heldBy_38 (post : PO) : lk (T_X5_heldBy post) 38 = o_bin (fun x y => x &&& y) 39 := rfl
theorem k_X5_heldBy_39 (post : PO) : lk (T_X5_heldBy post) 39 = o_bin (fun x y => x >>> (y &&& 31)) 40 := rfl
theorem k_X5_heldBy_40 (post : PO) : lk (T_X5_heldBy post) 40 = o_const 1 41 := rfl
theorem k_X5_heldBy_41 (post : PO) : lk (T_X5_heldBy post) 41 = o_bin (fun x y => x &&& y) 42 := rfl
theorem k_X5_heldBy_42 (post : PO) : lk (T_X5_heldBy post) 42 = o_const 1 43 := rfl
theorem k_X5_heldBy_43 (post : PO) : lk (T_X5_heldBy post) 43 = o_icmp (fun x y => x = y) 46 52 := rfl
theorem k_X5_heldBy_46 (post : PO) : lk (T_X5_heldBy post) 46 = o_const 1 47 := rfl
theorem k_X5_heldBy_47 (post : PO) : lk (T_X5_heldBy post) 47 = o_iload 3 48 := rfl
theorem k_X5_heldBy_48 (post : PO) : lk (T_X5_heldBy post) 48 = o_bin (fun x y => x <<< (y &&& 31)) 49 := rfl
theorem k_X5_heldBy_49 (post : PO) : lk (T_X5_heldBy post) 49 = o_goto 53 := rfl
theorem k_X5_heldBy_52 (post : PO) : lk (T_X5_heldBy post) 52 = o_const 0 53 := rfl
theorem k_X5_heldBy_53 (post : PO) : lk (T_X5_heldBy post) 53 = o_bin (fun x y => x ||| y) 54 := rfl
theorem k_X5_heldBy_54 (post : PO) : lk (T_X5_heldBy post) 54 = o_istore 2 55 := rfl
theorem k_X5_heldBy_55 (post : PO) : lk (T_X5_heldBy post) 55 = o_iinc 3 1 58 := rfl
theorem k_X5_heldBy_58 (post : PO) : lk (T_X5_heldBy post) 58 = o_goto 4 := rfl
theorem k_X5_heldBy_61 (post : PO) : lk (T_X5_heldBy post) 61 = o_iload 2 62 := rfl
theorem k_X5_heldBy_62 (post : PO) : lk (T_X5_heldBy post) 62 = o_iret post := rfl
set_option maxRecDepth 100000 in
theorem t_X5_heldBy {p : Program} {l : Launch} {e : Env} {s : State} {m : MethodId} {args : Array Value} {below : List Frame} {meth : Method} {c : Code} {D : va_G} {dA : Nat → ClassId} {ad : Nat → Nat} (post : PO) (C : CX p s m args meth c cX5_heldBy 4 yX5_heldBy.cls D dA ad (AA ad s.heap.size)) (hr : meth.sig.returnType = (some .int)) : SndL (WW p l e ({ frames := 0, cells := 0, slots := 0, locals := 0 } : Room) s m args below meth c 0 0 (MQ below (CQ D dA ad post (AA ad s.heap.size)) args s 0 0 (AA ad s.heap.size)) 4 D dA ad (AA ad s.heap.size)) (T_X5_heldBy post) := by
  refine snd_c (s_iconst C dX5_heldBy_0 rfl) ?_
  refine snd_c (s_istore_n C rfl (by decide) dX5_heldBy_1) ?_
  refine snd_c (s_iconst C dX5_heldBy_2 rfl) ?_
  refine snd_c (s_istore_n C rfl (by decide) dX5_heldBy_3) ?_
  refine snd_c (s_iload_n C rfl dX5_heldBy_4) ?_
  refine snd_c (s_aload_n C rfl dX5_heldBy_5) ?_
  refine snd_c (s_getf C (ci := 5) (j := 5) (T := TX5) rfl inX5 (by decide) fl_RX5_19 dX5_heldBy_6) ?_
  refine snd_c (s_iconst C dX5_heldBy_9 rfl) ?_
  refine snd_c (s_iald C dX5_heldBy_10) ?_
  refine snd_c (s_icmp_ge C dX5_heldBy_11 (by decide)) ?_
  refine snd_c (s_iload_n C rfl dX5_heldBy_14) ?_
  refine snd_c (s_aload_n C rfl dX5_heldBy_15) ?_
  refine snd_c (s_getf C (ci := 5) (j := 5) (T := TX5) rfl inX5 (by decide) fl_RX5_19 dX5_heldBy_16) ?_
  refine snd_c (s_bipush C dX5_heldBy_19 rfl) ?_
  refine snd_c (s_iload_n C rfl dX5_heldBy_21) ?_
  refine snd_c (s_iadd C dX5_heldBy_22) ?_
  refine snd_c (s_iald C dX5_heldBy_23) ?_
  refine snd_c (s_if_lt C dX5_heldBy_24 (by decide)) ?_
  refine snd_c (s_iload_n C rfl dX5_heldBy_27) ?_
  refine snd_c (s_aload_n C rfl dX5_heldBy_28) ?_
  refine snd_c (s_getf C (ci := 5) (j := 5) (T := TX5) rfl inX5 (by decide) fl_RX5_19 dX5_heldBy_29) ?_
  refine snd_c (s_bipush C dX5_heldBy_32 rfl) ?_
  refine snd_c (s_iload_n C rfl dX5_heldBy_34) ?_
  refine snd_c (s_iadd C dX5_heldBy_35) ?_
  refine snd_c (s_iald C dX5_heldBy_36) ?_
  refine snd_c (s_iconst C dX5_heldBy_37 rfl) ?_
  refine snd_c (s_iand C dX5_heldBy_38) ?_
  refine snd_c (s_ishr C dX5_heldBy_39) ?_
  refine snd_c (s_iconst C dX5_heldBy_40 rfl) ?_
  refine snd_c (s_iand C dX5_heldBy_41) ?_
  refine snd_c (s_iconst C dX5_heldBy_42 rfl) ?_
  refine snd_c (s_icmp_ne C dX5_heldBy_43 (by decide)) ?_
  refine snd_c (s_iconst C dX5_heldBy_46 rfl) ?_
  refine snd_c (s_iload_n C rfl dX5_heldBy_47) ?_
  refine snd_c (s_ishl C dX5_heldBy_48) ?_
  refine snd_c (s_goto C dX5_heldBy_49 (by decide)) ?_
  refine snd_c (s_iconst C dX5_heldBy_52 rfl) ?_
  refine snd_c (s_ior C dX5_heldBy_53) ?_
  refine snd_c (s_istore_n C rfl (by decide) dX5_heldBy_54) ?_
  refine snd_c (s_iinc C (by decide) rfl dX5_heldBy_55) ?_
  refine snd_c (s_goto C dX5_heldBy_58 (by decide)) ?_
  refine snd_c (s_iload_n C rfl dX5_heldBy_61) ?_
  refine snd_c (s_iret C hr dX5_heldBy_62) ?_
  exact trivial
set_option maxRecDepth 100000 in
theorem v_X5_makes : ∀ as M post, S_X5_makes as M post → wsum as ≤ 3 ∧ RUN (T_X5_makes post) 0 (entL 3 as) [] M := by
  rintro as M post ⟨T, n, c, p, r, h0, lk, rfl, hT, hX, h⟩
  have hX0 := hX
  obtain ⟨hn, hn8, hc, hc6, hp, hp4, hr, hhk, hl⟩ := hX
  have hT8 : T < 256 := Nat.lt_of_lt_of_le hT (Nat.pow_le_pow_right (n := 2) (by omega) hn8)
  refine ⟨by show 2 ≤ 3; omega, run_of [2, 24] (fun μ pc lv st M' => st = [] ∧ ((pc = 2 ∧ ∃ i f, i ≤ 512 ∧ (∀ v, v < i → f v = 0) ∧ M' = sA 36 f M ∧ 2000 - i = μ ∧ lv = [some (VR 39), some (VI (nI T)), some (VI (nI i))]) ∨ (pc = 24 ∧ ∃ i f, i ≤ 256 ∧ (∀ v, v < 512 → ((∃ U, U < i ∧ U &&& T = U ∧ xrN r U n = v) → f v = 1) ∧ ((¬ ∃ U, U < i ∧ U &&& T = U ∧ xrN r U n = v) → f v = 0)) ∧ M' = sA 36 f M ∧ 1000 - i = μ ∧ lv = [some (VR 39), some (VI (nI T)), some (VI (nI i))]))) 60 3000 ?_ ?_⟩
  · rintro μ pc lv st M' ⟨rfl, ⟨rfl, i, f, hi, hf, rfl, rfl, rfl⟩ | ⟨rfl, i, f, hi, hf, rfl, rfl, rfl⟩⟩
    · dsimp only [k_X5_makes_0, k_X5_makes_1, k_X5_makes_2, k_X5_makes_3, k_X5_makes_6, k_X5_makes_9, k_X5_makes_10, k_X5_makes_13, k_X5_makes_14, k_X5_makes_15, k_X5_makes_16, k_X5_makes_19, k_X5_makes_22, k_X5_makes_23, k_X5_makes_24, k_X5_makes_25, k_X5_makes_28, k_X5_makes_31, k_X5_makes_32, k_X5_makes_33, k_X5_makes_34, k_X5_makes_35, k_X5_makes_36, k_X5_makes_39, k_X5_makes_40, k_X5_makes_43, k_X5_makes_44, k_X5_makes_45, k_X5_makes_48, k_X5_makes_49, k_X5_makes_50, k_X5_makes_53, k_X5_makes_56, wp1, wp_s, cutIn, kont, Nat.reduceSub, Nat.reduceAdd, nth, o_const, o_lconst, o_ref, o_iload, o_lload, o_aload, o_istore, o_lstore, o_astore, o_iinc, o_bin, o_div, o_un, o_lbin, o_lsh, o_lcmp, o_i2l, o_l2i, o_if, o_icmp, o_goto, o_dup, o_dup2, o_pop, fav, o_getf, o_putI, o_putZ, o_putL, o_ald, o_ast, o_alen, popn, rst, o_callV, o_callT, o_callS, swx, o_sw, o_ret, o_iret, o_zret, o_cret, o_lret, o_aret, lg, lput, lput2, ls1, isL, entL, wsum, rdI1, rdI2, rdA1, rdA21, rdA22, rdL1, rdL22, rdL21, upN_at, rep, sh_0, F_0_0, F_0_1, F_0_2, F_0_3, F_0_4, F_0_5, F_0_6, F_0_7, F_0_8, sh_1, F_1_0, F_1_1, F_1_2, F_1_3, F_1_4, F_1_5, sh_3, F_3_0, F_3_1, F_3_2, F_3_3, F_3_4, F_3_5, sh_5, F_5_0, F_5_1, F_5_2, F_5_3, F_5_4, F_5_5, F_5_6, F_5_7, F_5_8, sh_12, F_12_0, F_12_1, F_12_2, F_12_3, F_12_4, F_12_5, sh_14, F_14_0, F_14_1, F_14_2, F_14_3, F_14_4, F_14_5, F_14_6, F_14_7, F_14_8, sh_21, F_21_0, F_21_1, F_21_2, F_21_3, F_21_4, F_21_5, F_21_6, F_21_7, F_21_8, sh_28, F_28_0, F_28_1, F_28_2, F_28_3, F_28_4, F_28_5, F_28_6, F_28_7, F_28_8, sh_35, F_35_0, sh_39, F_39_0, F_39_1, F_39_2, F_39_3, F_39_4, F_39_5, F_39_6, F_39_7, F_39_8, F_39_9, F_39_10, F_39_11, F_39_12, F_39_13, A_2, A_4, A_6, A_7, A_8, A_9, A_10, A_11, A_13, A_15, A_16, A_17, A_18, A_19, A_20, A_22, A_23, A_24, A_25, A_26, A_27, A_29, A_30, A_31, A_32, A_33, A_34, A_36, A_37, A_38, A_40, A_41, A_42, A_43, A_44, A_45, A_46, A_47]
      rw [show (512 : Int32) = nI 512 from rfl]
      simp (disch := omega) only [nI_leI, nI_ltI, nI_eq, nI_1, nI_add, one_shl, nI_or, nI_xor, nI_and, bit_0, bit_1, true_or, or_true, true_and, and_true, eq_self, not_true_eq_false, not_false_eq_true, forall_const]
      refine ⟨fun q => cut _ _ ⟨rfl, Or.inr ⟨rfl, 0, f, by omega, fun v hv => ⟨fun ⟨U, hU, _⟩ => absurd hU (by omega), fun _ => hf v (by omega)⟩, rfl, rfl, rfl⟩⟩ (by omega) ⟨rfl, rfl, rfl, trivial⟩, fun q => ⟨i, by omega, rfl, cut _ _ ⟨rfl, Or.inl ⟨rfl, i + 1, upd f i 0, by omega, fun v hv => ?_, ?_, rfl, rfl⟩⟩ (by omega) ⟨rfl, rfl, rfl, trivial⟩⟩⟩
      · by_cases e : v = i
        · rw [e, upd_s]
        · rw [upd_n _ _ e]; exact hf v (by omega)
      · rw [sA_sA]; rfl
    · dsimp only [k_X5_makes_0, k_X5_makes_1, k_X5_makes_2, k_X5_makes_3, k_X5_makes_6, k_X5_makes_9, k_X5_makes_10, k_X5_makes_13, k_X5_makes_14, k_X5_makes_15, k_X5_makes_16, k_X5_makes_19, k_X5_makes_22, k_X5_makes_23, k_X5_makes_24, k_X5_makes_25, k_X5_makes_28, k_X5_makes_31, k_X5_makes_32, k_X5_makes_33, k_X5_makes_34, k_X5_makes_35, k_X5_makes_36, k_X5_makes_39, k_X5_makes_40, k_X5_makes_43, k_X5_makes_44, k_X5_makes_45, k_X5_makes_48, k_X5_makes_49, k_X5_makes_50, k_X5_makes_53, k_X5_makes_56, wp1, wp_s, cutIn, kont, Nat.reduceSub, Nat.reduceAdd, nth, o_const, o_lconst, o_ref, o_iload, o_lload, o_aload, o_istore, o_lstore, o_astore, o_iinc, o_bin, o_div, o_un, o_lbin, o_lsh, o_lcmp, o_i2l, o_l2i, o_if, o_icmp, o_goto, o_dup, o_dup2, o_pop, fav, o_getf, o_putI, o_putZ, o_putL, o_ald, o_ast, o_alen, popn, rst, o_callV, o_callT, o_callS, swx, o_sw, o_ret, o_iret, o_zret, o_cret, o_lret, o_aret, lg, lput, lput2, ls1, isL, entL, wsum, rdI1, rdI2, rdA1, rdA21, rdA22, rdL1, rdL22, rdL21, upN_at, rep, sh_0, F_0_0, F_0_1, F_0_2, F_0_3, F_0_4, F_0_5, F_0_6, F_0_7, F_0_8, sh_1, F_1_0, F_1_1, F_1_2, F_1_3, F_1_4, F_1_5, sh_3, F_3_0, F_3_1, F_3_2, F_3_3, F_3_4, F_3_5, sh_5, F_5_0, F_5_1, F_5_2, F_5_3, F_5_4, F_5_5, F_5_6, F_5_7, F_5_8, sh_12, F_12_0, F_12_1, F_12_2, F_12_3, F_12_4, F_12_5, sh_14, F_14_0, F_14_1, F_14_2, F_14_3, F_14_4, F_14_5, F_14_6, F_14_7, F_14_8, sh_21, F_21_0, F_21_1, F_21_2, F_21_3, F_21_4, F_21_5, F_21_6, F_21_7, F_21_8, sh_28, F_28_0, F_28_1, F_28_2, F_28_3, F_28_4, F_28_5, F_28_6, F_28_7, F_28_8, sh_35, F_35_0, sh_39, F_39_0, F_39_1, F_39_2, F_39_3, F_39_4, F_39_5, F_39_6, F_39_7, F_39_8, F_39_9, F_39_10, F_39_11, F_39_12, F_39_13, A_2, A_4, A_6, A_7, A_8, A_9, A_10, A_11, A_13, A_15, A_16, A_17, A_18, A_19, A_20, A_22, A_23, A_24, A_25, A_26, A_27, A_29, A_30, A_31, A_32, A_33, A_34, A_36, A_37, A_38, A_40, A_41, A_42, A_43, A_44, A_45, A_46, A_47]
      rw [show (256 : Int32) = nI 256 from rfl]
      simp (disch := omega) only [nI_leI, nI_ltI, nI_eq, nI_1, nI_add, one_shl, nI_or, nI_xor, nI_and, bit_0, bit_1, true_or, or_true, true_and, and_true, eq_self, not_true_eq_false, not_false_eq_true, forall_const]
      have hrl : ∀ k, k < n → r k < 512 := fun k hk => (hr k hk).2
      rw [In_iff, In_nI (by omega) (by omega)]
      refine ⟨fun q => h f fun v hv => ?_, fun q => ⟨fun q2 => ?_, fun q2 => ?_⟩⟩
      · have e : i = 256 := by omega
        subst e
        have hsp := span (S := T) n hrl v
        refine ⟨fun z => (hf v hv).1 ?_, fun z => (hf v hv).2 fun z2 => z (hsp.mpr ?_)⟩
        · obtain ⟨U, hU, hUv⟩ := hsp.mp z
          exact ⟨U, sub_lt hU hT8, hU, hUv⟩
        · obtain ⟨U, _, hU, hUv⟩ := z2
          exact ⟨U, hU, hUv⟩
      · have hx := xr_lt (f := r) (T := i) n hrl
        refine ⟨i, n, c, p, r, h0, lk, rfl, sub_lt q2 hT, MW_36 hX0 f, ?_⟩
        dsimp only [k_X5_makes_0, k_X5_makes_1, k_X5_makes_2, k_X5_makes_3, k_X5_makes_6, k_X5_makes_9, k_X5_makes_10, k_X5_makes_13, k_X5_makes_14, k_X5_makes_15, k_X5_makes_16, k_X5_makes_19, k_X5_makes_22, k_X5_makes_23, k_X5_makes_24, k_X5_makes_25, k_X5_makes_28, k_X5_makes_31, k_X5_makes_32, k_X5_makes_33, k_X5_makes_34, k_X5_makes_35, k_X5_makes_36, k_X5_makes_39, k_X5_makes_40, k_X5_makes_43, k_X5_makes_44, k_X5_makes_45, k_X5_makes_48, k_X5_makes_49, k_X5_makes_50, k_X5_makes_53, k_X5_makes_56, wp1, wp_s, cutIn, kont, Nat.reduceSub, Nat.reduceAdd, nth, o_const, o_lconst, o_ref, o_iload, o_lload, o_aload, o_istore, o_lstore, o_astore, o_iinc, o_bin, o_div, o_un, o_lbin, o_lsh, o_lcmp, o_i2l, o_l2i, o_if, o_icmp, o_goto, o_dup, o_dup2, o_pop, fav, o_getf, o_putI, o_putZ, o_putL, o_ald, o_ast, o_alen, popn, rst, o_callV, o_callT, o_callS, swx, o_sw, o_ret, o_iret, o_zret, o_cret, o_lret, o_aret, lg, lput, lput2, ls1, isL, entL, wsum, rdI1, rdI2, rdA1, rdA21, rdA22, rdL1, rdL22, rdL21, upN_at, rep, sh_0, F_0_0, F_0_1, F_0_2, F_0_3, F_0_4, F_0_5, F_0_6, F_0_7, F_0_8, sh_1, F_1_0, F_1_1, F_1_2, F_1_3, F_1_4, F_1_5, sh_3, F_3_0, F_3_1, F_3_2, F_3_3, F_3_4, F_3_5, sh_5, F_5_0, F_5_1, F_5_2, F_5_3, F_5_4, F_5_5, F_5_6, F_5_7, F_5_8, sh_12, F_12_0, F_12_1, F_12_2, F_12_3, F_12_4, F_12_5, sh_14, F_14_0, F_14_1, F_14_2, F_14_3, F_14_4, F_14_5, F_14_6, F_14_7, F_14_8, sh_21, F_21_0, F_21_1, F_21_2, F_21_3, F_21_4, F_21_5, F_21_6, F_21_7, F_21_8, sh_28, F_28_0, F_28_1, F_28_2, F_28_3, F_28_4, F_28_5, F_28_6, F_28_7, F_28_8, sh_35, F_35_0, sh_39, F_39_0, F_39_1, F_39_2, F_39_3, F_39_4, F_39_5, F_39_6, F_39_7, F_39_8, F_39_9, F_39_10, F_39_11, F_39_12, F_39_13, A_2, A_4, A_6, A_7, A_8, A_9, A_10, A_11, A_13, A_15, A_16, A_17, A_18, A_19, A_20, A_22, A_23, A_24, A_25, A_26, A_27, A_29, A_30, A_31, A_32, A_33, A_34, A_36, A_37, A_38, A_40, A_41, A_42, A_43, A_44, A_45, A_46, A_47]
        refine ⟨_, hx, rfl, cut _ _ ⟨rfl, Or.inr ⟨rfl, i + 1, upd f (xrN r i n) 1, by omega, fun v hv => ?_, ?_, rfl, rfl⟩⟩ (by omega) ⟨rfl, rfl, vi_eq (nI_1 _), trivial⟩⟩
        · by_cases e : v = xrN r i n
          · rw [e, upd_s]
            exact ⟨fun _ => rfl, fun z => absurd ⟨i, by omega, q2, rfl⟩ z⟩
          · rw [upd_n _ _ e]
            refine ⟨fun ⟨U, hU, hU2, hU3⟩ => (hf v hv).1 ⟨U, ?_, hU2, hU3⟩, fun z => (hf v hv).2 fun ⟨U, hU, hU2, hU3⟩ => z ⟨U, by omega, hU2, hU3⟩⟩
            rcases Nat.lt_or_ge U i with g | g
            · exact g
            · exact absurd (by rw [← hU3, show U = i by omega]) e
        · rw [sA_sA]; rfl
      · refine cut _ _ ⟨rfl, Or.inr ⟨rfl, i + 1, f, by omega, fun v hv => ?_, rfl, rfl, rfl⟩⟩ (by omega) ⟨rfl, rfl, rfl, trivial⟩
        refine ⟨fun ⟨U, hU, hU2, hU3⟩ => (hf v hv).1 ⟨U, ?_, hU2, hU3⟩, fun z => (hf v hv).2 fun ⟨U, hU, hU2, hU3⟩ => z ⟨U, by omega, hU2, hU3⟩⟩
        rcases Nat.lt_or_ge U i with g | g
        · exact g
        · exact absurd (by rw [← show U = i by omega]; exact hU2) q2
  · dsimp only [k_X5_makes_0, k_X5_makes_1, k_X5_makes_2, k_X5_makes_3, k_X5_makes_6, k_X5_makes_9, k_X5_makes_10, k_X5_makes_13, k_X5_makes_14, k_X5_makes_15, k_X5_makes_16, k_X5_makes_19, k_X5_makes_22, k_X5_makes_23, k_X5_makes_24, k_X5_makes_25, k_X5_makes_28, k_X5_makes_31, k_X5_makes_32, k_X5_makes_33, k_X5_makes_34, k_X5_makes_35, k_X5_makes_36, k_X5_makes_39, k_X5_makes_40, k_X5_makes_43, k_X5_makes_44, k_X5_makes_45, k_X5_makes_48, k_X5_makes_49, k_X5_makes_50, k_X5_makes_53, k_X5_makes_56, wp1, wp_s, cutIn, kont, Nat.reduceSub, Nat.reduceAdd, nth, o_const, o_lconst, o_ref, o_iload, o_lload, o_aload, o_istore, o_lstore, o_astore, o_iinc, o_bin, o_div, o_un, o_lbin, o_lsh, o_lcmp, o_i2l, o_l2i, o_if, o_icmp, o_goto, o_dup, o_dup2, o_pop, fav, o_getf, o_putI, o_putZ, o_putL, o_ald, o_ast, o_alen, popn, rst, o_callV, o_callT, o_callS, swx, o_sw, o_ret, o_iret, o_zret, o_cret, o_lret, o_aret, lg, lput, lput2, ls1, isL, entL, wsum, rdI1, rdI2, rdA1, rdA21, rdA22, rdL1, rdL22, rdL21, upN_at, rep, sh_0, F_0_0, F_0_1, F_0_2, F_0_3, F_0_4, F_0_5, F_0_6, F_0_7, F_0_8, sh_1, F_1_0, F_1_1, F_1_2, F_1_3, F_1_4, F_1_5, sh_3, F_3_0, F_3_1, F_3_2, F_3_3, F_3_4, F_3_5, sh_5, F_5_0, F_5_1, F_5_2, F_5_3, F_5_4, F_5_5, F_5_6, F_5_7, F_5_8, sh_12, F_12_0, F_12_1, F_12_2, F_12_3, F_12_4, F_12_5, sh_14, F_14_0, F_14_1, F_14_2, F_14_3, F_14_4, F_14_5, F_14_6, F_14_7, F_14_8, sh_21, F_21_0, F_21_1, F_21_2, F_21_3, F_21_4, F_21_5, F_21_6, F_21_7, F_21_8, sh_28, F_28_0, F_28_1, F_28_2, F_28_3, F_28_4, F_28_5, F_28_6, F_28_7, F_28_8, sh_35, F_35_0, sh_39, F_39_0, F_39_1, F_39_2, F_39_3, F_39_4, F_39_5, F_39_6, F_39_7, F_39_8, F_39_9, F_39_10, F_39_11, F_39_12, F_39_13, A_2, A_4, A_6, A_7, A_8, A_9, A_10, A_11, A_13, A_15, A_16, A_17, A_18, A_19, A_20, A_22, A_23, A_24, A_25, A_26, A_27, A_29, A_30, A_31, A_32, A_33, A_34, A_36, A_37, A_38, A_40, A_41, A_42, A_43, A_44, A_45, A_46, A_47]
    exact cut _ _ ⟨rfl, Or.inl ⟨rfl, 0, M.2.2 36, by omega, fun v hv => absurd hv (by omega), (sA_self 36 M).symm, rfl, rfl⟩⟩ (by omega) ⟨rfl, rfl, rfl, trivial⟩
set_option maxRecDepth 100000 in
theorem v_X5_open : ∀ as M post, S_X5_open as M post → wsum as ≤ 3 ∧ RUN (T_X5_open post) 0 (entL 3 as) [] M := by
  rintro as M post ⟨T, n, c, p, r, h0, lk, rfl, ⟨hn, hn8, hc, hc6, hp, hp4, hr, hhk, hl⟩, hm, h⟩
  refine ⟨by show 1 ≤ 3; omega, run_of [4] (fun μ pc lv st M' => pc = 4 ∧ st = [] ∧ M' = M ∧ ∃ i, i ≤ c ∧ 10 - i = μ ∧ lv = [some (VR 39), some (VI (nI (opn r n lk i T))), some (VI (nI i))]) 40 20 ?_ ?_⟩
  · rintro μ pc lv st M' ⟨rfl, rfl, rfl, i, hi, rfl, rfl⟩
    dsimp only [k_X5_open_0, k_X5_open_1, k_X5_open_2, k_X5_open_3, k_X5_open_4, k_X5_open_5, k_X5_open_6, k_X5_open_9, k_X5_open_10, k_X5_open_11, k_X5_open_14, k_X5_open_15, k_X5_open_16, k_X5_open_19, k_X5_open_20, k_X5_open_23, k_X5_open_24, k_X5_open_25, k_X5_open_26, k_X5_open_27, k_X5_open_28, k_X5_open_31, k_X5_open_32, k_X5_open_33, k_X5_open_34, k_X5_open_37, k_X5_open_38, k_X5_open_39, k_X5_open_40, k_X5_open_43, k_X5_open_46, k_X5_open_47, wp1, wp_s, cutIn, kont, Nat.reduceSub, Nat.reduceAdd, nth, o_const, o_lconst, o_ref, o_iload, o_lload, o_aload, o_istore, o_lstore, o_astore, o_iinc, o_bin, o_div, o_un, o_lbin, o_lsh, o_lcmp, o_i2l, o_l2i, o_if, o_icmp, o_goto, o_dup, o_dup2, o_pop, fav, o_getf, o_putI, o_putZ, o_putL, o_ald, o_ast, o_alen, popn, rst, o_callV, o_callT, o_callS, swx, o_sw, o_ret, o_iret, o_zret, o_cret, o_lret, o_aret, lg, lput, lput2, ls1, isL, entL, wsum, rdI1, rdI2, rdA1, rdA21, rdA22, rdL1, rdL22, rdL21, upN_at, rep, sh_0, F_0_0, F_0_1, F_0_2, F_0_3, F_0_4, F_0_5, F_0_6, F_0_7, F_0_8, sh_1, F_1_0, F_1_1, F_1_2, F_1_3, F_1_4, F_1_5, sh_3, F_3_0, F_3_1, F_3_2, F_3_3, F_3_4, F_3_5, sh_5, F_5_0, F_5_1, F_5_2, F_5_3, F_5_4, F_5_5, F_5_6, F_5_7, F_5_8, sh_12, F_12_0, F_12_1, F_12_2, F_12_3, F_12_4, F_12_5, sh_14, F_14_0, F_14_1, F_14_2, F_14_3, F_14_4, F_14_5, F_14_6, F_14_7, F_14_8, sh_21, F_21_0, F_21_1, F_21_2, F_21_3, F_21_4, F_21_5, F_21_6, F_21_7, F_21_8, sh_28, F_28_0, F_28_1, F_28_2, F_28_3, F_28_4, F_28_5, F_28_6, F_28_7, F_28_8, sh_35, F_35_0, sh_39, F_39_0, F_39_1, F_39_2, F_39_3, F_39_4, F_39_5, F_39_6, F_39_7, F_39_8, F_39_9, F_39_10, F_39_11, F_39_12, F_39_13, A_2, A_4, A_6, A_7, A_8, A_9, A_10, A_11, A_13, A_15, A_16, A_17, A_18, A_19, A_20, A_22, A_23, A_24, A_25, A_26, A_27, A_29, A_30, A_31, A_32, A_33, A_34, A_36, A_37, A_38, A_40, A_41, A_42, A_43, A_44, A_45, A_46, A_47]
    refine ⟨0, by omega, rfl, ?_⟩
    rw [hc]
    simp (disch := omega) only [nI_leI, nI_ltI, nI_eq, nI_1, nI_add, one_shl, nI_or, nI_xor, nI_and, bit_0, bit_1, true_or, or_true, true_and, and_true, eq_self, not_true_eq_false, not_false_eq_true, forall_const]
    refine ⟨fun z => ?_, fun z => ⟨4 + i, by omega, nI_add 4 i, lk i, (hl i (by omega)).2, (hl i (by omega)).1, ?_⟩⟩
    · rw [show c = i by omega] at h; exact h
    · obtain ⟨m1, m2⟩ := hm (lk i) (hl i (by omega)).2
      refine ⟨fun q => cut _ _ ⟨rfl, rfl, rfl, i + 1, by omega, rfl, rfl⟩ (by omega) ⟨rfl, vi_eq ?_, rfl, trivial⟩, fun q => cut _ _ ⟨rfl, rfl, rfl, i + 1, by omega, rfl, rfl⟩ (by omega) ⟨rfl, vi_eq ?_, rfl, trivial⟩⟩
      · rw [or_0]; unfold opn; rw [mk_0]
        by_cases e : rs (fsp r T n) (lk i) 9 = 0
        · rw [m1 e] at q; exact absurd q (by decide)
        · simpa using e
      · unfold opn; rw [mk_1]
        by_cases e : rs (fsp r T n) (lk i) 9 = 0
        · simpa using e
        · exact absurd (m2 e) q
  · dsimp only [k_X5_open_0, k_X5_open_1, k_X5_open_2, k_X5_open_3, k_X5_open_4, k_X5_open_5, k_X5_open_6, k_X5_open_9, k_X5_open_10, k_X5_open_11, k_X5_open_14, k_X5_open_15, k_X5_open_16, k_X5_open_19, k_X5_open_20, k_X5_open_23, k_X5_open_24, k_X5_open_25, k_X5_open_26, k_X5_open_27, k_X5_open_28, k_X5_open_31, k_X5_open_32, k_X5_open_33, k_X5_open_34, k_X5_open_37, k_X5_open_38, k_X5_open_39, k_X5_open_40, k_X5_open_43, k_X5_open_46, k_X5_open_47, wp1, wp_s, cutIn, kont, Nat.reduceSub, Nat.reduceAdd, nth, o_const, o_lconst, o_ref, o_iload, o_lload, o_aload, o_istore, o_lstore, o_astore, o_iinc, o_bin, o_div, o_un, o_lbin, o_lsh, o_lcmp, o_i2l, o_l2i, o_if, o_icmp, o_goto, o_dup, o_dup2, o_pop, fav, o_getf, o_putI, o_putZ, o_putL, o_ald, o_ast, o_alen, popn, rst, o_callV, o_callT, o_callS, swx, o_sw, o_ret, o_iret, o_zret, o_cret, o_lret, o_aret, lg, lput, lput2, ls1, isL, entL, wsum, rdI1, rdI2, rdA1, rdA21, rdA22, rdL1, rdL22, rdL21, upN_at, rep, sh_0, F_0_0, F_0_1, F_0_2, F_0_3, F_0_4, F_0_5, F_0_6, F_0_7, F_0_8, sh_1, F_1_0, F_1_1, F_1_2, F_1_3, F_1_4, F_1_5, sh_3, F_3_0, F_3_1, F_3_2, F_3_3, F_3_4, F_3_5, sh_5, F_5_0, F_5_1, F_5_2, F_5_3, F_5_4, F_5_5, F_5_6, F_5_7, F_5_8, sh_12, F_12_0, F_12_1, F_12_2, F_12_3, F_12_4, F_12_5, sh_14, F_14_0, F_14_1, F_14_2, F_14_3, F_14_4, F_14_5, F_14_6, F_14_7, F_14_8, sh_21, F_21_0, F_21_1, F_21_2, F_21_3, F_21_4, F_21_5, F_21_6, F_21_7, F_21_8, sh_28, F_28_0, F_28_1, F_28_2, F_28_3, F_28_4, F_28_5, F_28_6, F_28_7, F_28_8, sh_35, F_35_0, sh_39, F_39_0, F_39_1, F_39_2, F_39_3, F_39_4, F_39_5, F_39_6, F_39_7, F_39_8, F_39_9, F_39_10, F_39_11, F_39_12, F_39_13, A_2, A_4, A_6, A_7, A_8, A_9, A_10, A_11, A_13, A_15, A_16, A_17, A_18, A_19, A_20, A_22, A_23, A_24, A_25, A_26, A_27, A_29, A_30, A_31, A_32, A_33, A_34, A_36, A_37, A_38, A_40, A_41, A_42, A_43, A_44, A_45, A_46, A_47]
    exact cut _ _ ⟨rfl, rfl, rfl, 0, by omega, rfl, rfl⟩ (by omega) ⟨rfl, rfl, rfl, trivial⟩
theorem hh_iff {h : Nat → Int32} {g k : Nat} : ∀ {p : Nat}, hh h g p k = true ↔ ∃ q, q < p ∧ g.testBit q = true ∧ h k = nI q := by
  intro p
  induction p with
  | zero => exact ⟨(fun z => by cases z), fun ⟨q, hq, _⟩ => absurd hq (by omega)⟩
  | succ p ih =>
    rw [hh, Bool.or_eq_true, ih, Bool.and_eq_true]
    constructor
    · rintro (⟨q, hq, h1, h2⟩ | ⟨h1, h2⟩)
      · exact ⟨q, by omega, h1, h2⟩
      · exact ⟨p, by omega, h1, by simpa using h2⟩
    · rintro ⟨q, hq, h1, h2⟩
      by_cases e : q = p
      · subst e; exact Or.inr ⟨h1, by simpa using h2⟩
      · exact Or.inl ⟨q, by omega, h1, h2⟩
theorem q3 : ∀ q, q < 4 → nI q &&& 3 = nI q := by decide
set_option maxRecDepth 100000 in
theorem v_X5_heldBy : ∀ as M post, S_X5_heldBy as M post → wsum as ≤ 4 ∧ RUN (T_X5_heldBy post) 0 (entL 4 as) [] M := by
  rintro as M post ⟨g, n, c, p, r, h0, lk, rfl, ⟨hn, hn8, hc, hc6, hp, hp4, hr, hhk, hl⟩, hh2, hg, h⟩
  refine ⟨by show 2 ≤ 4; omega, run_of [4] (fun μ pc lv st M' => pc = 4 ∧ st = [] ∧ M' = M ∧ ∃ i, i ≤ n ∧ 10 - i = μ ∧ lv = [some (VR 39), some (VI (nI g)), some (VI (nI (hd h0 g p i))), some (VI (nI i))]) 40 20 ?_ ?_⟩
  · rintro μ pc lv st M' ⟨rfl, rfl, rfl, i, hi, rfl, rfl⟩
    dsimp only [k_X5_heldBy_0, k_X5_heldBy_1, k_X5_heldBy_2, k_X5_heldBy_3, k_X5_heldBy_4, k_X5_heldBy_5, k_X5_heldBy_6, k_X5_heldBy_9, k_X5_heldBy_10, k_X5_heldBy_11, k_X5_heldBy_14, k_X5_heldBy_15, k_X5_heldBy_16, k_X5_heldBy_19, k_X5_heldBy_21, k_X5_heldBy_22, k_X5_heldBy_23, k_X5_heldBy_24, k_X5_heldBy_27, k_X5_heldBy_28, k_X5_heldBy_29, k_X5_heldBy_32, k_X5_heldBy_34, k_X5_heldBy_35, k_X5_heldBy_36, k_X5_heldBy_37, k_X5_heldBy_38, k_X5_heldBy_39, k_X5_heldBy_40, k_X5_heldBy_41, k_X5_heldBy_42, k_X5_heldBy_43, k_X5_heldBy_46, k_X5_heldBy_47, k_X5_heldBy_48, k_X5_heldBy_49, k_X5_heldBy_52, k_X5_heldBy_53, k_X5_heldBy_54, k_X5_heldBy_55, k_X5_heldBy_58, k_X5_heldBy_61, k_X5_heldBy_62, wp1, wp_s, cutIn, kont, Nat.reduceSub, Nat.reduceAdd, nth, o_const, o_lconst, o_ref, o_iload, o_lload, o_aload, o_istore, o_lstore, o_astore, o_iinc, o_bin, o_div, o_un, o_lbin, o_lsh, o_lcmp, o_i2l, o_l2i, o_if, o_icmp, o_goto, o_dup, o_dup2, o_pop, fav, o_getf, o_putI, o_putZ, o_putL, o_ald, o_ast, o_alen, popn, rst, o_callV, o_callT, o_callS, swx, o_sw, o_ret, o_iret, o_zret, o_cret, o_lret, o_aret, lg, lput, lput2, ls1, isL, entL, wsum, rdI1, rdI2, rdA1, rdA21, rdA22, rdL1, rdL22, rdL21, upN_at, rep, sh_0, F_0_0, F_0_1, F_0_2, F_0_3, F_0_4, F_0_5, F_0_6, F_0_7, F_0_8, sh_1, F_1_0, F_1_1, F_1_2, F_1_3, F_1_4, F_1_5, sh_3, F_3_0, F_3_1, F_3_2, F_3_3, F_3_4, F_3_5, sh_5, F_5_0, F_5_1, F_5_2, F_5_3, F_5_4, F_5_5, F_5_6, F_5_7, F_5_8, sh_12, F_12_0, F_12_1, F_12_2, F_12_3, F_12_4, F_12_5, sh_14, F_14_0, F_14_1, F_14_2, F_14_3, F_14_4, F_14_5, F_14_6, F_14_7, F_14_8, sh_21, F_21_0, F_21_1, F_21_2, F_21_3, F_21_4, F_21_5, F_21_6, F_21_7, F_21_8, sh_28, F_28_0, F_28_1, F_28_2, F_28_3, F_28_4, F_28_5, F_28_6, F_28_7, F_28_8, sh_35, F_35_0, sh_39, F_39_0, F_39_1, F_39_2, F_39_3, F_39_4, F_39_5, F_39_6, F_39_7, F_39_8, F_39_9, F_39_10, F_39_11, F_39_12, F_39_13, A_2, A_4, A_6, A_7, A_8, A_9, A_10, A_11, A_13, A_15, A_16, A_17, A_18, A_19, A_20, A_22, A_23, A_24, A_25, A_26, A_27, A_29, A_30, A_31, A_32, A_33, A_34, A_36, A_37, A_38, A_40, A_41, A_42, A_43, A_44, A_45, A_46, A_47]
    refine ⟨0, by omega, rfl, ?_⟩
    rw [hn]
    simp (disch := omega) only [nI_leI, nI_ltI, nI_eq, nI_1, nI_add, one_shl, nI_or, nI_xor, nI_and, bit_0, bit_1, true_or, or_true, true_and, and_true, eq_self, not_true_eq_false, not_false_eq_true, forall_const]
    refine ⟨fun z => ?_, fun z => ⟨9 + i, by omega, nI_add 9 i, ?_⟩⟩
    · rw [show n = i by omega] at h; exact h
    · rw [hhk i (by omega)]
      refine ⟨fun q => cut _ _ ⟨rfl, rfl, rfl, i + 1, by omega, rfl, rfl⟩ (by omega) ⟨rfl, rfl, vi_eq ?_, rfl, trivial⟩, fun q => ⟨9 + i, by omega, nI_add 9 i, ?_⟩⟩
      · rw [or_0]; unfold hd; rw [mk_0]
        rw [Bool.eq_false_iff]
        intro z2
        obtain ⟨t, ht, _, e⟩ := hh_iff.mp z2
        rw [e] at q
        exact nI_pos (by omega) q
      · rw [hhk i (by omega)]
        rcases hh2 i (by omega) with e | ⟨t, ht, e⟩
        · exact absurd e q
        · rw [e, q3 t (by omega)]
          simp (disch := omega) only [nI_leI, nI_ltI, nI_eq, nI_1, nI_add, one_shl, nI_or, nI_xor, nI_and, bit_0, bit_1, true_or, or_true, true_and, and_true, eq_self, not_true_eq_false, not_false_eq_true, forall_const]
          have hz : hh h0 g p i = g.testBit t := by
            rw [Bool.eq_iff_iff, hh_iff]
            refine ⟨fun ⟨t', ht', hb, e'⟩ => ?_, fun hb => ⟨t, ht, hb, e⟩⟩
            rw [e] at e'
            rw [nI_inj (by omega) (by omega) e']; exact hb
          refine ⟨fun q2 => cut _ _ ⟨rfl, rfl, rfl, i + 1, by omega, rfl, rfl⟩ (by omega) ⟨rfl, rfl, vi_eq ?_, rfl, trivial⟩, fun q2 => cut _ _ ⟨rfl, rfl, rfl, i + 1, by omega, rfl, rfl⟩ (by omega) ⟨rfl, rfl, vi_eq ?_, rfl, trivial⟩⟩
          · unfold hd; rw [mk_1 (by rw [hz]; exact q2)]
          · rw [or_0]; unfold hd; rw [mk_0 (by rw [hz]; simpa using q2)]
  · dsimp only [k_X5_heldBy_0, k_X5_heldBy_1, k_X5_heldBy_2, k_X5_heldBy_3, k_X5_heldBy_4, k_X5_heldBy_5, k_X5_heldBy_6, k_X5_heldBy_9, k_X5_heldBy_10, k_X5_heldBy_11, k_X5_heldBy_14, k_X5_heldBy_15, k_X5_heldBy_16, k_X5_heldBy_19, k_X5_heldBy_21, k_X5_heldBy_22, k_X5_heldBy_23, k_X5_heldBy_24, k_X5_heldBy_27, k_X5_heldBy_28, k_X5_heldBy_29, k_X5_heldBy_32, k_X5_heldBy_34, k_X5_heldBy_35, k_X5_heldBy_36, k_X5_heldBy_37, k_X5_heldBy_38, k_X5_heldBy_39, k_X5_heldBy_40, k_X5_heldBy_41, k_X5_heldBy_42, k_X5_heldBy_43, k_X5_heldBy_46, k_X5_heldBy_47, k_X5_heldBy_48, k_X5_heldBy_49, k_X5_heldBy_52, k_X5_heldBy_53, k_X5_heldBy_54, k_X5_heldBy_55, k_X5_heldBy_58, k_X5_heldBy_61, k_X5_heldBy_62, wp1, wp_s, cutIn, kont, Nat.reduceSub, Nat.reduceAdd, nth, o_const, o_lconst, o_ref, o_iload, o_lload, o_aload, o_istore, o_lstore, o_astore, o_iinc, o_bin, o_div, o_un, o_lbin, o_lsh, o_lcmp, o_i2l, o_l2i, o_if, o_icmp, o_goto, o_dup, o_dup2, o_pop, fav, o_getf, o_putI, o_putZ, o_putL, o_ald, o_ast, o_alen, popn, rst, o_callV, o_callT, o_callS, swx, o_sw, o_ret, o_iret, o_zret, o_cret, o_lret, o_aret, lg, lput, lput2, ls1, isL, entL, wsum, rdI1, rdI2, rdA1, rdA21, rdA22, rdL1, rdL22, rdL21, upN_at, rep, sh_0, F_0_0, F_0_1, F_0_2, F_0_3, F_0_4, F_0_5, F_0_6, F_0_7, F_0_8, sh_1, F_1_0, F_1_1, F_1_2, F_1_3, F_1_4, F_1_5, sh_3, F_3_0, F_3_1, F_3_2, F_3_3, F_3_4, F_3_5, sh_5, F_5_0, F_5_1, F_5_2, F_5_3, F_5_4, F_5_5, F_5_6, F_5_7, F_5_8, sh_12, F_12_0, F_12_1, F_12_2, F_12_3, F_12_4, F_12_5, sh_14, F_14_0, F_14_1, F_14_2, F_14_3, F_14_4, F_14_5, F_14_6, F_14_7, F_14_8, sh_21, F_21_0, F_21_1, F_21_2, F_21_3, F_21_4, F_21_5, F_21_6, F_21_7, F_21_8, sh_28, F_28_0, F_28_1, F_28_2, F_28_3, F_28_4, F_28_5, F_28_6, F_28_7, F_28_8, sh_35, F_35_0, sh_39, F_39_0, F_39_1, F_39_2, F_39_3, F_39_4, F_39_5, F_39_6, F_39_7, F_39_8, F_39_9, F_39_10, F_39_11, F_39_12, F_39_13, A_2, A_4, A_6, A_7, A_8, A_9, A_10, A_11, A_13, A_15, A_16, A_17, A_18, A_19, A_20, A_22, A_23, A_24, A_25, A_26, A_27, A_29, A_30, A_31, A_32, A_33, A_34, A_36, A_37, A_38, A_40, A_41, A_42, A_43, A_44, A_45, A_46, A_47]
    exact cut _ _ ⟨rfl, rfl, rfl, 0, by omega, rfl, rfl⟩ (by omega) ⟨rfl, rfl, rfl, rfl, trivial⟩
theorem c_X5_makes : Ctr yX5_makes cX5_makes 3 none ({ frames := 1, cells := 0, slots := 0, locals := 23 } : Room) S_X5_makes := ctr_of (T := T_X5_makes) (by decide +kernel) (fun post C hr => t_X5_makes post C hr) v_X5_makes
theorem c_X5_open : Ctr yX5_open cX5_open 3 (some .int) ({ frames := 0, cells := 0, slots := 0, locals := 0 } : Room) S_X5_open := ctr_of (T := T_X5_open) (by decide +kernel) (fun post C hr => t_X5_open post C hr) v_X5_open
theorem c_X5_heldBy : Ctr yX5_heldBy cX5_heldBy 4 (some .int) ({ frames := 0, cells := 0, slots := 0, locals := 0 } : Room) S_X5_heldBy := ctr_of (T := T_X5_heldBy) (by decide +kernel) (fun post C hr => t_X5_heldBy post C hr) v_X5_heldBy
