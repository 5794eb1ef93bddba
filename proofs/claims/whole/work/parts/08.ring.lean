/-! The class's rings. -/
/-- a truth as an answer -/
def pz (P : Prop) (post : PO) (M : AM) : Prop := (P → post (some (VI 1)) M) ∧ (¬ P → post (some (VI 0)) M)
def S_X1_has : SP := fun as M post => ∃ k x, as = [VR k, VI x] ∧ ((k = 5 ∧ pz (0 ≤ x ∧ x < M.1 9) post M) ∨ (k = 14 ∧ pz (0 ≤ x ∧ x < M.1 16) post M))
def S_X1_keptBy : SP := fun as M post => ∃ x n, as = [VR 5, VI x] ∧ M.1 9 = nI n ∧ n ≤ 8 ∧ post (some (VI (nI (mk (fun k => M.2.2 3 k == x) n)))) M
def S_X1_empty : SP := fun as M post => as = [VR 14] ∧ post none (sI 17 0 (sI 16 0 M))
def S_X1_append : SP := fun as M post => ∃ k x, as = [VR k, VI x] ∧ ((k = 5 ∧ ∃ n, M.1 9 = nI n ∧ n ≤ 8 ∧ (n = 8 → post (some (VI 0)) M) ∧ (n < 8 → post (some (VI 1)) (sI 9 (nI (n + 1)) (sA 3 (upd (M.2.2 3) n (-4)) (sA 2 (upd (M.2.2 2) n x) M)))))
  ∨ (k = 14 ∧ ∃ n, M.1 16 = nI n ∧ n ≤ 8 ∧ (n = 8 → post (some (VI 0)) M) ∧ (n < 8 → post (some (VI 1)) (sI 16 (nI (n + 1)) (sA 10 (upd (M.2.2 10) n (-4)) (sA 9 (upd (M.2.2 9) n x) M))))))
theorem fl_RX1_30 : Cond.fieldLink RX1 30 (TX1 2).1 (TX1 2).2.1 (TX1 2).2.2.1 ∈ tb := tb_of 120 (by decide +kernel) (by decide +kernel)
theorem dX1_has_0 : decode cX1_has 0 = .ok (.iload_n 1, 1) := by decide +kernel
theorem dX1_has_1 : decode cX1_has 1 = .ok (.ifCond .lt 15, 3) := by decide +kernel
theorem dX1_has_4 : decode cX1_has 4 = .ok (.iload_n 1, 1) := by decide +kernel
theorem dX1_has_5 : decode cX1_has 5 = .ok (.aload_n 0, 1) := by decide +kernel
theorem dX1_has_6 : decode cX1_has 6 = .ok (.getfield 30, 3) := by decide +kernel
theorem dX1_has_9 : decode cX1_has 9 = .ok (.if_icmp .ge 7, 3) := by decide +kernel
theorem dX1_has_12 : decode cX1_has 12 = .ok (.iconst 1, 1) := by decide +kernel
theorem dX1_has_13 : decode cX1_has 13 = .ok (.goto 4, 3) := by decide +kernel
theorem dX1_has_16 : decode cX1_has 16 = .ok (.iconst 0, 1) := by decide +kernel
theorem dX1_has_17 : decode cX1_has 17 = .ok (.ireturn, 1) := by decide +kernel
def T_X1_has (post : PO) : List (Nat × OP) := [(0, o_iload 1 1), (1, o_if (fun x => x < 0) 16 4), (4, o_iload 1 5), (5, o_aload 0 6), (6, o_getf 1 2 9), (9, o_icmp (fun x y => y ≤ x) 16 12), (12, o_const 1 13), (13, o_goto 17), (16, o_const 0 17), (17, o_zret post)]
theorem k_X1_has_0 (post : PO) : lk (T_X1_has post) 0 = o_iload 1 1 := rfl
theorem k_X1_has_1 (post : PO) : lk (T_X1_has post) 1 = o_if (fun x => x < 0) 16 4 := rfl
theorem k_X1_has_4 (post : PO) : lk (T_X1_has post) 4 = o_iload 1 5 := rfl
theorem k_X1_has_5 (post : PO) : lk (T_X1_has post) 5 = o_aload 0 6 := rfl
theorem k_X1_has_6 (post : PO) : lk (T_X1_has post) 6 = o_getf 1 2 9 := rfl
theorem k_X1_has_9 (post : PO) : lk (T_X1_has post) 9 = o_icmp (fun x y => y ≤ x) 16 12 := rfl
theorem k_X1_has_12 (post : PO) : lk (T_X1_has post) 12 = o_const 1 13 := rfl
theorem k_X1_has_13 (post : PO) : lk (T_X1_has post) 13 = o_goto 17 := rfl
theorem k_X1_has_16 (post : PO) : lk (T_X1_has post) 16 = o_const 0 17 := rfl
theorem k_X1_has_17 (post : PO) : lk (T_X1_has post) 17 = o_zret post := rfl
set_option maxRecDepth 100000 in
theorem t_X1_has {p : Program} {l : Launch} {e : Env} {s : State} {m : MethodId} {args : Array Value} {below : List Frame} {meth : Method} {c : Code} {D : va_G} {dA : Nat → ClassId} {ad : Nat → Nat} (post : PO) (C : CX p s m args meth c cX1_has 2 yX1_has.cls D dA ad (AA ad s.heap.size)) (hr : meth.sig.returnType = (some .boolean)) : SndL (WW p l e ({ frames := 0, cells := 0, slots := 0, locals := 0 } : Room) s m args below meth c 0 0 (MQ below (CQ D dA ad post (AA ad s.heap.size)) args s 0 0 (AA ad s.heap.size)) 2 D dA ad (AA ad s.heap.size)) (T_X1_has post) := by
  refine snd_c (s_iload_n C rfl dX1_has_0) ?_
  refine snd_c (s_if_lt C dX1_has_1 (by decide)) ?_
  refine snd_c (s_iload_n C rfl dX1_has_4) ?_
  refine snd_c (s_aload_n C rfl dX1_has_5) ?_
  refine snd_c (s_getf C (ci := 1) (j := 2) (T := TX1) rfl inX1 (by decide) fl_RX1_30 dX1_has_6) ?_
  refine snd_c (s_icmp_ge C dX1_has_9 (by decide)) ?_
  refine snd_c (s_iconst C dX1_has_12 rfl) ?_
  refine snd_c (s_goto C dX1_has_13 (by decide)) ?_
  refine snd_c (s_iconst C dX1_has_16 rfl) ?_
  refine snd_c (s_zret C hr ⟨rfl, rfl⟩ dX1_has_17) ?_
  exact trivial
theorem fl_RX1_15 : Cond.fieldLink RX1 15 (TX1 1).1 (TX1 1).2.1 (TX1 1).2.2.1 ∈ tb := tb_of 117 (by decide +kernel) (by decide +kernel)
theorem dX1_keptBy_0 : decode cX1_keptBy 0 = .ok (.iconst 0, 1) := by decide +kernel
theorem dX1_keptBy_1 : decode cX1_keptBy 1 = .ok (.istore_n 2, 1) := by decide +kernel
theorem dX1_keptBy_2 : decode cX1_keptBy 2 = .ok (.iconst 0, 1) := by decide +kernel
theorem dX1_keptBy_3 : decode cX1_keptBy 3 = .ok (.istore_n 3, 1) := by decide +kernel
theorem dX1_keptBy_4 : decode cX1_keptBy 4 = .ok (.iload_n 3, 1) := by decide +kernel
theorem dX1_keptBy_5 : decode cX1_keptBy 5 = .ok (.aload_n 0, 1) := by decide +kernel
theorem dX1_keptBy_6 : decode cX1_keptBy 6 = .ok (.getfield 30, 3) := by decide +kernel
theorem dX1_keptBy_9 : decode cX1_keptBy 9 = .ok (.if_icmp .ge 25, 3) := by decide +kernel
theorem dX1_keptBy_12 : decode cX1_keptBy 12 = .ok (.aload_n 0, 1) := by decide +kernel
theorem dX1_keptBy_13 : decode cX1_keptBy 13 = .ok (.getfield 15, 3) := by decide +kernel
theorem dX1_keptBy_16 : decode cX1_keptBy 16 = .ok (.iload_n 3, 1) := by decide +kernel
theorem dX1_keptBy_17 : decode cX1_keptBy 17 = .ok (.iaload, 1) := by decide +kernel
theorem dX1_keptBy_18 : decode cX1_keptBy 18 = .ok (.iload_n 1, 1) := by decide +kernel
theorem dX1_keptBy_19 : decode cX1_keptBy 19 = .ok (.if_icmp .ne 9, 3) := by decide +kernel
theorem dX1_keptBy_22 : decode cX1_keptBy 22 = .ok (.iload_n 2, 1) := by decide +kernel
theorem dX1_keptBy_23 : decode cX1_keptBy 23 = .ok (.iconst 1, 1) := by decide +kernel
theorem dX1_keptBy_24 : decode cX1_keptBy 24 = .ok (.iload_n 3, 1) := by decide +kernel
theorem dX1_keptBy_25 : decode cX1_keptBy 25 = .ok (.ishl, 1) := by decide +kernel
theorem dX1_keptBy_26 : decode cX1_keptBy 26 = .ok (.ior, 1) := by decide +kernel
theorem dX1_keptBy_27 : decode cX1_keptBy 27 = .ok (.istore_n 2, 1) := by decide +kernel
theorem dX1_keptBy_28 : decode cX1_keptBy 28 = .ok (.iinc 3 1, 3) := by decide +kernel
theorem dX1_keptBy_31 : decode cX1_keptBy 31 = .ok (.goto (-27), 3) := by decide +kernel
theorem dX1_keptBy_34 : decode cX1_keptBy 34 = .ok (.iload_n 2, 1) := by decide +kernel
theorem dX1_keptBy_35 : decode cX1_keptBy 35 = .ok (.ireturn, 1) := by decide +kernel
def T_X1_keptBy (post : PO) : List (Nat × OP) := [(0, o_const 0 1), (1, o_istore 2 2), (2, o_const 0 3), (3, o_istore 3 4), (4, o_iload 3 5), (5, o_aload 0 6), (6, o_getf 1 2 9), (9, o_icmp (fun x y => y ≤ x) 34 12), (12, o_aload 0 13), (13, o_getf 1 1 16), (16, o_iload 3 17), (17, o_ald 0 18), (18, o_iload 1 19), (19, o_icmp (fun x y => x = y) 22 28), (22, o_iload 2 23), (23, o_const 1 24), (24, o_iload 3 25), (25, o_bin (fun x y => x <<< (y &&& 31)) 26), (26, o_bin (fun x y => x ||| y) 27), (27, o_istore 2 28), (28, o_iinc 3 1 31), (31, o_goto 4), (34, o_iload 2 35), (35, o_iret post)]
theorem k_X1_keptBy_0 (post : PO) : lk (T_X1_keptBy post) 0 = o_const 0 1 := rfl
theorem k_X1_keptBy_1 (post : PO) : lk (T_X1_keptBy post) 1 = o_istore 2 2 := rfl
theorem k_X1_keptBy_2 (post : PO) : lk (T_X1_keptBy post) 2 = o_const 0 3 := rfl
theorem k_X1_keptBy_3 (post : PO) : lk (T_X1_keptBy post) 3 = o_istore 3 4 := rfl
theorem k_X1_keptBy_4 (post : PO) : lk (T_X1_keptBy post) 4 = o_iload 3 5 := rfl
theorem k_X1_keptBy_5 (post : PO) : lk (T_X1_keptBy post) 5 = o_aload 0 6 := rfl
theorem k_X1_keptBy_6 (post : PO) : lk (T_X1_keptBy post) 6 = o_getf 1 2 9 := rfl
theorem k_X1_keptBy_9 (post : PO) : lk (T_X1_keptBy post) 9 = o_icmp (fun x y => y ≤ x) 34 12 := rfl
theorem k_X1_keptBy_12 (post : PO) : lk (T_X1_keptBy post) 12 = o_aload 0 13 := rfl
theorem k_X1_keptBy_13 (post : PO) : lk (T_X1_keptBy post) 13 = o_getf 1 1 16 := rfl
theorem k_X1_keptBy_16 (post : PO) : lk (T_X1_keptBy post) 16 = o_iload 3 17 := rfl
theorem k_X1_keptBy_17 (post : PO) : lk (T_X1_keptBy post) 17 = o_ald 0 18 := rfl
theorem k_X1_keptBy_18 (post : PO) : lk (T_X1_keptBy post) 18 = o_iload 1 19 := rfl
theorem k_X1_keptBy_19 (post : PO) : lk (T_X1_keptBy post) 19 = o_icmp (fun x y => x = y) 22 28 := rfl
theorem k_X1_keptBy_22 (post : PO) : lk (T_X1_keptBy post) 22 = o_iload 2 23 := rfl
theorem k_X1_keptBy_23 (post : PO) : lk (T_X1_keptBy post) 23 = o_const 1 24 := rfl
theorem k_X1_keptBy_24 (post : PO) : lk (T_X1_keptBy post) 24 = o_iload 3 25 := rfl
theorem k_X1_keptBy_25 (post : PO) : lk (T_X1_keptBy post) 25 = o_bin (fun x y => x <<< (y &&& 31)) 26 := rfl
theorem k_X1_keptBy_26 (post : PO) : lk (T_X1_keptBy post) 26 = o_bin (fun x y => x ||| y) 27 := rfl
theorem k_X1_keptBy_27 (post : PO) : lk (T_X1_keptBy post) 27 = o_istore 2 28 := rfl
theorem k_X1_keptBy_28 (post : PO) : lk (T_X1_keptBy post) 28 = o_iinc 3 1 31 := rfl
theorem k_X1_keptBy_31 (post : PO) : lk (T_X1_keptBy post) 31 = o_goto 4 := rfl
theorem k_X1_keptBy_34 (post : PO) : lk (T_X1_keptBy post) 34 = o_iload 2 35 := rfl
theorem k_X1_keptBy_35 (post : PO) : lk (T_X1_keptBy post) 35 = o_iret post := rfl
set_option maxRecDepth 100000 in
theorem t_X1_keptBy {p : Program} {l : Launch} {e : Env} {s : State} {m : MethodId} {args : Array Value} {below : List Frame} {meth : Method} {c : Code} {D : va_G} {dA : Nat → ClassId} {ad : Nat → Nat} (post : PO) (C : CX p s m args meth c cX1_keptBy 4 yX1_keptBy.cls D dA ad (AA ad s.heap.size)) (hr : meth.sig.returnType = (some .int)) : SndL (WW p l e ({ frames := 0, cells := 0, slots := 0, locals := 0 } : Room) s m args below meth c 0 0 (MQ below (CQ D dA ad post (AA ad s.heap.size)) args s 0 0 (AA ad s.heap.size)) 4 D dA ad (AA ad s.heap.size)) (T_X1_keptBy post) := by
  refine snd_c (s_iconst C dX1_keptBy_0 rfl) ?_
  refine snd_c (s_istore_n C rfl (by decide) dX1_keptBy_1) ?_
  refine snd_c (s_iconst C dX1_keptBy_2 rfl) ?_
  refine snd_c (s_istore_n C rfl (by decide) dX1_keptBy_3) ?_
  refine snd_c (s_iload_n C rfl dX1_keptBy_4) ?_
  refine snd_c (s_aload_n C rfl dX1_keptBy_5) ?_
  refine snd_c (s_getf C (ci := 1) (j := 2) (T := TX1) rfl inX1 (by decide) fl_RX1_30 dX1_keptBy_6) ?_
  refine snd_c (s_icmp_ge C dX1_keptBy_9 (by decide)) ?_
  refine snd_c (s_aload_n C rfl dX1_keptBy_12) ?_
  refine snd_c (s_getf C (ci := 1) (j := 1) (T := TX1) rfl inX1 (by decide) fl_RX1_15 dX1_keptBy_13) ?_
  refine snd_c (s_iload_n C rfl dX1_keptBy_16) ?_
  refine snd_c (s_iald C dX1_keptBy_17) ?_
  refine snd_c (s_iload_n C rfl dX1_keptBy_18) ?_
  refine snd_c (s_icmp_ne C dX1_keptBy_19 (by decide)) ?_
  refine snd_c (s_iload_n C rfl dX1_keptBy_22) ?_
  refine snd_c (s_iconst C dX1_keptBy_23 rfl) ?_
  refine snd_c (s_iload_n C rfl dX1_keptBy_24) ?_
  refine snd_c (s_ishl C dX1_keptBy_25) ?_
  refine snd_c (s_ior C dX1_keptBy_26) ?_
  refine snd_c (s_istore_n C rfl (by decide) dX1_keptBy_27) ?_
  refine snd_c (s_iinc C (by decide) rfl dX1_keptBy_28) ?_
  refine snd_c (s_goto C dX1_keptBy_31 (by decide)) ?_
  refine snd_c (s_iload_n C rfl dX1_keptBy_34) ?_
  refine snd_c (s_iret C hr dX1_keptBy_35) ?_
  exact trivial
theorem fl_RX1_34 : Cond.fieldLink RX1 34 (TX1 3).1 (TX1 3).2.1 (TX1 3).2.2.1 ∈ tb := tb_of 123 (by decide +kernel) (by decide +kernel)
theorem dX1_empty_0 : decode cX1_empty 0 = .ok (.aload_n 0, 1) := by decide +kernel
theorem dX1_empty_1 : decode cX1_empty 1 = .ok (.iconst 0, 1) := by decide +kernel
theorem dX1_empty_2 : decode cX1_empty 2 = .ok (.putfield 30, 3) := by decide +kernel
theorem dX1_empty_5 : decode cX1_empty 5 = .ok (.aload_n 0, 1) := by decide +kernel
theorem dX1_empty_6 : decode cX1_empty 6 = .ok (.iconst 0, 1) := by decide +kernel
theorem dX1_empty_7 : decode cX1_empty 7 = .ok (.putfield 34, 3) := by decide +kernel
theorem dX1_empty_10 : decode cX1_empty 10 = .ok (.return_, 1) := by decide +kernel
def T_X1_empty (post : PO) : List (Nat × OP) := [(0, o_aload 0 1), (1, o_const 0 2), (2, o_putI 1 2 5), (5, o_aload 0 6), (6, o_const 0 7), (7, o_putI 1 3 10), (10, o_ret post)]
theorem k_X1_empty_0 (post : PO) : lk (T_X1_empty post) 0 = o_aload 0 1 := rfl
theorem k_X1_empty_1 (post : PO) : lk (T_X1_empty post) 1 = o_const 0 2 := rfl
theorem k_X1_empty_2 (post : PO) : lk (T_X1_empty post) 2 = o_putI 1 2 5 := rfl
theorem k_X1_empty_5 (post : PO) : lk (T_X1_empty post) 5 = o_aload 0 6 := rfl
theorem k_X1_empty_6 (post : PO) : lk (T_X1_empty post) 6 = o_const 0 7 := rfl
theorem k_X1_empty_7 (post : PO) : lk (T_X1_empty post) 7 = o_putI 1 3 10 := rfl
theorem k_X1_empty_10 (post : PO) : lk (T_X1_empty post) 10 = o_ret post := rfl
set_option maxRecDepth 100000 in
theorem t_X1_empty {p : Program} {l : Launch} {e : Env} {s : State} {m : MethodId} {args : Array Value} {below : List Frame} {meth : Method} {c : Code} {D : va_G} {dA : Nat → ClassId} {ad : Nat → Nat} (post : PO) (C : CX p s m args meth c cX1_empty 1 yX1_empty.cls D dA ad (AA ad s.heap.size)) (hr : meth.sig.returnType = none) : SndL (WW p l e ({ frames := 0, cells := 0, slots := 0, locals := 0 } : Room) s m args below meth c 0 0 (MQ below (CQ D dA ad post (AA ad s.heap.size)) args s 0 0 (AA ad s.heap.size)) 1 D dA ad (AA ad s.heap.size)) (T_X1_empty post) := by
  refine snd_c (s_aload_n C rfl dX1_empty_0) ?_
  refine snd_c (s_iconst C dX1_empty_1 rfl) ?_
  refine snd_c (s_putI C (ci := 1) (j := 2) (T := TX1) tyX1 tyX1_ok nmX1 rfl inX1 (by decide) rfl rfl fl_RX1_30 dX1_empty_2) ?_
  refine snd_c (s_aload_n C rfl dX1_empty_5) ?_
  refine snd_c (s_iconst C dX1_empty_6 rfl) ?_
  refine snd_c (s_putI C (ci := 1) (j := 3) (T := TX1) tyX1 tyX1_ok nmX1 rfl inX1 (by decide) rfl rfl fl_RX1_34 dX1_empty_7) ?_
  refine snd_c (s_ret C hr dX1_empty_10) ?_
  exact trivial
theorem fl_RX1_9 : Cond.fieldLink RX1 9 (TX1 0).1 (TX1 0).2.1 (TX1 0).2.2.1 ∈ tb := tb_of 115 (by decide +kernel) (by decide +kernel)
theorem dX1_append_0 : decode cX1_append 0 = .ok (.aload_n 0, 1) := by decide +kernel
theorem dX1_append_1 : decode cX1_append 1 = .ok (.getfield 30, 3) := by decide +kernel
theorem dX1_append_4 : decode cX1_append 4 = .ok (.ifCond .lt 12, 3) := by decide +kernel
theorem dX1_append_7 : decode cX1_append 7 = .ok (.aload_n 0, 1) := by decide +kernel
theorem dX1_append_8 : decode cX1_append 8 = .ok (.getfield 30, 3) := by decide +kernel
theorem dX1_append_11 : decode cX1_append 11 = .ok (.bipush 8, 2) := by decide +kernel
theorem dX1_append_13 : decode cX1_append 13 = .ok (.if_icmp .lt 5, 3) := by decide +kernel
theorem dX1_append_16 : decode cX1_append 16 = .ok (.iconst 0, 1) := by decide +kernel
theorem dX1_append_17 : decode cX1_append 17 = .ok (.ireturn, 1) := by decide +kernel
theorem dX1_append_18 : decode cX1_append 18 = .ok (.aload_n 0, 1) := by decide +kernel
theorem dX1_append_19 : decode cX1_append 19 = .ok (.getfield 9, 3) := by decide +kernel
theorem dX1_append_22 : decode cX1_append 22 = .ok (.aload_n 0, 1) := by decide +kernel
theorem dX1_append_23 : decode cX1_append 23 = .ok (.getfield 30, 3) := by decide +kernel
theorem dX1_append_26 : decode cX1_append 26 = .ok (.iload_n 1, 1) := by decide +kernel
theorem dX1_append_27 : decode cX1_append 27 = .ok (.iastore, 1) := by decide +kernel
theorem dX1_append_28 : decode cX1_append 28 = .ok (.aload_n 0, 1) := by decide +kernel
theorem dX1_append_29 : decode cX1_append 29 = .ok (.getfield 15, 3) := by decide +kernel
theorem dX1_append_32 : decode cX1_append 32 = .ok (.aload_n 0, 1) := by decide +kernel
theorem dX1_append_33 : decode cX1_append 33 = .ok (.getfield 30, 3) := by decide +kernel
theorem dX1_append_36 : decode cX1_append 36 = .ok (.bipush (-4), 2) := by decide +kernel
theorem dX1_append_38 : decode cX1_append 38 = .ok (.iastore, 1) := by decide +kernel
theorem dX1_append_39 : decode cX1_append 39 = .ok (.aload_n 0, 1) := by decide +kernel
theorem dX1_append_40 : decode cX1_append 40 = .ok (.dup, 1) := by decide +kernel
theorem dX1_append_41 : decode cX1_append 41 = .ok (.getfield 30, 3) := by decide +kernel
theorem dX1_append_44 : decode cX1_append 44 = .ok (.iconst 1, 1) := by decide +kernel
theorem dX1_append_45 : decode cX1_append 45 = .ok (.iadd, 1) := by decide +kernel
theorem dX1_append_46 : decode cX1_append 46 = .ok (.putfield 30, 3) := by decide +kernel
theorem dX1_append_49 : decode cX1_append 49 = .ok (.iconst 1, 1) := by decide +kernel
theorem dX1_append_50 : decode cX1_append 50 = .ok (.ireturn, 1) := by decide +kernel
def T_X1_append (post : PO) : List (Nat × OP) := [(0, o_aload 0 1), (1, o_getf 1 2 4), (4, o_if (fun x => x < 0) 16 7), (7, o_aload 0 8), (8, o_getf 1 2 11), (11, o_const 8 13), (13, o_icmp (fun x y => x < y) 18 16), (16, o_const 0 17), (17, o_zret post), (18, o_aload 0 19), (19, o_getf 1 0 22), (22, o_aload 0 23), (23, o_getf 1 2 26), (26, o_iload 1 27), (27, o_ast 0 (fun x => x) 28), (28, o_aload 0 29), (29, o_getf 1 1 32), (32, o_aload 0 33), (33, o_getf 1 2 36), (36, o_const (-4) 38), (38, o_ast 0 (fun x => x) 39), (39, o_aload 0 40), (40, o_dup 41), (41, o_getf 1 2 44), (44, o_const 1 45), (45, o_bin (fun x y => x + y) 46), (46, o_putI 1 2 49), (49, o_const 1 50), (50, o_zret post)]
theorem k_X1_append_0 (post : PO) : lk (T_X1_append post) 0 = o_aload 0 1 := rfl
theorem k_X1_append_1 (post : PO) : lk (T_X1_append post) 1 = o_getf 1 2 4 := rfl
theorem k_X1_append_4 (post : PO) : lk (T_X1_append post) 4 = o_if (fun x => x < 0) 16 7 := rfl
theorem k_X1_append_7 (post : PO) : lk (T_X1_append post) 7 = o_aload 0 8 := rfl
theorem k_X1_append_8 (post : PO) : lk (T_X1_append post) 8 = o_getf 1 2 11 := rfl
theorem k_X1_append_11 (post : PO) : lk (T_X1_append post) 11 = o_const 8 13 := rfl
theorem k_X1_append_13 (post : PO) : lk (T_X1_append post) 13 = o_icmp (fun x y => x < y) 18 16 := rfl
theorem k_X1_append_16 (post : PO) : lk (T_X1_append post) 16 = o_const 0 17 := rfl
theorem k_X1_append_17 (post : PO) : lk (T_X1_append post) 17 = o_zret post := rfl
theorem k_X1_append_18 (post : PO) : lk (T_X1_append post) 18 = o_aload 0 19 := rfl
theorem k_X1_append_19 (post : PO) : lk (T_X1_append post) 19 = o_getf 1 0 22 := rfl
theorem k_X1_append_22 (post : PO) : lk (T_X1_append post) 22 = o_aload 0 23 := rfl
theorem k_X1_append_23 (post : PO) : lk (T_X1_append post) 23 = o_getf 1 2 26 := rfl
theorem k_X1_append_26 (post : PO) : lk (T_X1_append post) 26 = o_iload 1 27 := rfl
theorem k_X1_append_27 (post : PO) : lk (T_X1_append post) 27 = o_ast 0 (fun x => x) 28 := rfl
theorem k_X1_append_28 (post : PO) : lk (T_X1_append post) 28 = o_aload 0 29 := rfl
theorem k_X1_append_29 (post : PO) : lk (T_X1_append post) 29 = o_getf 1 1 32 := rfl
theorem k_X1_append_32 (post : PO) : lk (T_X1_append post) 32 = o_aload 0 33 := rfl
theorem k_X1_append_33 (post : PO) : lk (T_X1_append post) 33 = o_getf 1 2 36 := rfl
theorem k_X1_append_36 (post : PO) : lk (T_X1_append post) 36 = o_const (-4) 38 := rfl
theorem k_X1_append_38 (post : PO) : lk (T_X1_append post) 38 = o_ast 0 (fun x => x) 39 := rfl
theorem k_X1_append_39 (post : PO) : lk (T_X1_append post) 39 = o_aload 0 40 := rfl
theorem k_X1_append_40 (post : PO) : lk (T_X1_append post) 40 = o_dup 41 := rfl
theorem k_X1_append_41 (post : PO) : lk (T_X1_append post) 41 = o_getf 1 2 44 := rfl
theorem k_X1_append_44 (post : PO) : lk (T_X1_append post) 44 = o_const 1 45 := rfl
theorem k_X1_append_45 (post : PO) : lk (T_X1_append post) 45 = o_bin (fun x y => x + y) 46 := rfl
theorem k_X1_append_46 (post : PO) : lk (T_X1_append post) 46 = o_putI 1 2 49 := rfl
theorem k_X1_append_49 (post : PO) : lk (T_X1_append post) 49 = o_const 1 50 := rfl
theorem k_X1_append_50 (post : PO) : lk (T_X1_append post) 50 = o_zret post := rfl
set_option maxRecDepth 100000 in
theorem t_X1_append {p : Program} {l : Launch} {e : Env} {s : State} {m : MethodId} {args : Array Value} {below : List Frame} {meth : Method} {c : Code} {D : va_G} {dA : Nat → ClassId} {ad : Nat → Nat} (post : PO) (C : CX p s m args meth c cX1_append 2 yX1_append.cls D dA ad (AA ad s.heap.size)) (hr : meth.sig.returnType = (some .boolean)) : SndL (WW p l e ({ frames := 0, cells := 0, slots := 0, locals := 0 } : Room) s m args below meth c 0 0 (MQ below (CQ D dA ad post (AA ad s.heap.size)) args s 0 0 (AA ad s.heap.size)) 2 D dA ad (AA ad s.heap.size)) (T_X1_append post) := by
  refine snd_c (s_aload_n C rfl dX1_append_0) ?_
  refine snd_c (s_getf C (ci := 1) (j := 2) (T := TX1) rfl inX1 (by decide) fl_RX1_30 dX1_append_1) ?_
  refine snd_c (s_if_lt C dX1_append_4 (by decide)) ?_
  refine snd_c (s_aload_n C rfl dX1_append_7) ?_
  refine snd_c (s_getf C (ci := 1) (j := 2) (T := TX1) rfl inX1 (by decide) fl_RX1_30 dX1_append_8) ?_
  refine snd_c (s_bipush C dX1_append_11 rfl) ?_
  refine snd_c (s_icmp_lt C dX1_append_13 (by decide)) ?_
  refine snd_c (s_iconst C dX1_append_16 rfl) ?_
  refine snd_c (s_zret C hr ⟨rfl, rfl⟩ dX1_append_17) ?_
  refine snd_c (s_aload_n C rfl dX1_append_18) ?_
  refine snd_c (s_getf C (ci := 1) (j := 0) (T := TX1) rfl inX1 (by decide) fl_RX1_9 dX1_append_19) ?_
  refine snd_c (s_aload_n C rfl dX1_append_22) ?_
  refine snd_c (s_getf C (ci := 1) (j := 2) (T := TX1) rfl inX1 (by decide) fl_RX1_30 dX1_append_23) ?_
  refine snd_c (s_iload_n C rfl dX1_append_26) ?_
  refine snd_c (s_iast C dX1_append_27) ?_
  refine snd_c (s_aload_n C rfl dX1_append_28) ?_
  refine snd_c (s_getf C (ci := 1) (j := 1) (T := TX1) rfl inX1 (by decide) fl_RX1_15 dX1_append_29) ?_
  refine snd_c (s_aload_n C rfl dX1_append_32) ?_
  refine snd_c (s_getf C (ci := 1) (j := 2) (T := TX1) rfl inX1 (by decide) fl_RX1_30 dX1_append_33) ?_
  refine snd_c (s_bipush C dX1_append_36 rfl) ?_
  refine snd_c (s_iast C dX1_append_38) ?_
  refine snd_c (s_aload_n C rfl dX1_append_39) ?_
  refine snd_c (s_dup C dX1_append_40) ?_
  refine snd_c (s_getf C (ci := 1) (j := 2) (T := TX1) rfl inX1 (by decide) fl_RX1_30 dX1_append_41) ?_
  refine snd_c (s_iconst C dX1_append_44 rfl) ?_
  refine snd_c (s_iadd C dX1_append_45) ?_
  refine snd_c (s_putI C (ci := 1) (j := 2) (T := TX1) tyX1 tyX1_ok nmX1 rfl inX1 (by decide) rfl rfl fl_RX1_30 dX1_append_46) ?_
  refine snd_c (s_iconst C dX1_append_49 rfl) ?_
  refine snd_c (s_zret C hr ⟨rfl, rfl⟩ dX1_append_50) ?_
  exact trivial
set_option maxRecDepth 100000 in
theorem v_X1_has : ∀ as M post, S_X1_has as M post → wsum as ≤ 2 ∧ RUN (T_X1_has post) 0 (entL 2 as) [] M := by
  rintro as M post ⟨k, x, rfl, h⟩
  refine ⟨Nat.le_refl 2, run_wp 30 ?_⟩
  rcases h with ⟨rfl, h⟩ | ⟨rfl, h⟩
  all_goals
    dsimp only [k_X1_has_0, k_X1_has_1, k_X1_has_4, k_X1_has_5, k_X1_has_6, k_X1_has_9, k_X1_has_12, k_X1_has_13, k_X1_has_16, k_X1_has_17, wp1, wp_s, cutIn, kont, Nat.reduceSub, Nat.reduceAdd, nth, o_const, o_lconst, o_ref, o_iload, o_lload, o_aload, o_istore, o_lstore, o_astore, o_iinc, o_bin, o_div, o_un, o_lbin, o_lsh, o_lcmp, o_i2l, o_l2i, o_if, o_icmp, o_goto, o_dup, o_dup2, o_pop, fav, o_getf, o_putI, o_putZ, o_putL, o_ald, o_ast, o_alen, popn, rst, o_callV, o_callT, o_callS, swx, o_sw, o_ret, o_iret, o_zret, o_cret, o_lret, o_aret, lg, lput, lput2, ls1, isL, entL, wsum, rdI1, rdI2, rdA1, rdA21, rdA22, rdL1, rdL22, rdL21, upN_at, rep, sh_0, F_0_0, F_0_1, F_0_2, F_0_3, F_0_4, F_0_5, F_0_6, F_0_7, F_0_8, sh_1, F_1_0, F_1_1, F_1_2, F_1_3, F_1_4, F_1_5, sh_3, F_3_0, F_3_1, F_3_2, F_3_3, F_3_4, F_3_5, sh_5, F_5_0, F_5_1, F_5_2, F_5_3, F_5_4, F_5_5, F_5_6, F_5_7, F_5_8, sh_12, F_12_0, F_12_1, F_12_2, F_12_3, F_12_4, F_12_5, sh_14, F_14_0, F_14_1, F_14_2, F_14_3, F_14_4, F_14_5, F_14_6, F_14_7, F_14_8, sh_21, F_21_0, F_21_1, F_21_2, F_21_3, F_21_4, F_21_5, F_21_6, F_21_7, F_21_8, sh_28, F_28_0, F_28_1, F_28_2, F_28_3, F_28_4, F_28_5, F_28_6, F_28_7, F_28_8, sh_35, F_35_0, sh_39, F_39_0, F_39_1, F_39_2, F_39_3, F_39_4, F_39_5, F_39_6, F_39_7, F_39_8, F_39_9, F_39_10, F_39_11, F_39_12, F_39_13, A_2, A_4, A_6, A_7, A_8, A_9, A_10, A_11, A_13, A_15, A_16, A_17, A_18, A_19, A_20, A_22, A_23, A_24, A_25, A_26, A_27, A_29, A_30, A_31, A_32, A_33, A_34, A_36, A_37, A_38, A_40, A_41, A_42, A_43, A_44, A_45, A_46, A_47]
    simp only [pz, Int32.lt_iff_toInt_lt, Int32.le_iff_toInt_le, true_or, or_true, true_and] at h ⊢
    exact ⟨fun h1 => h.2 (by omega), fun h1 => ⟨fun h2 => h.2 (by omega), fun h2 => h.1 (by omega)⟩⟩
set_option maxRecDepth 100000 in
theorem v_X1_keptBy : ∀ as M post, S_X1_keptBy as M post → wsum as ≤ 4 ∧ RUN (T_X1_keptBy post) 0 (entL 4 as) [] M := by
  rintro as M post ⟨x, n, rfl, hn, hn8, h⟩
  refine ⟨by show 2 ≤ 4; omega, run_of [4] (fun μ pc lv st M' => pc = 4 ∧ st = [] ∧ M' = M ∧ ∃ i, i ≤ n ∧ μ = n - i ∧ lv = [some (VR 5), some (VI x), some (VI (nI (mk (fun k => M.2.2 3 k == x) i))), some (VI (nI i))]) 40 9 ?_ ?_⟩
  · rintro μ pc lv st M' ⟨rfl, rfl, rfl, i, hi, rfl, rfl⟩
    dsimp only [k_X1_keptBy_0, k_X1_keptBy_1, k_X1_keptBy_2, k_X1_keptBy_3, k_X1_keptBy_4, k_X1_keptBy_5, k_X1_keptBy_6, k_X1_keptBy_9, k_X1_keptBy_12, k_X1_keptBy_13, k_X1_keptBy_16, k_X1_keptBy_17, k_X1_keptBy_18, k_X1_keptBy_19, k_X1_keptBy_22, k_X1_keptBy_23, k_X1_keptBy_24, k_X1_keptBy_25, k_X1_keptBy_26, k_X1_keptBy_27, k_X1_keptBy_28, k_X1_keptBy_31, k_X1_keptBy_34, k_X1_keptBy_35, wp1, wp_s, cutIn, kont, Nat.reduceSub, Nat.reduceAdd, nth, o_const, o_lconst, o_ref, o_iload, o_lload, o_aload, o_istore, o_lstore, o_astore, o_iinc, o_bin, o_div, o_un, o_lbin, o_lsh, o_lcmp, o_i2l, o_l2i, o_if, o_icmp, o_goto, o_dup, o_dup2, o_pop, fav, o_getf, o_putI, o_putZ, o_putL, o_ald, o_ast, o_alen, popn, rst, o_callV, o_callT, o_callS, swx, o_sw, o_ret, o_iret, o_zret, o_cret, o_lret, o_aret, lg, lput, lput2, ls1, isL, entL, wsum, rdI1, rdI2, rdA1, rdA21, rdA22, rdL1, rdL22, rdL21, upN_at, rep, sh_0, F_0_0, F_0_1, F_0_2, F_0_3, F_0_4, F_0_5, F_0_6, F_0_7, F_0_8, sh_1, F_1_0, F_1_1, F_1_2, F_1_3, F_1_4, F_1_5, sh_3, F_3_0, F_3_1, F_3_2, F_3_3, F_3_4, F_3_5, sh_5, F_5_0, F_5_1, F_5_2, F_5_3, F_5_4, F_5_5, F_5_6, F_5_7, F_5_8, sh_12, F_12_0, F_12_1, F_12_2, F_12_3, F_12_4, F_12_5, sh_14, F_14_0, F_14_1, F_14_2, F_14_3, F_14_4, F_14_5, F_14_6, F_14_7, F_14_8, sh_21, F_21_0, F_21_1, F_21_2, F_21_3, F_21_4, F_21_5, F_21_6, F_21_7, F_21_8, sh_28, F_28_0, F_28_1, F_28_2, F_28_3, F_28_4, F_28_5, F_28_6, F_28_7, F_28_8, sh_35, F_35_0, sh_39, F_39_0, F_39_1, F_39_2, F_39_3, F_39_4, F_39_5, F_39_6, F_39_7, F_39_8, F_39_9, F_39_10, F_39_11, F_39_12, F_39_13, A_2, A_4, A_6, A_7, A_8, A_9, A_10, A_11, A_13, A_15, A_16, A_17, A_18, A_19, A_20, A_22, A_23, A_24, A_25, A_26, A_27, A_29, A_30, A_31, A_32, A_33, A_34, A_36, A_37, A_38, A_40, A_41, A_42, A_43, A_44, A_45, A_46, A_47]
    rw [hn]
    simp (disch := omega) only [nI_leI, nI_ltI, nI_eq, nI_1, nI_add, one_shl, nI_or, nI_xor, nI_and, bit_0, bit_1, true_or, or_true, true_and, and_true, eq_self, not_true_eq_false, not_false_eq_true, forall_const]
    refine ⟨fun h1 => ?_, fun h1 => ⟨i, by omega, rfl, fun h2 => ⟨_, _, ?_, ?_, rfl, rfl, rfl, i + 1, ?_, rfl, rfl⟩, fun h2 => ⟨_, _, ?_, ?_, rfl, rfl, rfl, i + 1, ?_, rfl, rfl⟩⟩⟩ <;> try omega
    · rw [show i = n by omega]; exact h
    · exact ⟨rfl, rfl, vi_eq (by rw [mk, if_pos (by simpa using h2)]), rfl, trivial⟩
    · exact ⟨rfl, rfl, vi_eq (by rw [mk, if_neg (by simpa using h2)]), rfl, trivial⟩
  · dsimp only [k_X1_keptBy_0, k_X1_keptBy_1, k_X1_keptBy_2, k_X1_keptBy_3, k_X1_keptBy_4, k_X1_keptBy_5, k_X1_keptBy_6, k_X1_keptBy_9, k_X1_keptBy_12, k_X1_keptBy_13, k_X1_keptBy_16, k_X1_keptBy_17, k_X1_keptBy_18, k_X1_keptBy_19, k_X1_keptBy_22, k_X1_keptBy_23, k_X1_keptBy_24, k_X1_keptBy_25, k_X1_keptBy_26, k_X1_keptBy_27, k_X1_keptBy_28, k_X1_keptBy_31, k_X1_keptBy_34, k_X1_keptBy_35, wp1, wp_s, cutIn, kont, Nat.reduceSub, Nat.reduceAdd, nth, o_const, o_lconst, o_ref, o_iload, o_lload, o_aload, o_istore, o_lstore, o_astore, o_iinc, o_bin, o_div, o_un, o_lbin, o_lsh, o_lcmp, o_i2l, o_l2i, o_if, o_icmp, o_goto, o_dup, o_dup2, o_pop, fav, o_getf, o_putI, o_putZ, o_putL, o_ald, o_ast, o_alen, popn, rst, o_callV, o_callT, o_callS, swx, o_sw, o_ret, o_iret, o_zret, o_cret, o_lret, o_aret, lg, lput, lput2, ls1, isL, entL, wsum, rdI1, rdI2, rdA1, rdA21, rdA22, rdL1, rdL22, rdL21, upN_at, rep, sh_0, F_0_0, F_0_1, F_0_2, F_0_3, F_0_4, F_0_5, F_0_6, F_0_7, F_0_8, sh_1, F_1_0, F_1_1, F_1_2, F_1_3, F_1_4, F_1_5, sh_3, F_3_0, F_3_1, F_3_2, F_3_3, F_3_4, F_3_5, sh_5, F_5_0, F_5_1, F_5_2, F_5_3, F_5_4, F_5_5, F_5_6, F_5_7, F_5_8, sh_12, F_12_0, F_12_1, F_12_2, F_12_3, F_12_4, F_12_5, sh_14, F_14_0, F_14_1, F_14_2, F_14_3, F_14_4, F_14_5, F_14_6, F_14_7, F_14_8, sh_21, F_21_0, F_21_1, F_21_2, F_21_3, F_21_4, F_21_5, F_21_6, F_21_7, F_21_8, sh_28, F_28_0, F_28_1, F_28_2, F_28_3, F_28_4, F_28_5, F_28_6, F_28_7, F_28_8, sh_35, F_35_0, sh_39, F_39_0, F_39_1, F_39_2, F_39_3, F_39_4, F_39_5, F_39_6, F_39_7, F_39_8, F_39_9, F_39_10, F_39_11, F_39_12, F_39_13, A_2, A_4, A_6, A_7, A_8, A_9, A_10, A_11, A_13, A_15, A_16, A_17, A_18, A_19, A_20, A_22, A_23, A_24, A_25, A_26, A_27, A_29, A_30, A_31, A_32, A_33, A_34, A_36, A_37, A_38, A_40, A_41, A_42, A_43, A_44, A_45, A_46, A_47]
    exact cut _ _ ⟨rfl, rfl, rfl, 0, by omega, rfl, rfl⟩ (by omega) ⟨rfl, rfl, rfl, rfl, trivial⟩
set_option maxRecDepth 100000 in
theorem v_X1_empty : ∀ as M post, S_X1_empty as M post → wsum as ≤ 1 ∧ RUN (T_X1_empty post) 0 (entL 1 as) [] M := by
  rintro as M post ⟨rfl, h⟩
  refine ⟨Nat.le_refl 1, run_wp 30 ?_⟩
  dsimp only [k_X1_empty_0, k_X1_empty_1, k_X1_empty_2, k_X1_empty_5, k_X1_empty_6, k_X1_empty_7, k_X1_empty_10, wp1, wp_s, cutIn, kont, Nat.reduceSub, Nat.reduceAdd, nth, o_const, o_lconst, o_ref, o_iload, o_lload, o_aload, o_istore, o_lstore, o_astore, o_iinc, o_bin, o_div, o_un, o_lbin, o_lsh, o_lcmp, o_i2l, o_l2i, o_if, o_icmp, o_goto, o_dup, o_dup2, o_pop, fav, o_getf, o_putI, o_putZ, o_putL, o_ald, o_ast, o_alen, popn, rst, o_callV, o_callT, o_callS, swx, o_sw, o_ret, o_iret, o_zret, o_cret, o_lret, o_aret, lg, lput, lput2, ls1, isL, entL, wsum, rdI1, rdI2, rdA1, rdA21, rdA22, rdL1, rdL22, rdL21, upN_at, rep, sh_0, F_0_0, F_0_1, F_0_2, F_0_3, F_0_4, F_0_5, F_0_6, F_0_7, F_0_8, sh_1, F_1_0, F_1_1, F_1_2, F_1_3, F_1_4, F_1_5, sh_3, F_3_0, F_3_1, F_3_2, F_3_3, F_3_4, F_3_5, sh_5, F_5_0, F_5_1, F_5_2, F_5_3, F_5_4, F_5_5, F_5_6, F_5_7, F_5_8, sh_12, F_12_0, F_12_1, F_12_2, F_12_3, F_12_4, F_12_5, sh_14, F_14_0, F_14_1, F_14_2, F_14_3, F_14_4, F_14_5, F_14_6, F_14_7, F_14_8, sh_21, F_21_0, F_21_1, F_21_2, F_21_3, F_21_4, F_21_5, F_21_6, F_21_7, F_21_8, sh_28, F_28_0, F_28_1, F_28_2, F_28_3, F_28_4, F_28_5, F_28_6, F_28_7, F_28_8, sh_35, F_35_0, sh_39, F_39_0, F_39_1, F_39_2, F_39_3, F_39_4, F_39_5, F_39_6, F_39_7, F_39_8, F_39_9, F_39_10, F_39_11, F_39_12, F_39_13, A_2, A_4, A_6, A_7, A_8, A_9, A_10, A_11, A_13, A_15, A_16, A_17, A_18, A_19, A_20, A_22, A_23, A_24, A_25, A_26, A_27, A_29, A_30, A_31, A_32, A_33, A_34, A_36, A_37, A_38, A_40, A_41, A_42, A_43, A_44, A_45, A_46, A_47]
  exact h
set_option maxRecDepth 100000 in
theorem v_X1_append : ∀ as M post, S_X1_append as M post → wsum as ≤ 2 ∧ RUN (T_X1_append post) 0 (entL 2 as) [] M := by
  rintro as M post ⟨k, x, rfl, h⟩
  refine ⟨Nat.le_refl 2, run_wp 50 ?_⟩
  rcases h with ⟨rfl, n, hn, hn8, ha, hb⟩ | ⟨rfl, n, hn, hn8, ha, hb⟩
  all_goals
    dsimp only [k_X1_append_0, k_X1_append_1, k_X1_append_4, k_X1_append_7, k_X1_append_8, k_X1_append_11, k_X1_append_13, k_X1_append_16, k_X1_append_17, k_X1_append_18, k_X1_append_19, k_X1_append_22, k_X1_append_23, k_X1_append_26, k_X1_append_27, k_X1_append_28, k_X1_append_29, k_X1_append_32, k_X1_append_33, k_X1_append_36, k_X1_append_38, k_X1_append_39, k_X1_append_40, k_X1_append_41, k_X1_append_44, k_X1_append_45, k_X1_append_46, k_X1_append_49, k_X1_append_50, wp1, wp_s, cutIn, kont, Nat.reduceSub, Nat.reduceAdd, nth, o_const, o_lconst, o_ref, o_iload, o_lload, o_aload, o_istore, o_lstore, o_astore, o_iinc, o_bin, o_div, o_un, o_lbin, o_lsh, o_lcmp, o_i2l, o_l2i, o_if, o_icmp, o_goto, o_dup, o_dup2, o_pop, fav, o_getf, o_putI, o_putZ, o_putL, o_ald, o_ast, o_alen, popn, rst, o_callV, o_callT, o_callS, swx, o_sw, o_ret, o_iret, o_zret, o_cret, o_lret, o_aret, lg, lput, lput2, ls1, isL, entL, wsum, rdI1, rdI2, rdA1, rdA21, rdA22, rdL1, rdL22, rdL21, upN_at, rep, sh_0, F_0_0, F_0_1, F_0_2, F_0_3, F_0_4, F_0_5, F_0_6, F_0_7, F_0_8, sh_1, F_1_0, F_1_1, F_1_2, F_1_3, F_1_4, F_1_5, sh_3, F_3_0, F_3_1, F_3_2, F_3_3, F_3_4, F_3_5, sh_5, F_5_0, F_5_1, F_5_2, F_5_3, F_5_4, F_5_5, F_5_6, F_5_7, F_5_8, sh_12, F_12_0, F_12_1, F_12_2, F_12_3, F_12_4, F_12_5, sh_14, F_14_0, F_14_1, F_14_2, F_14_3, F_14_4, F_14_5, F_14_6, F_14_7, F_14_8, sh_21, F_21_0, F_21_1, F_21_2, F_21_3, F_21_4, F_21_5, F_21_6, F_21_7, F_21_8, sh_28, F_28_0, F_28_1, F_28_2, F_28_3, F_28_4, F_28_5, F_28_6, F_28_7, F_28_8, sh_35, F_35_0, sh_39, F_39_0, F_39_1, F_39_2, F_39_3, F_39_4, F_39_5, F_39_6, F_39_7, F_39_8, F_39_9, F_39_10, F_39_11, F_39_12, F_39_13, A_2, A_4, A_6, A_7, A_8, A_9, A_10, A_11, A_13, A_15, A_16, A_17, A_18, A_19, A_20, A_22, A_23, A_24, A_25, A_26, A_27, A_29, A_30, A_31, A_32, A_33, A_34, A_36, A_37, A_38, A_40, A_41, A_42, A_43, A_44, A_45, A_46, A_47]
    simp only [hn, Int32.lt_iff_toInt_lt, true_or, or_true, true_and]
    simp (disch := omega) only [nI_toInt, nI_1]
    refine ⟨fun h1 => absurd h1 (by simp), fun _ => ⟨fun h1 => ⟨n, ?_, rfl, n, ?_, rfl, ?_⟩, fun h1 => ha ?_⟩⟩ <;> simp at h1 <;> first | omega | exact hb (by omega)
theorem c_X1_has : Ctr yX1_has cX1_has 2 (some .boolean) ({ frames := 0, cells := 0, slots := 0, locals := 0 } : Room) S_X1_has := ctr_of (T := T_X1_has) (by decide +kernel) (fun post C hr => t_X1_has post C hr) v_X1_has
theorem c_X1_keptBy : Ctr yX1_keptBy cX1_keptBy 4 (some .int) ({ frames := 0, cells := 0, slots := 0, locals := 0 } : Room) S_X1_keptBy := ctr_of (T := T_X1_keptBy) (by decide +kernel) (fun post C hr => t_X1_keptBy post C hr) v_X1_keptBy
theorem c_X1_empty : Ctr yX1_empty cX1_empty 1 none ({ frames := 0, cells := 0, slots := 0, locals := 0 } : Room) S_X1_empty := ctr_of (T := T_X1_empty) (by decide +kernel) (fun post C hr => t_X1_empty post C hr) v_X1_empty
theorem c_X1_append : Ctr yX1_append cX1_append 2 (some .boolean) ({ frames := 0, cells := 0, slots := 0, locals := 0 } : Room) S_X1_append := ctr_of (T := T_X1_append) (by decide +kernel) (fun post C hr => t_X1_append post C hr) v_X1_append
theorem msk {n : Nat} (hn : n ≤ 8) (P : Nat → Bool) : ((1 : Int32) <<< (nI n &&& 31) - 1) &&& (nI (mk P n) ^^^ -1) = nI (mk (fun k => !P k) n) := by
  have h1 : (1 : Int32) <<< (nI n &&& 31) - 1 = nI (2 ^ n - 1) := by
    rw [one_shl (by omega)]
    have := Nat.one_le_two_pow (n := n)
    exact pk_sub (a := 2 ^ n) (b := 1) this
  rw [h1, show (-1 : Int32) = nI (2 ^ 32 - 1) from rfl, nI_xor, nI_and]
  congr 1
  refine Nat.eq_of_testBit_eq fun k => ?_
  rw [Nat.testBit_and, Nat.testBit_xor, mk_bit, mk_bit, Nat.testBit_two_pow_sub_one, Nat.testBit_two_pow_sub_one]
  by_cases hk : k < n
  · simp [hk, show k < 32 by omega]
  · simp [hk]
/-- xor of rows -/
def xrI (f : Nat → Int32) (T : Nat) : Nat → Int32
  | 0 => 0
  | n + 1 => if T.testBit n = true then xrI f T n ^^^ f n else xrI f T n
def S_X1_usable : SP := fun as M post => ∃ n, as = [VR 5] ∧ M.1 9 = nI n ∧ n ≤ 8 ∧ post (some (VI (nI (mk (fun k => !(M.2.2 3 k == -3)) n)))) M
def S_X1_madeBy : SP := fun as M post => ∃ T n, as = [VR 5, VI (nI T)] ∧ T < 2 ^ 31 ∧ M.1 9 = nI n ∧ n ≤ 8 ∧ post (some (VI (xrI (M.2.2 2) T n))) M
def S_X1_copyChange : SP := fun as M post => ∃ k o d b t f, as = [VR k, VI (nI t), VR o, VI (nI f)] ∧ t < 10 ∧ f < 10 ∧ ((k = 5 ∧ d = 4) ∨ (k = 21 ∧ d = 17) ∨ (k = 28 ∧ d = 23)) ∧ ((o = 5 ∧ b = 4) ∨ (o = 14 ∧ b = 11) ∨ (o = 21 ∧ b = 17) ∨ (o = 28 ∧ b = 23)) ∧
  post none (o4 d (upd (M.2.2 d) t (M.2.2 b f)) (upd (M.2.2 (d + 1)) t (M.2.2 (b + 1) f)) (upd (M.2.2 (d + 2)) t (M.2.2 (b + 2) f)) (upd (M.2.2 (d + 3)) t (M.2.2 (b + 3) f)) M)
def S_X1_forgetOldest : SP := fun as M post => as = [VR 5] ∧ post none (sI 10 9 (o4 4 (shf (M.2.2 4) 9) (shf (M.2.2 5) 9) (shf (M.2.2 6) 9) (shf (M.2.2 7) 9) M))
def psh (M : AM) (u k : Nat) : AM := sI 10 (nI (u + 1)) (o4 4 (upd (M.2.2 4) u (M.1 9)) (upd (M.2.2 5) u (nI k)) (upd (M.2.2 6) u (M.2.2 2 k)) (upd (M.2.2 7) u (M.2.2 3 k)) M)
def S_X1_remember : SP := fun as M post => ∃ k u, as = [VR 5, VI (nI k)] ∧ k < 8 ∧ M.1 10 = nI u ∧ u ≤ 10 ∧ (u < 10 → post none (psh M u k)) ∧ (u = 10 → post none (psh (sI 10 9 (o4 4 (shf (M.2.2 4) 9) (shf (M.2.2 5) 9) (shf (M.2.2 6) 9) (shf (M.2.2 7) 9) M)) 9 k))
def S_X1_takeBack : SP := fun as M post => ∃ u k, as = [VR 5] ∧ M.1 10 = nI (u + 1) ∧ u < 10 ∧ M.2.2 5 u = nI k ∧ k < 8 ∧ post none (sI 9 (M.2.2 4 u) (sA 3 (upd (M.2.2 3) k (M.2.2 7 u)) (sA 2 (upd (M.2.2 2) k (M.2.2 6 u)) (sI 10 (nI u) M))))
/-- a ring's copy: the ring k whose rows begin at d, its ints at z; the other's at b and w -/
def cpR (d z b w : Nat) (M : AM) : AM := o4 d (cpy (M.2.2 d) (M.2.2 b) 10) (cpy (M.2.2 (d + 1)) (M.2.2 (b + 1)) 10) (cpy (M.2.2 (d + 2)) (M.2.2 (b + 2)) 10) (cpy (M.2.2 (d + 3)) (M.2.2 (b + 3)) 10) (sA (d - 1) (cpy (M.2.2 (d - 1)) (M.2.2 (b - 1)) 8) (sA (d - 2) (cpy (M.2.2 (d - 2)) (M.2.2 (b - 2)) 8) (sI (z + 1) (M.1 (w + 1)) (sI z (M.1 w) M))))
def S_X1_copyOf : SP := fun as M post => ∃ k o d b z w, as = [VR k, VR o] ∧ ((k = 5 ∧ d = 4 ∧ z = 9 ∧ o = 14 ∧ b = 11 ∧ w = 16) ∨ (k = 5 ∧ d = 4 ∧ z = 9 ∧ o = 21 ∧ b = 17 ∧ w = 19) ∨ (k = 5 ∧ d = 4 ∧ z = 9 ∧ o = 28 ∧ b = 23 ∧ w = 22) ∨ (k = 21 ∧ d = 17 ∧ z = 19 ∧ o = 5 ∧ b = 4 ∧ w = 9) ∨ (k = 28 ∧ d = 23 ∧ z = 22 ∧ o = 5 ∧ b = 4 ∧ w = 9)) ∧ post none (cpR d z b w M)
theorem cw_RX1_37 : ∀ w ∈ ([.methodLink RX1 37 yX1_keptBy, .instanceMethod yX1_keptBy, .selects yX1_keptBy.cls yX1_keptBy yX1_keptBy, .initialized yX1_keptBy.cls, .code yX1_keptBy cX1_keptBy 4 (some .int)] : List Cond), w ∈ tb := tb_all [401, 402, 403, 57, 404] (by decide +kernel) (by decide +kernel)
theorem dX1_usable_0 : decode cX1_usable 0 = .ok (.iconst 1, 1) := by decide +kernel
theorem dX1_usable_1 : decode cX1_usable 1 = .ok (.aload_n 0, 1) := by decide +kernel
theorem dX1_usable_2 : decode cX1_usable 2 = .ok (.getfield 30, 3) := by decide +kernel
theorem dX1_usable_5 : decode cX1_usable 5 = .ok (.ishl, 1) := by decide +kernel
theorem dX1_usable_6 : decode cX1_usable 6 = .ok (.iconst 1, 1) := by decide +kernel
theorem dX1_usable_7 : decode cX1_usable 7 = .ok (.isub, 1) := by decide +kernel
theorem dX1_usable_8 : decode cX1_usable 8 = .ok (.aload_n 0, 1) := by decide +kernel
theorem dX1_usable_9 : decode cX1_usable 9 = .ok (.bipush (-3), 2) := by decide +kernel
theorem dX1_usable_11 : decode cX1_usable 11 = .ok (.invokevirtual 37, 3) := by decide +kernel
theorem dX1_usable_14 : decode cX1_usable 14 = .ok (.iconst (-1), 1) := by decide +kernel
theorem dX1_usable_15 : decode cX1_usable 15 = .ok (.ixor, 1) := by decide +kernel
theorem dX1_usable_16 : decode cX1_usable 16 = .ok (.iand, 1) := by decide +kernel
theorem dX1_usable_17 : decode cX1_usable 17 = .ok (.ireturn, 1) := by decide +kernel
def T_X1_usable (post : PO) : List (Nat × OP) := [(0, o_const 1 1), (1, o_aload 0 2), (2, o_getf 1 2 5), (5, o_bin (fun x y => x <<< (y &&& 31)) 6), (6, o_const 1 7), (7, o_bin (fun x y => x - y) 8), (8, o_aload 0 9), (9, o_const (-3) 11), (11, o_callV 1 S_X1_keptBy 1 14), (14, o_const (-1) 15), (15, o_bin (fun x y => x ^^^ y) 16), (16, o_bin (fun x y => x &&& y) 17), (17, o_iret post)]
theorem k_X1_usable_0 (post : PO) : lk (T_X1_usable post) 0 = o_const 1 1 := rfl
theorem k_X1_usable_1 (post : PO) : lk (T_X1_usable post) 1 = o_aload 0 2 := rfl
theorem k_X1_usable_2 (post : PO) : lk (T_X1_usable post) 2 = o_getf 1 2 5 := rfl
theorem k_X1_usable_5 (post : PO) : lk (T_X1_usable post) 5 = o_bin (fun x y => x <<< (y &&& 31)) 6 := rfl
theorem k_X1_usable_6 (post : PO) : lk (T_X1_usable post) 6 = o_const 1 7 := rfl
theorem k_X1_usable_7 (post : PO) : lk (T_X1_usable post) 7 = o_bin (fun x y => x - y) 8 := rfl
theorem k_X1_usable_8 (post : PO) : lk (T_X1_usable post) 8 = o_aload 0 9 := rfl
theorem k_X1_usable_9 (post : PO) : lk (T_X1_usable post) 9 = o_const (-3) 11 := rfl
theorem k_X1_usable_11 (post : PO) : lk (T_X1_usable post) 11 = o_callV 1 S_X1_keptBy 1 14 := rfl
theorem k_X1_usable_14 (post : PO) : lk (T_X1_usable post) 14 = o_const (-1) 15 := rfl
theorem k_X1_usable_15 (post : PO) : lk (T_X1_usable post) 15 = o_bin (fun x y => x ^^^ y) 16 := rfl
theorem k_X1_usable_16 (post : PO) : lk (T_X1_usable post) 16 = o_bin (fun x y => x &&& y) 17 := rfl
theorem k_X1_usable_17 (post : PO) : lk (T_X1_usable post) 17 = o_iret post := rfl
set_option maxRecDepth 100000 in
theorem t_X1_usable {p : Program} {l : Launch} {e : Env} {s : State} {m : MethodId} {args : Array Value} {below : List Frame} {meth : Method} {c : Code} {D : va_G} {dA : Nat → ClassId} {ad : Nat → Nat} (post : PO) (C : CX p s m args meth c cX1_usable 1 yX1_usable.cls D dA ad (AA ad s.heap.size)) (hr : meth.sig.returnType = (some .int)) : SndL (WW p l e ({ frames := 1, cells := 0, slots := 0, locals := 23 } : Room) s m args below meth c 0 0 (MQ below (CQ D dA ad post (AA ad s.heap.size)) args s 0 0 (AA ad s.heap.size)) 1 D dA ad (AA ad s.heap.size)) (T_X1_usable post) := by
  refine snd_c (s_iconst C dX1_usable_0 rfl) ?_
  refine snd_c (s_aload_n C rfl dX1_usable_1) ?_
  refine snd_c (s_getf C (ci := 1) (j := 2) (T := TX1) rfl inX1 (by decide) fl_RX1_30 dX1_usable_2) ?_
  refine snd_c (s_ishl C dX1_usable_5) ?_
  refine snd_c (s_iconst C dX1_usable_6 rfl) ?_
  refine snd_c (s_isub C dX1_usable_7) ?_
  refine snd_c (s_aload_n C rfl dX1_usable_8) ?_
  refine snd_c (s_bipush C dX1_usable_9 rfl) ?_
  refine snd_c (s_callV C (ci := 1) c_X1_keptBy rfl cw_RX1_37 ⟨rfl, rfl⟩ ⟨by decide +kernel, by decide +kernel, by decide +kernel⟩ ⟨by decide, by decide⟩ ⟨Nat.zero_le _, Nat.zero_le _⟩ dX1_usable_11) ?_
  refine snd_c (s_iconst C dX1_usable_14 rfl) ?_
  refine snd_c (s_ixor C dX1_usable_15) ?_
  refine snd_c (s_iand C dX1_usable_16) ?_
  refine snd_c (s_iret C hr dX1_usable_17) ?_
  exact trivial
theorem dX1_madeBy_0 : decode cX1_madeBy 0 = .ok (.iconst 0, 1) := by decide +kernel
theorem dX1_madeBy_1 : decode cX1_madeBy 1 = .ok (.istore_n 2, 1) := by decide +kernel
theorem dX1_madeBy_2 : decode cX1_madeBy 2 = .ok (.iconst 0, 1) := by decide +kernel
theorem dX1_madeBy_3 : decode cX1_madeBy 3 = .ok (.istore_n 3, 1) := by decide +kernel
theorem dX1_madeBy_4 : decode cX1_madeBy 4 = .ok (.iload_n 3, 1) := by decide +kernel
theorem dX1_madeBy_5 : decode cX1_madeBy 5 = .ok (.aload_n 0, 1) := by decide +kernel
theorem dX1_madeBy_6 : decode cX1_madeBy 6 = .ok (.getfield 30, 3) := by decide +kernel
theorem dX1_madeBy_9 : decode cX1_madeBy 9 = .ok (.if_icmp .ge 26, 3) := by decide +kernel
theorem dX1_madeBy_12 : decode cX1_madeBy 12 = .ok (.iload_n 1, 1) := by decide +kernel
theorem dX1_madeBy_13 : decode cX1_madeBy 13 = .ok (.iload_n 3, 1) := by decide +kernel
theorem dX1_madeBy_14 : decode cX1_madeBy 14 = .ok (.ishr, 1) := by decide +kernel
theorem dX1_madeBy_15 : decode cX1_madeBy 15 = .ok (.iconst 1, 1) := by decide +kernel
theorem dX1_madeBy_16 : decode cX1_madeBy 16 = .ok (.iand, 1) := by decide +kernel
theorem dX1_madeBy_17 : decode cX1_madeBy 17 = .ok (.ifCond .eq 12, 3) := by decide +kernel
theorem dX1_madeBy_20 : decode cX1_madeBy 20 = .ok (.iload_n 2, 1) := by decide +kernel
theorem dX1_madeBy_21 : decode cX1_madeBy 21 = .ok (.aload_n 0, 1) := by decide +kernel
theorem dX1_madeBy_22 : decode cX1_madeBy 22 = .ok (.getfield 9, 3) := by decide +kernel
theorem dX1_madeBy_25 : decode cX1_madeBy 25 = .ok (.iload_n 3, 1) := by decide +kernel
theorem dX1_madeBy_26 : decode cX1_madeBy 26 = .ok (.iaload, 1) := by decide +kernel
theorem dX1_madeBy_27 : decode cX1_madeBy 27 = .ok (.ixor, 1) := by decide +kernel
theorem dX1_madeBy_28 : decode cX1_madeBy 28 = .ok (.istore_n 2, 1) := by decide +kernel
theorem dX1_madeBy_29 : decode cX1_madeBy 29 = .ok (.iinc 3 1, 3) := by decide +kernel
theorem dX1_madeBy_32 : decode cX1_madeBy 32 = .ok (.goto (-28), 3) := by decide +kernel
theorem dX1_madeBy_35 : decode cX1_madeBy 35 = .ok (.iload_n 2, 1) := by decide +kernel
theorem dX1_madeBy_36 : decode cX1_madeBy 36 = .ok (.ireturn, 1) := by decide +kernel
def T_X1_madeBy (post : PO) : List (Nat × OP) := [(0, o_const 0 1), (1, o_istore 2 2), (2, o_const 0 3), (3, o_istore 3 4), (4, o_iload 3 5), (5, o_aload 0 6), (6, o_getf 1 2 9), (9, o_icmp (fun x y => y ≤ x) 35 12), (12, o_iload 1 13), (13, o_iload 3 14), (14, o_bin (fun x y => x >>> (y &&& 31)) 15), (15, o_const 1 16), (16, o_bin (fun x y => x &&& y) 17), (17, o_if (fun x => x = 0) 29 20), (20, o_iload 2 21), (21, o_aload 0 22), (22, o_getf 1 0 25), (25, o_iload 3 26), (26, o_ald 0 27), (27, o_bin (fun x y => x ^^^ y) 28), (28, o_istore 2 29), (29, o_iinc 3 1 32), (32, o_goto 4), (35, o_iload 2 36), (36, o_iret post)]
theorem k_X1_madeBy_0 (post : PO) : lk (T_X1_madeBy post) 0 = o_const 0 1 := rfl
theorem k_X1_madeBy_1 (post : PO) : lk (T_X1_madeBy post) 1 = o_istore 2 2 := rfl
theorem k_X1_madeBy_2 (post : PO) : lk (T_X1_madeBy post) 2 = o_const 0 3 := rfl
theorem k_X1_madeBy_3 (post : PO) : lk (T_X1_madeBy post) 3 = o_istore 3 4 := rfl
theorem k_X1_madeBy_4 (post : PO) : lk (T_X1_madeBy post) 4 = o_iload 3 5 := rfl
theorem k_X1_madeBy_5 (post : PO) : lk (T_X1_madeBy post) 5 = o_aload 0 6 := rfl
theorem k_X1_madeBy_6 (post : PO) : lk (T_X1_madeBy post) 6 = o_getf 1 2 9 := rfl
theorem k_X1_madeBy_9 (post : PO) : lk (T_X1_madeBy post) 9 = o_icmp (fun x y => y ≤ x) 35 12 := rfl
theorem k_X1_madeBy_12 (post : PO) : lk (T_X1_madeBy post) 12 = o_iload 1 13 := rfl
theorem k_X1_madeBy_13 (post : PO) : lk (T_X1_madeBy post) 13 = o_iload 3 14 := rfl
theorem k_X1_madeBy_14 (post : PO) : lk (T_X1_madeBy post) 14 = o_bin (fun x y => x >>> (y &&& 31)) 15 := rfl
theorem k_X1_madeBy_15 (post : PO) : lk (T_X1_madeBy post) 15 = o_const 1 16 := rfl
theorem k_X1_madeBy_16 (post : PO) : lk (T_X1_madeBy post) 16 = o_bin (fun x y => x &&& y) 17 := rfl
theorem k_X1_madeBy_17 (post : PO) : lk (T_X1_madeBy post) 17 = o_if (fun x => x = 0) 29 20 := rfl
theorem k_X1_madeBy_20 (post : PO) : lk (T_X1_madeBy post) 20 = o_iload 2 21 := rfl
theorem k_X1_madeBy_21 (post : PO) : lk (T_X1_madeBy post) 21 = o_aload 0 22 := rfl
theorem k_X1_madeBy_22 (post : PO) : lk (T_X1_madeBy post) 22 = o_getf 1 0 25 := rfl
theorem k_X1_madeBy_25 (post : PO) : lk (T_X1_madeBy post) 25 = o_iload 3 26 := rfl
theorem k_X1_madeBy_26 (post : PO) : lk (T_X1_madeBy post) 26 = o_ald 0 27 := rfl
theorem k_X1_madeBy_27 (post : PO) : lk (T_X1_madeBy post) 27 = o_bin (fun x y => x ^^^ y) 28 := rfl
theorem k_X1_madeBy_28 (post : PO) : lk (T_X1_madeBy post) 28 = o_istore 2 29 := rfl
theorem k_X1_madeBy_29 (post : PO) : lk (T_X1_madeBy post) 29 = o_iinc 3 1 32 := rfl
theorem k_X1_madeBy_32 (post : PO) : lk (T_X1_madeBy post) 32 = o_goto 4 := rfl
theorem k_X1_madeBy_35 (post : PO) : lk (T_X1_madeBy post) 35 = o_iload 2 36 := rfl
theorem k_X1_madeBy_36 (post : PO) : lk (T_X1_madeBy post) 36 = o_iret post := rfl
set_option maxRecDepth 100000 in
theorem t_X1_madeBy {p : Program} {l : Launch} {e : Env} {s : State} {m : MethodId} {args : Array Value} {below : List Frame} {meth : Method} {c : Code} {D : va_G} {dA : Nat → ClassId} {ad : Nat → Nat} (post : PO) (C : CX p s m args meth c cX1_madeBy 4 yX1_madeBy.cls D dA ad (AA ad s.heap.size)) (hr : meth.sig.returnType = (some .int)) : SndL (WW p l e ({ frames := 0, cells := 0, slots := 0, locals := 0 } : Room) s m args below meth c 0 0 (MQ below (CQ D dA ad post (AA ad s.heap.size)) args s 0 0 (AA ad s.heap.size)) 4 D dA ad (AA ad s.heap.size)) (T_X1_madeBy post) := by
  refine snd_c (s_iconst C dX1_madeBy_0 rfl) ?_
  refine snd_c (s_istore_n C rfl (by decide) dX1_madeBy_1) ?_
  refine snd_c (s_iconst C dX1_madeBy_2 rfl) ?_
  refine snd_c (s_istore_n C rfl (by decide) dX1_madeBy_3) ?_
  refine snd_c (s_iload_n C rfl dX1_madeBy_4) ?_
  refine snd_c (s_aload_n C rfl dX1_madeBy_5) ?_
  refine snd_c (s_getf C (ci := 1) (j := 2) (T := TX1) rfl inX1 (by decide) fl_RX1_30 dX1_madeBy_6) ?_
  refine snd_c (s_icmp_ge C dX1_madeBy_9 (by decide)) ?_
  refine snd_c (s_iload_n C rfl dX1_madeBy_12) ?_
  refine snd_c (s_iload_n C rfl dX1_madeBy_13) ?_
  refine snd_c (s_ishr C dX1_madeBy_14) ?_
  refine snd_c (s_iconst C dX1_madeBy_15 rfl) ?_
  refine snd_c (s_iand C dX1_madeBy_16) ?_
  refine snd_c (s_if_eq C dX1_madeBy_17 (by decide)) ?_
  refine snd_c (s_iload_n C rfl dX1_madeBy_20) ?_
  refine snd_c (s_aload_n C rfl dX1_madeBy_21) ?_
  refine snd_c (s_getf C (ci := 1) (j := 0) (T := TX1) rfl inX1 (by decide) fl_RX1_9 dX1_madeBy_22) ?_
  refine snd_c (s_iload_n C rfl dX1_madeBy_25) ?_
  refine snd_c (s_iald C dX1_madeBy_26) ?_
  refine snd_c (s_ixor C dX1_madeBy_27) ?_
  refine snd_c (s_istore_n C rfl (by decide) dX1_madeBy_28) ?_
  refine snd_c (s_iinc C (by decide) rfl dX1_madeBy_29) ?_
  refine snd_c (s_goto C dX1_madeBy_32 (by decide)) ?_
  refine snd_c (s_iload_n C rfl dX1_madeBy_35) ?_
  refine snd_c (s_iret C hr dX1_madeBy_36) ?_
  exact trivial
theorem fl_RX1_18 : Cond.fieldLink RX1 18 (TX1 4).1 (TX1 4).2.1 (TX1 4).2.2.1 ∈ tb := tb_of 125 (by decide +kernel) (by decide +kernel)
theorem fl_RX1_21 : Cond.fieldLink RX1 21 (TX1 5).1 (TX1 5).2.1 (TX1 5).2.2.1 ∈ tb := tb_of 126 (by decide +kernel) (by decide +kernel)
theorem fl_RX1_24 : Cond.fieldLink RX1 24 (TX1 6).1 (TX1 6).2.1 (TX1 6).2.2.1 ∈ tb := tb_of 127 (by decide +kernel) (by decide +kernel)
theorem fl_RX1_27 : Cond.fieldLink RX1 27 (TX1 7).1 (TX1 7).2.1 (TX1 7).2.2.1 ∈ tb := tb_of 128 (by decide +kernel) (by decide +kernel)
theorem dX1_copyChange_0 : decode cX1_copyChange 0 = .ok (.aload_n 0, 1) := by decide +kernel
theorem dX1_copyChange_1 : decode cX1_copyChange 1 = .ok (.getfield 18, 3) := by decide +kernel
theorem dX1_copyChange_4 : decode cX1_copyChange 4 = .ok (.iload_n 1, 1) := by decide +kernel
theorem dX1_copyChange_5 : decode cX1_copyChange 5 = .ok (.aload_n 2, 1) := by decide +kernel
theorem dX1_copyChange_6 : decode cX1_copyChange 6 = .ok (.getfield 18, 3) := by decide +kernel
theorem dX1_copyChange_9 : decode cX1_copyChange 9 = .ok (.iload_n 3, 1) := by decide +kernel
theorem dX1_copyChange_10 : decode cX1_copyChange 10 = .ok (.iaload, 1) := by decide +kernel
theorem dX1_copyChange_11 : decode cX1_copyChange 11 = .ok (.iastore, 1) := by decide +kernel
theorem dX1_copyChange_12 : decode cX1_copyChange 12 = .ok (.aload_n 0, 1) := by decide +kernel
theorem dX1_copyChange_13 : decode cX1_copyChange 13 = .ok (.getfield 21, 3) := by decide +kernel
theorem dX1_copyChange_16 : decode cX1_copyChange 16 = .ok (.iload_n 1, 1) := by decide +kernel
theorem dX1_copyChange_17 : decode cX1_copyChange 17 = .ok (.aload_n 2, 1) := by decide +kernel
theorem dX1_copyChange_18 : decode cX1_copyChange 18 = .ok (.getfield 21, 3) := by decide +kernel
theorem dX1_copyChange_21 : decode cX1_copyChange 21 = .ok (.iload_n 3, 1) := by decide +kernel
theorem dX1_copyChange_22 : decode cX1_copyChange 22 = .ok (.iaload, 1) := by decide +kernel
theorem dX1_copyChange_23 : decode cX1_copyChange 23 = .ok (.iastore, 1) := by decide +kernel
theorem dX1_copyChange_24 : decode cX1_copyChange 24 = .ok (.aload_n 0, 1) := by decide +kernel
theorem dX1_copyChange_25 : decode cX1_copyChange 25 = .ok (.getfield 24, 3) := by decide +kernel
theorem dX1_copyChange_28 : decode cX1_copyChange 28 = .ok (.iload_n 1, 1) := by decide +kernel
theorem dX1_copyChange_29 : decode cX1_copyChange 29 = .ok (.aload_n 2, 1) := by decide +kernel
theorem dX1_copyChange_30 : decode cX1_copyChange 30 = .ok (.getfield 24, 3) := by decide +kernel
theorem dX1_copyChange_33 : decode cX1_copyChange 33 = .ok (.iload_n 3, 1) := by decide +kernel
theorem dX1_copyChange_34 : decode cX1_copyChange 34 = .ok (.iaload, 1) := by decide +kernel
theorem dX1_copyChange_35 : decode cX1_copyChange 35 = .ok (.iastore, 1) := by decide +kernel
theorem dX1_copyChange_36 : decode cX1_copyChange 36 = .ok (.aload_n 0, 1) := by decide +kernel
theorem dX1_copyChange_37 : decode cX1_copyChange 37 = .ok (.getfield 27, 3) := by decide +kernel
theorem dX1_copyChange_40 : decode cX1_copyChange 40 = .ok (.iload_n 1, 1) := by decide +kernel
theorem dX1_copyChange_41 : decode cX1_copyChange 41 = .ok (.aload_n 2, 1) := by decide +kernel
theorem dX1_copyChange_42 : decode cX1_copyChange 42 = .ok (.getfield 27, 3) := by decide +kernel
theorem dX1_copyChange_45 : decode cX1_copyChange 45 = .ok (.iload_n 3, 1) := by decide +kernel
theorem dX1_copyChange_46 : decode cX1_copyChange 46 = .ok (.iaload, 1) := by decide +kernel
theorem dX1_copyChange_47 : decode cX1_copyChange 47 = .ok (.iastore, 1) := by decide +kernel
theorem dX1_copyChange_48 : decode cX1_copyChange 48 = .ok (.return_, 1) := by decide +kernel
def T_X1_copyChange (post : PO) : List (Nat × OP) := [(0, o_aload 0 1), (1, o_getf 1 4 4), (4, o_iload 1 5), (5, o_aload 2 6), (6, o_getf 1 4 9), (9, o_iload 3 10), (10, o_ald 0 11), (11, o_ast 0 (fun x => x) 12), (12, o_aload 0 13), (13, o_getf 1 5 16), (16, o_iload 1 17), (17, o_aload 2 18), (18, o_getf 1 5 21), (21, o_iload 3 22), (22, o_ald 0 23), (23, o_ast 0 (fun x => x) 24), (24, o_aload 0 25), (25, o_getf 1 6 28), (28, o_iload 1 29), (29, o_aload 2 30), (30, o_getf 1 6 33), (33, o_iload 3 34), (34, o_ald 0 35), (35, o_ast 0 (fun x => x) 36), (36, o_aload 0 37), (37, o_getf 1 7 40), (40, o_iload 1 41), (41, o_aload 2 42), (42, o_getf 1 7 45), (45, o_iload 3 46), (46, o_ald 0 47), (47, o_ast 0 (fun x => x) 48), (48, o_ret post)]
theorem k_X1_copyChange_0 (post : PO) : lk (T_X1_copyChange post) 0 = o_aload 0 1 := rfl
theorem k_X1_copyChange_1 (post : PO) : lk (T_X1_copyChange post) 1 = o_getf 1 4 4 := rfl
theorem k_X1_copyChange_4 (post : PO) : lk (T_X1_copyChange post) 4 = o_iload 1 5 := rfl
theorem k_X1_copyChange_5 (post : PO) : lk (T_X1_copyChange post) 5 = o_aload 2 6 := rfl
theorem k_X1_copyChange_6 (post : PO) : lk (T_X1_copyChange post) 6 = o_getf 1 4 9 := rfl
theorem k_X1_copyChange_9 (post : PO) : lk (T_X1_copyChange post) 9 = o_iload 3 10 := rfl
theorem k_X1_copyChange_10 (post : PO) : lk (T_X1_copyChange post) 10 = o_ald 0 11 := rfl
theorem k_X1_copyChange_11 (post : PO) : lk (T_X1_copyChange post) 11 = o_ast 0 (fun x => x) 12 := rfl
theorem k_X1_copyChange_12 (post : PO) : lk (T_X1_copyChange post) 12 = o_aload 0 13 := rfl
theorem k_X1_copyChange_13 (post : PO) : lk (T_X1_copyChange post) 13 = o_getf 1 5 16 := rfl
theorem k_X1_copyChange_16 (post : PO) : lk (T_X1_copyChange post) 16 = o_iload 1 17 := rfl
theorem k_X1_copyChange_17 (post : PO) : lk (T_X1_copyChange post) 17 = o_aload 2 18 := rfl
theorem k_X1_copyChange_18 (post : PO) : lk (T_X1_copyChange post) 18 = o_getf 1 5 21 := rfl
theorem k_X1_copyChange_21 (post : PO) : lk (T_X1_copyChange post) 21 = o_iload 3 22 := rfl
theorem k_X1_copyChange_22 (post : PO) : lk (T_X1_copyChange post) 22 = o_ald 0 23 := rfl
theorem k_X1_copyChange_23 (post : PO) : lk (T_X1_copyChange post) 23 = o_ast 0 (fun x => x) 24 := rfl
theorem k_X1_copyChange_24 (post : PO) : lk (T_X1_copyChange post) 24 = o_aload 0 25 := rfl
theorem k_X1_copyChange_25 (post : PO) : lk (T_X1_copyChange post) 25 = o_getf 1 6 28 := rfl
theorem k_X1_copyChange_28 (post : PO) : lk (T_X1_copyChange post) 28 = o_iload 1 29 := rfl
theorem k_X1_copyChange_29 (post : PO) : lk (T_X1_copyChange post) 29 = o_aload 2 30 := rfl
theorem k_X1_copyChange_30 (post : PO) : lk (T_X1_copyChange post) 30 = o_getf 1 6 33 := rfl
theorem k_X1_copyChange_33 (post : PO) : lk (T_X1_copyChange post) 33 = o_iload 3 34 := rfl
theorem k_X1_copyChange_34 (post : PO) : lk (T_X1_copyChange post) 34 = o_ald 0 35 := rfl
theorem k_X1_copyChange_35 (post : PO) : lk (T_X1_copyChange post) 35 = o_ast 0 (fun x => x) 36 := rfl
theorem k_X1_copyChange_36 (post : PO) : lk (T_X1_copyChange post) 36 = o_aload 0 37 := rfl
theorem k_X1_copyChange_37 (post : PO) : lk (T_X1_copyChange post) 37 = o_getf 1 7 40 := rfl
theorem k_X1_copyChange_40 (post : PO) : lk (T_X1_copyChange post) 40 = o_iload 1 41 := rfl
theorem k_X1_copyChange_41 (post : PO) : lk (T_X1_copyChange post) 41 = o_aload 2 42 := rfl
theorem k_X1_copyChange_42 (post : PO) : lk (T_X1_copyChange post) 42 = o_getf 1 7 45 := rfl
theorem k_X1_copyChange_45 (post : PO) : lk (T_X1_copyChange post) 45 = o_iload 3 46 := rfl
theorem k_X1_copyChange_46 (post : PO) : lk (T_X1_copyChange post) 46 = o_ald 0 47 := rfl
theorem k_X1_copyChange_47 (post : PO) : lk (T_X1_copyChange post) 47 = o_ast 0 (fun x => x) 48 := rfl
theorem k_X1_copyChange_48 (post : PO) : lk (T_X1_copyChange post) 48 = o_ret post := rfl
set_option maxRecDepth 100000 in
theorem t_X1_copyChange {p : Program} {l : Launch} {e : Env} {s : State} {m : MethodId} {args : Array Value} {below : List Frame} {meth : Method} {c : Code} {D : va_G} {dA : Nat → ClassId} {ad : Nat → Nat} (post : PO) (C : CX p s m args meth c cX1_copyChange 4 yX1_copyChange.cls D dA ad (AA ad s.heap.size)) (hr : meth.sig.returnType = none) : SndL (WW p l e ({ frames := 0, cells := 0, slots := 0, locals := 0 } : Room) s m args below meth c 0 0 (MQ below (CQ D dA ad post (AA ad s.heap.size)) args s 0 0 (AA ad s.heap.size)) 4 D dA ad (AA ad s.heap.size)) (T_X1_copyChange post) := by
  refine snd_c (s_aload_n C rfl dX1_copyChange_0) ?_
  refine snd_c (s_getf C (ci := 1) (j := 4) (T := TX1) rfl inX1 (by decide) fl_RX1_18 dX1_copyChange_1) ?_
  refine snd_c (s_iload_n C rfl dX1_copyChange_4) ?_
  refine snd_c (s_aload_n C rfl dX1_copyChange_5) ?_
  refine snd_c (s_getf C (ci := 1) (j := 4) (T := TX1) rfl inX1 (by decide) fl_RX1_18 dX1_copyChange_6) ?_
  refine snd_c (s_iload_n C rfl dX1_copyChange_9) ?_
  refine snd_c (s_iald C dX1_copyChange_10) ?_
  refine snd_c (s_iast C dX1_copyChange_11) ?_
  refine snd_c (s_aload_n C rfl dX1_copyChange_12) ?_
  refine snd_c (s_getf C (ci := 1) (j := 5) (T := TX1) rfl inX1 (by decide) fl_RX1_21 dX1_copyChange_13) ?_
  refine snd_c (s_iload_n C rfl dX1_copyChange_16) ?_
  refine snd_c (s_aload_n C rfl dX1_copyChange_17) ?_
  refine snd_c (s_getf C (ci := 1) (j := 5) (T := TX1) rfl inX1 (by decide) fl_RX1_21 dX1_copyChange_18) ?_
  refine snd_c (s_iload_n C rfl dX1_copyChange_21) ?_
  refine snd_c (s_iald C dX1_copyChange_22) ?_
  refine snd_c (s_iast C dX1_copyChange_23) ?_
  refine snd_c (s_aload_n C rfl dX1_copyChange_24) ?_
  refine snd_c (s_getf C (ci := 1) (j := 6) (T := TX1) rfl inX1 (by decide) fl_RX1_24 dX1_copyChange_25) ?_
  refine snd_c (s_iload_n C rfl dX1_copyChange_28) ?_
  refine snd_c (s_aload_n C rfl dX1_copyChange_29) ?_
  refine snd_c (s_getf C (ci := 1) (j := 6) (T := TX1) rfl inX1 (by decide) fl_RX1_24 dX1_copyChange_30) ?_
  refine snd_c (s_iload_n C rfl dX1_copyChange_33) ?_
  refine snd_c (s_iald C dX1_copyChange_34) ?_
  refine snd_c (s_iast C dX1_copyChange_35) ?_
  refine snd_c (s_aload_n C rfl dX1_copyChange_36) ?_
  refine snd_c (s_getf C (ci := 1) (j := 7) (T := TX1) rfl inX1 (by decide) fl_RX1_27 dX1_copyChange_37) ?_
  refine snd_c (s_iload_n C rfl dX1_copyChange_40) ?_
  refine snd_c (s_aload_n C rfl dX1_copyChange_41) ?_
  refine snd_c (s_getf C (ci := 1) (j := 7) (T := TX1) rfl inX1 (by decide) fl_RX1_27 dX1_copyChange_42) ?_
  refine snd_c (s_iload_n C rfl dX1_copyChange_45) ?_
  refine snd_c (s_iald C dX1_copyChange_46) ?_
  refine snd_c (s_iast C dX1_copyChange_47) ?_
  refine snd_c (s_ret C hr dX1_copyChange_48) ?_
  exact trivial
set_option maxRecDepth 100000 in
theorem v_X1_usable : ∀ as M post, S_X1_usable as M post → wsum as ≤ 1 ∧ RUN (T_X1_usable post) 0 (entL 1 as) [] M := by
  rintro as M post ⟨n, rfl, hn, hn8, h⟩
  refine ⟨Nat.le_refl 1, run_wp 30 ?_⟩
  dsimp only [k_X1_usable_0, k_X1_usable_1, k_X1_usable_2, k_X1_usable_5, k_X1_usable_6, k_X1_usable_7, k_X1_usable_8, k_X1_usable_9, k_X1_usable_11, k_X1_usable_14, k_X1_usable_15, k_X1_usable_16, k_X1_usable_17, wp1, wp_s, cutIn, kont, Nat.reduceSub, Nat.reduceAdd, nth, o_const, o_lconst, o_ref, o_iload, o_lload, o_aload, o_istore, o_lstore, o_astore, o_iinc, o_bin, o_div, o_un, o_lbin, o_lsh, o_lcmp, o_i2l, o_l2i, o_if, o_icmp, o_goto, o_dup, o_dup2, o_pop, fav, o_getf, o_putI, o_putZ, o_putL, o_ald, o_ast, o_alen, popn, rst, o_callV, o_callT, o_callS, swx, o_sw, o_ret, o_iret, o_zret, o_cret, o_lret, o_aret, lg, lput, lput2, ls1, isL, entL, wsum, rdI1, rdI2, rdA1, rdA21, rdA22, rdL1, rdL22, rdL21, upN_at, rep, sh_0, F_0_0, F_0_1, F_0_2, F_0_3, F_0_4, F_0_5, F_0_6, F_0_7, F_0_8, sh_1, F_1_0, F_1_1, F_1_2, F_1_3, F_1_4, F_1_5, sh_3, F_3_0, F_3_1, F_3_2, F_3_3, F_3_4, F_3_5, sh_5, F_5_0, F_5_1, F_5_2, F_5_3, F_5_4, F_5_5, F_5_6, F_5_7, F_5_8, sh_12, F_12_0, F_12_1, F_12_2, F_12_3, F_12_4, F_12_5, sh_14, F_14_0, F_14_1, F_14_2, F_14_3, F_14_4, F_14_5, F_14_6, F_14_7, F_14_8, sh_21, F_21_0, F_21_1, F_21_2, F_21_3, F_21_4, F_21_5, F_21_6, F_21_7, F_21_8, sh_28, F_28_0, F_28_1, F_28_2, F_28_3, F_28_4, F_28_5, F_28_6, F_28_7, F_28_8, sh_35, F_35_0, sh_39, F_39_0, F_39_1, F_39_2, F_39_3, F_39_4, F_39_5, F_39_6, F_39_7, F_39_8, F_39_9, F_39_10, F_39_11, F_39_12, F_39_13, A_2, A_4, A_6, A_7, A_8, A_9, A_10, A_11, A_13, A_15, A_16, A_17, A_18, A_19, A_20, A_22, A_23, A_24, A_25, A_26, A_27, A_29, A_30, A_31, A_32, A_33, A_34, A_36, A_37, A_38, A_40, A_41, A_42, A_43, A_44, A_45, A_46, A_47, S_X1_keptBy]
  refine ⟨-3, n, rfl, hn, hn8, ?_⟩
  rw [hn, msk hn8]
  exact h
set_option maxRecDepth 100000 in
theorem v_X1_madeBy : ∀ as M post, S_X1_madeBy as M post → wsum as ≤ 4 ∧ RUN (T_X1_madeBy post) 0 (entL 4 as) [] M := by
  rintro as M post ⟨T, n, rfl, hT, hn, hn8, h⟩
  refine ⟨by show 2 ≤ 4; omega, run_of [4] (fun μ pc lv st M' => pc = 4 ∧ st = [] ∧ M' = M ∧ ∃ i, i ≤ n ∧ μ = n - i ∧ lv = [some (VR 5), some (VI (nI T)), some (VI (xrI (M.2.2 2) T i)), some (VI (nI i))]) 40 9 ?_ ?_⟩
  · rintro μ pc lv st M' ⟨rfl, rfl, rfl, i, hi, rfl, rfl⟩
    dsimp only [k_X1_madeBy_0, k_X1_madeBy_1, k_X1_madeBy_2, k_X1_madeBy_3, k_X1_madeBy_4, k_X1_madeBy_5, k_X1_madeBy_6, k_X1_madeBy_9, k_X1_madeBy_12, k_X1_madeBy_13, k_X1_madeBy_14, k_X1_madeBy_15, k_X1_madeBy_16, k_X1_madeBy_17, k_X1_madeBy_20, k_X1_madeBy_21, k_X1_madeBy_22, k_X1_madeBy_25, k_X1_madeBy_26, k_X1_madeBy_27, k_X1_madeBy_28, k_X1_madeBy_29, k_X1_madeBy_32, k_X1_madeBy_35, k_X1_madeBy_36, wp1, wp_s, cutIn, kont, Nat.reduceSub, Nat.reduceAdd, nth, o_const, o_lconst, o_ref, o_iload, o_lload, o_aload, o_istore, o_lstore, o_astore, o_iinc, o_bin, o_div, o_un, o_lbin, o_lsh, o_lcmp, o_i2l, o_l2i, o_if, o_icmp, o_goto, o_dup, o_dup2, o_pop, fav, o_getf, o_putI, o_putZ, o_putL, o_ald, o_ast, o_alen, popn, rst, o_callV, o_callT, o_callS, swx, o_sw, o_ret, o_iret, o_zret, o_cret, o_lret, o_aret, lg, lput, lput2, ls1, isL, entL, wsum, rdI1, rdI2, rdA1, rdA21, rdA22, rdL1, rdL22, rdL21, upN_at, rep, sh_0, F_0_0, F_0_1, F_0_2, F_0_3, F_0_4, F_0_5, F_0_6, F_0_7, F_0_8, sh_1, F_1_0, F_1_1, F_1_2, F_1_3, F_1_4, F_1_5, sh_3, F_3_0, F_3_1, F_3_2, F_3_3, F_3_4, F_3_5, sh_5, F_5_0, F_5_1, F_5_2, F_5_3, F_5_4, F_5_5, F_5_6, F_5_7, F_5_8, sh_12, F_12_0, F_12_1, F_12_2, F_12_3, F_12_4, F_12_5, sh_14, F_14_0, F_14_1, F_14_2, F_14_3, F_14_4, F_14_5, F_14_6, F_14_7, F_14_8, sh_21, F_21_0, F_21_1, F_21_2, F_21_3, F_21_4, F_21_5, F_21_6, F_21_7, F_21_8, sh_28, F_28_0, F_28_1, F_28_2, F_28_3, F_28_4, F_28_5, F_28_6, F_28_7, F_28_8, sh_35, F_35_0, sh_39, F_39_0, F_39_1, F_39_2, F_39_3, F_39_4, F_39_5, F_39_6, F_39_7, F_39_8, F_39_9, F_39_10, F_39_11, F_39_12, F_39_13, A_2, A_4, A_6, A_7, A_8, A_9, A_10, A_11, A_13, A_15, A_16, A_17, A_18, A_19, A_20, A_22, A_23, A_24, A_25, A_26, A_27, A_29, A_30, A_31, A_32, A_33, A_34, A_36, A_37, A_38, A_40, A_41, A_42, A_43, A_44, A_45, A_46, A_47]
    rw [hn]
    simp (disch := omega) only [nI_leI, nI_ltI, nI_eq, nI_1, nI_add, one_shl, nI_or, nI_xor, nI_and, bit_0, bit_1, true_or, or_true, true_and, and_true, eq_self, not_true_eq_false, not_false_eq_true, forall_const]
    refine ⟨fun h1 => ?_, fun h1 => ⟨fun h2 => cut _ _ ⟨rfl, rfl, rfl, i + 1, ?_, rfl, rfl⟩ ?_ ⟨rfl, rfl, ?_, rfl, trivial⟩, fun h2 => ⟨i, by omega, rfl, cut _ _ ⟨rfl, rfl, rfl, i + 1, ?_, rfl, rfl⟩ ?_ ⟨rfl, rfl, ?_, rfl, trivial⟩⟩⟩⟩ <;> try omega
    · rw [show i = n by omega]; exact h
    · exact vi_eq (by rw [xrI, if_neg (by simpa using h2)])
    · exact vi_eq (by rw [xrI, if_pos (by simpa using h2)])
  · dsimp only [k_X1_madeBy_0, k_X1_madeBy_1, k_X1_madeBy_2, k_X1_madeBy_3, k_X1_madeBy_4, k_X1_madeBy_5, k_X1_madeBy_6, k_X1_madeBy_9, k_X1_madeBy_12, k_X1_madeBy_13, k_X1_madeBy_14, k_X1_madeBy_15, k_X1_madeBy_16, k_X1_madeBy_17, k_X1_madeBy_20, k_X1_madeBy_21, k_X1_madeBy_22, k_X1_madeBy_25, k_X1_madeBy_26, k_X1_madeBy_27, k_X1_madeBy_28, k_X1_madeBy_29, k_X1_madeBy_32, k_X1_madeBy_35, k_X1_madeBy_36, wp1, wp_s, cutIn, kont, Nat.reduceSub, Nat.reduceAdd, nth, o_const, o_lconst, o_ref, o_iload, o_lload, o_aload, o_istore, o_lstore, o_astore, o_iinc, o_bin, o_div, o_un, o_lbin, o_lsh, o_lcmp, o_i2l, o_l2i, o_if, o_icmp, o_goto, o_dup, o_dup2, o_pop, fav, o_getf, o_putI, o_putZ, o_putL, o_ald, o_ast, o_alen, popn, rst, o_callV, o_callT, o_callS, swx, o_sw, o_ret, o_iret, o_zret, o_cret, o_lret, o_aret, lg, lput, lput2, ls1, isL, entL, wsum, rdI1, rdI2, rdA1, rdA21, rdA22, rdL1, rdL22, rdL21, upN_at, rep, sh_0, F_0_0, F_0_1, F_0_2, F_0_3, F_0_4, F_0_5, F_0_6, F_0_7, F_0_8, sh_1, F_1_0, F_1_1, F_1_2, F_1_3, F_1_4, F_1_5, sh_3, F_3_0, F_3_1, F_3_2, F_3_3, F_3_4, F_3_5, sh_5, F_5_0, F_5_1, F_5_2, F_5_3, F_5_4, F_5_5, F_5_6, F_5_7, F_5_8, sh_12, F_12_0, F_12_1, F_12_2, F_12_3, F_12_4, F_12_5, sh_14, F_14_0, F_14_1, F_14_2, F_14_3, F_14_4, F_14_5, F_14_6, F_14_7, F_14_8, sh_21, F_21_0, F_21_1, F_21_2, F_21_3, F_21_4, F_21_5, F_21_6, F_21_7, F_21_8, sh_28, F_28_0, F_28_1, F_28_2, F_28_3, F_28_4, F_28_5, F_28_6, F_28_7, F_28_8, sh_35, F_35_0, sh_39, F_39_0, F_39_1, F_39_2, F_39_3, F_39_4, F_39_5, F_39_6, F_39_7, F_39_8, F_39_9, F_39_10, F_39_11, F_39_12, F_39_13, A_2, A_4, A_6, A_7, A_8, A_9, A_10, A_11, A_13, A_15, A_16, A_17, A_18, A_19, A_20, A_22, A_23, A_24, A_25, A_26, A_27, A_29, A_30, A_31, A_32, A_33, A_34, A_36, A_37, A_38, A_40, A_41, A_42, A_43, A_44, A_45, A_46, A_47]
    exact cut _ _ ⟨rfl, rfl, rfl, 0, by omega, rfl, rfl⟩ (by omega) ⟨rfl, rfl, rfl, rfl, trivial⟩
set_option maxRecDepth 100000 in
theorem v_X1_copyChange : ∀ as M post, S_X1_copyChange as M post → wsum as ≤ 4 ∧ RUN (T_X1_copyChange post) 0 (entL 4 as) [] M := by
  rintro as M post ⟨k, o, d, b, t, f, rfl, ht, hf, hk, ho, h⟩
  refine ⟨Nat.le_refl 4, run_wp 60 ?_⟩
  rcases hk with ⟨rfl, rfl⟩ | ⟨rfl, rfl⟩ | ⟨rfl, rfl⟩ <;> rcases ho with ⟨rfl, rfl⟩ | ⟨rfl, rfl⟩ | ⟨rfl, rfl⟩ | ⟨rfl, rfl⟩
  all_goals
    dsimp only [k_X1_copyChange_0, k_X1_copyChange_1, k_X1_copyChange_4, k_X1_copyChange_5, k_X1_copyChange_6, k_X1_copyChange_9, k_X1_copyChange_10, k_X1_copyChange_11, k_X1_copyChange_12, k_X1_copyChange_13, k_X1_copyChange_16, k_X1_copyChange_17, k_X1_copyChange_18, k_X1_copyChange_21, k_X1_copyChange_22, k_X1_copyChange_23, k_X1_copyChange_24, k_X1_copyChange_25, k_X1_copyChange_28, k_X1_copyChange_29, k_X1_copyChange_30, k_X1_copyChange_33, k_X1_copyChange_34, k_X1_copyChange_35, k_X1_copyChange_36, k_X1_copyChange_37, k_X1_copyChange_40, k_X1_copyChange_41, k_X1_copyChange_42, k_X1_copyChange_45, k_X1_copyChange_46, k_X1_copyChange_47, k_X1_copyChange_48, wp1, wp_s, cutIn, kont, Nat.reduceSub, Nat.reduceAdd, nth, o_const, o_lconst, o_ref, o_iload, o_lload, o_aload, o_istore, o_lstore, o_astore, o_iinc, o_bin, o_div, o_un, o_lbin, o_lsh, o_lcmp, o_i2l, o_l2i, o_if, o_icmp, o_goto, o_dup, o_dup2, o_pop, fav, o_getf, o_putI, o_putZ, o_putL, o_ald, o_ast, o_alen, popn, rst, o_callV, o_callT, o_callS, swx, o_sw, o_ret, o_iret, o_zret, o_cret, o_lret, o_aret, lg, lput, lput2, ls1, isL, entL, wsum, rdI1, rdI2, rdA1, rdA21, rdA22, rdL1, rdL22, rdL21, upN_at, rep, sh_0, F_0_0, F_0_1, F_0_2, F_0_3, F_0_4, F_0_5, F_0_6, F_0_7, F_0_8, sh_1, F_1_0, F_1_1, F_1_2, F_1_3, F_1_4, F_1_5, sh_3, F_3_0, F_3_1, F_3_2, F_3_3, F_3_4, F_3_5, sh_5, F_5_0, F_5_1, F_5_2, F_5_3, F_5_4, F_5_5, F_5_6, F_5_7, F_5_8, sh_12, F_12_0, F_12_1, F_12_2, F_12_3, F_12_4, F_12_5, sh_14, F_14_0, F_14_1, F_14_2, F_14_3, F_14_4, F_14_5, F_14_6, F_14_7, F_14_8, sh_21, F_21_0, F_21_1, F_21_2, F_21_3, F_21_4, F_21_5, F_21_6, F_21_7, F_21_8, sh_28, F_28_0, F_28_1, F_28_2, F_28_3, F_28_4, F_28_5, F_28_6, F_28_7, F_28_8, sh_35, F_35_0, sh_39, F_39_0, F_39_1, F_39_2, F_39_3, F_39_4, F_39_5, F_39_6, F_39_7, F_39_8, F_39_9, F_39_10, F_39_11, F_39_12, F_39_13, A_2, A_4, A_6, A_7, A_8, A_9, A_10, A_11, A_13, A_15, A_16, A_17, A_18, A_19, A_20, A_22, A_23, A_24, A_25, A_26, A_27, A_29, A_30, A_31, A_32, A_33, A_34, A_36, A_37, A_38, A_40, A_41, A_42, A_43, A_44, A_45, A_46, A_47]
    refine ⟨f, hf, rfl, t, ht, rfl, f, hf, rfl, t, ht, rfl, f, hf, rfl, t, ht, rfl, f, hf, rfl, t, ht, rfl, ?_⟩
    unfold o4 at h
    simp only [sA_sA, sA_cm, sI_sA, sI_sI, sI_cm, sL_sA, sL_sI, sL_sL, sL_cm, Nat.reduceLT] at h ⊢
    exact h
theorem c_X1_usable : Ctr yX1_usable cX1_usable 1 (some .int) ({ frames := 1, cells := 0, slots := 0, locals := 23 } : Room) S_X1_usable := ctr_of (T := T_X1_usable) (by decide +kernel) (fun post C hr => t_X1_usable post C hr) v_X1_usable
theorem c_X1_madeBy : Ctr yX1_madeBy cX1_madeBy 4 (some .int) ({ frames := 0, cells := 0, slots := 0, locals := 0 } : Room) S_X1_madeBy := ctr_of (T := T_X1_madeBy) (by decide +kernel) (fun post C hr => t_X1_madeBy post C hr) v_X1_madeBy
theorem c_X1_copyChange : Ctr yX1_copyChange cX1_copyChange 4 none ({ frames := 0, cells := 0, slots := 0, locals := 0 } : Room) S_X1_copyChange := ctr_of (T := T_X1_copyChange) (by decide +kernel) (fun post C hr => t_X1_copyChange post C hr) v_X1_copyChange
