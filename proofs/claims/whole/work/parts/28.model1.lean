/-! The model: what it is told, its keys. -/
def MW (M : AM) (n c p : Nat) (r : Nat → Nat) (h : Nat → Int32) (lk : Nat → Nat) : Prop := M.2.2 33 0 = nI n ∧ n ≤ 8 ∧ M.2.2 31 0 = nI c ∧ c ≤ 6 ∧ M.2.2 31 1 = nI p ∧ p ≤ 4 ∧ (∀ k, k < n → M.2.2 33 (1 + k) = nI (r k) ∧ r k < 512) ∧ (∀ k, k < n → M.2.2 33 (9 + k) = h k) ∧ ∀ l, l < c → M.2.2 31 (4 + l) = nI (lk l) ∧ lk l < 512
def S_X5_in : SP := fun as M post => ∃ x a b, as = [VI x, VI a, VI b] ∧ pz (a ≤ x ∧ x ≤ b) post M
def S_X5_isLock : SP := fun as M post => ∃ x n c p r h lk, as = [VR 39, VI x] ∧ MW M n c p r h lk ∧ pz (0 ≤ x ∧ x < nI c) post M
def S_X5_isPerson : SP := fun as M post => ∃ x n c p r h lk, as = [VR 39, VI x] ∧ MW M n c p r h lk ∧ pz (0 ≤ x ∧ x < nI p) post M
def S_X5_isGroup : SP := fun as M post => ∃ x n c p r h lk, as = [VR 39, VI x] ∧ MW M n c p r h lk ∧ pz (0 ≤ x ∧ x < nI (2 ^ p)) post M
def S_X5_isKey : SP := fun as M post => ∃ x n c p r h lk, as = [VR 39, VI x] ∧ MW M n c p r h lk ∧ pz (0 ≤ x ∧ x < nI n) post M
def S_X5_clear : SP := fun as M post => as = [VR 39] ∧ post (some (VI (M.1 25))) (sI 25 0 M)
theorem dX5_in_0 : decode cX5_in 0 = .ok (.iload_n 0, 1) := by decide +kernel
theorem dX5_in_1 : decode cX5_in 1 = .ok (.iload_n 1, 1) := by decide +kernel
theorem dX5_in_2 : decode cX5_in 2 = .ok (.if_icmp .lt 12, 3) := by decide +kernel
theorem dX5_in_5 : decode cX5_in 5 = .ok (.iload_n 0, 1) := by decide +kernel
theorem dX5_in_6 : decode cX5_in 6 = .ok (.iload_n 2, 1) := by decide +kernel
theorem dX5_in_7 : decode cX5_in 7 = .ok (.if_icmp .gt 7, 3) := by decide +kernel
theorem dX5_in_10 : decode cX5_in 10 = .ok (.iconst 1, 1) := by decide +kernel
theorem dX5_in_11 : decode cX5_in 11 = .ok (.goto 4, 3) := by decide +kernel
theorem dX5_in_14 : decode cX5_in 14 = .ok (.iconst 0, 1) := by decide +kernel
theorem dX5_in_15 : decode cX5_in 15 = .ok (.ireturn, 1) := by decide +kernel
def T_X5_in (post : PO) : List (Nat × OP) := [(0, o_iload 0 1), (1, o_iload 1 2), (2, o_icmp (fun x y => x < y) 14 5), (5, o_iload 0 6), (6, o_iload 2 7), (7, o_icmp (fun x y => y < x) 14 10), (10, o_const 1 11), (11, o_goto 15), (14, o_const 0 15), (15, o_zret post)]
theorem k_X5_in_0 (post : PO) : lk (T_X5_in post) 0 = o_iload 0 1 := rfl
theorem k_X5_in_1 (post : PO) : lk (T_X5_in post) 1 = o_iload 1 2 := rfl
theorem k_X5_in_2 (post : PO) : lk (T_X5_in post) 2 = o_icmp (fun x y => x < y) 14 5 := rfl
theorem k_X5_in_5 (post : PO) : lk (T_X5_in post) 5 = o_iload 0 6 := rfl
theorem k_X5_in_6 (post : PO) : lk (T_X5_in post) 6 = o_iload 2 7 := rfl
theorem k_X5_in_7 (post : PO) : lk (T_X5_in post) 7 = o_icmp (fun x y => y < x) 14 10 := rfl
theorem k_X5_in_10 (post : PO) : lk (T_X5_in post) 10 = o_const 1 11 := rfl
theorem k_X5_in_11 (post : PO) : lk (T_X5_in post) 11 = o_goto 15 := rfl
theorem k_X5_in_14 (post : PO) : lk (T_X5_in post) 14 = o_const 0 15 := rfl
theorem k_X5_in_15 (post : PO) : lk (T_X5_in post) 15 = o_zret post := rfl
set_option maxRecDepth 100000 in
theorem t_X5_in {p : Program} {l : Launch} {e : Env} {s : State} {m : MethodId} {args : Array Value} {below : List Frame} {meth : Method} {c : Code} {D : va_G} {dA : Nat → ClassId} {ad : Nat → Nat} (post : PO) (C : CX p s m args meth c cX5_in 3 yX5_in.cls D dA ad (AA ad s.heap.size)) (hr : meth.sig.returnType = (some .boolean)) : SndL (WW p l e ({ frames := 0, cells := 0, slots := 0, locals := 0 } : Room) s m args below meth c 0 0 (MQ below (CQ D dA ad post (AA ad s.heap.size)) args s 0 0 (AA ad s.heap.size)) 3 D dA ad (AA ad s.heap.size)) (T_X5_in post) := by
  refine snd_c (s_iload_n C rfl dX5_in_0) ?_
  refine snd_c (s_iload_n C rfl dX5_in_1) ?_
  refine snd_c (s_icmp_lt C dX5_in_2 (by decide)) ?_
  refine snd_c (s_iload_n C rfl dX5_in_5) ?_
  refine snd_c (s_iload_n C rfl dX5_in_6) ?_
  refine snd_c (s_icmp_gt C dX5_in_7 (by decide)) ?_
  refine snd_c (s_iconst C dX5_in_10 rfl) ?_
  refine snd_c (s_goto C dX5_in_11 (by decide)) ?_
  refine snd_c (s_iconst C dX5_in_14 rfl) ?_
  refine snd_c (s_zret C hr ⟨rfl, rfl⟩ dX5_in_15) ?_
  exact trivial
theorem fl_RX5_39 : Cond.fieldLink RX5 39 (TX5 2).1 (TX5 2).2.1 (TX5 2).2.2.1 ∈ tb := tb_of 635 (by decide +kernel) (by decide +kernel)
theorem dX5_clear_0 : decode cX5_clear 0 = .ok (.aload_n 0, 1) := by decide +kernel
theorem dX5_clear_1 : decode cX5_clear 1 = .ok (.getfield 39, 3) := by decide +kernel
theorem dX5_clear_4 : decode cX5_clear 4 = .ok (.istore_n 1, 1) := by decide +kernel
theorem dX5_clear_5 : decode cX5_clear 5 = .ok (.aload_n 0, 1) := by decide +kernel
theorem dX5_clear_6 : decode cX5_clear 6 = .ok (.iconst 0, 1) := by decide +kernel
theorem dX5_clear_7 : decode cX5_clear 7 = .ok (.putfield 39, 3) := by decide +kernel
theorem dX5_clear_10 : decode cX5_clear 10 = .ok (.iload_n 1, 1) := by decide +kernel
theorem dX5_clear_11 : decode cX5_clear 11 = .ok (.ireturn, 1) := by decide +kernel
def T_X5_clear (post : PO) : List (Nat × OP) := [(0, o_aload 0 1), (1, o_getf 5 2 4), (4, o_istore 1 5), (5, o_aload 0 6), (6, o_const 0 7), (7, o_putI 5 2 10), (10, o_iload 1 11), (11, o_iret post)]
theorem k_X5_clear_0 (post : PO) : lk (T_X5_clear post) 0 = o_aload 0 1 := rfl
theorem k_X5_clear_1 (post : PO) : lk (T_X5_clear post) 1 = o_getf 5 2 4 := rfl
theorem k_X5_clear_4 (post : PO) : lk (T_X5_clear post) 4 = o_istore 1 5 := rfl
theorem k_X5_clear_5 (post : PO) : lk (T_X5_clear post) 5 = o_aload 0 6 := rfl
theorem k_X5_clear_6 (post : PO) : lk (T_X5_clear post) 6 = o_const 0 7 := rfl
theorem k_X5_clear_7 (post : PO) : lk (T_X5_clear post) 7 = o_putI 5 2 10 := rfl
theorem k_X5_clear_10 (post : PO) : lk (T_X5_clear post) 10 = o_iload 1 11 := rfl
theorem k_X5_clear_11 (post : PO) : lk (T_X5_clear post) 11 = o_iret post := rfl
set_option maxRecDepth 100000 in
theorem t_X5_clear {p : Program} {l : Launch} {e : Env} {s : State} {m : MethodId} {args : Array Value} {below : List Frame} {meth : Method} {c : Code} {D : va_G} {dA : Nat → ClassId} {ad : Nat → Nat} (post : PO) (C : CX p s m args meth c cX5_clear 2 yX5_clear.cls D dA ad (AA ad s.heap.size)) (hr : meth.sig.returnType = (some .int)) : SndL (WW p l e ({ frames := 0, cells := 0, slots := 0, locals := 0 } : Room) s m args below meth c 0 0 (MQ below (CQ D dA ad post (AA ad s.heap.size)) args s 0 0 (AA ad s.heap.size)) 2 D dA ad (AA ad s.heap.size)) (T_X5_clear post) := by
  refine snd_c (s_aload_n C rfl dX5_clear_0) ?_
  refine snd_c (s_getf C (ci := 5) (j := 2) (T := TX5) rfl inX5 (by decide) fl_RX5_39 dX5_clear_1) ?_
  refine snd_c (s_istore_n C rfl (by decide) dX5_clear_4) ?_
  refine snd_c (s_aload_n C rfl dX5_clear_5) ?_
  refine snd_c (s_iconst C dX5_clear_6 rfl) ?_
  refine snd_c (s_putI C (ci := 5) (j := 2) (T := TX5) tyX5 tyX5_ok nmX5 rfl inX5 (by decide) rfl rfl fl_RX5_39 dX5_clear_7) ?_
  refine snd_c (s_iload_n C rfl dX5_clear_10) ?_
  refine snd_c (s_iret C hr dX5_clear_11) ?_
  exact trivial
set_option maxRecDepth 100000 in
theorem v_X5_in : ∀ as M post, S_X5_in as M post → wsum as ≤ 3 ∧ RUN (T_X5_in post) 0 (entL 3 as) [] M := by
  rintro as M post ⟨x, a, b, rfl, h⟩
  refine ⟨by show 3 ≤ 3; omega, run_wp 40 ?_⟩
  dsimp only [k_X5_in_0, k_X5_in_1, k_X5_in_2, k_X5_in_5, k_X5_in_6, k_X5_in_7, k_X5_in_10, k_X5_in_11, k_X5_in_14, k_X5_in_15, wp1, wp_s, cutIn, kont, Nat.reduceSub, Nat.reduceAdd, nth, o_const, o_lconst, o_ref, o_iload, o_lload, o_aload, o_istore, o_lstore, o_astore, o_iinc, o_bin, o_div, o_un, o_lbin, o_lsh, o_lcmp, o_i2l, o_l2i, o_if, o_icmp, o_goto, o_dup, o_dup2, o_pop, fav, o_getf, o_putI, o_putZ, o_putL, o_ald, o_ast, o_alen, popn, rst, o_callV, o_callT, o_callS, swx, o_sw, o_ret, o_iret, o_zret, o_cret, o_lret, o_aret, lg, lput, lput2, ls1, isL, entL, wsum, rdI1, rdI2, rdA1, rdA21, rdA22, rdL1, rdL22, rdL21, upN_at, rep, sh_0, F_0_0, F_0_1, F_0_2, F_0_3, F_0_4, F_0_5, F_0_6, F_0_7, F_0_8, sh_1, F_1_0, F_1_1, F_1_2, F_1_3, F_1_4, F_1_5, sh_3, F_3_0, F_3_1, F_3_2, F_3_3, F_3_4, F_3_5, sh_5, F_5_0, F_5_1, F_5_2, F_5_3, F_5_4, F_5_5, F_5_6, F_5_7, F_5_8, sh_12, F_12_0, F_12_1, F_12_2, F_12_3, F_12_4, F_12_5, sh_14, F_14_0, F_14_1, F_14_2, F_14_3, F_14_4, F_14_5, F_14_6, F_14_7, F_14_8, sh_21, F_21_0, F_21_1, F_21_2, F_21_3, F_21_4, F_21_5, F_21_6, F_21_7, F_21_8, sh_28, F_28_0, F_28_1, F_28_2, F_28_3, F_28_4, F_28_5, F_28_6, F_28_7, F_28_8, sh_35, F_35_0, sh_39, F_39_0, F_39_1, F_39_2, F_39_3, F_39_4, F_39_5, F_39_6, F_39_7, F_39_8, F_39_9, F_39_10, F_39_11, F_39_12, F_39_13, A_2, A_4, A_6, A_7, A_8, A_9, A_10, A_11, A_13, A_15, A_16, A_17, A_18, A_19, A_20, A_22, A_23, A_24, A_25, A_26, A_27, A_29, A_30, A_31, A_32, A_33, A_34, A_36, A_37, A_38, A_40, A_41, A_42, A_43, A_44, A_45, A_46, A_47]
  simp only [pz, Int32.lt_iff_toInt_lt, Int32.le_iff_toInt_le, true_or, or_true, true_and] at h ⊢
  exact ⟨fun h1 => h.2 (by omega), fun h1 => ⟨fun h2 => h.2 (by omega), fun h2 => h.1 (by omega)⟩⟩
set_option maxRecDepth 100000 in
theorem v_X5_clear : ∀ as M post, S_X5_clear as M post → wsum as ≤ 2 ∧ RUN (T_X5_clear post) 0 (entL 2 as) [] M := by
  rintro as M post ⟨rfl, h⟩
  refine ⟨by show 1 ≤ 2; omega, run_wp 40 ?_⟩
  dsimp only [k_X5_clear_0, k_X5_clear_1, k_X5_clear_4, k_X5_clear_5, k_X5_clear_6, k_X5_clear_7, k_X5_clear_10, k_X5_clear_11, wp1, wp_s, cutIn, kont, Nat.reduceSub, Nat.reduceAdd, nth, o_const, o_lconst, o_ref, o_iload, o_lload, o_aload, o_istore, o_lstore, o_astore, o_iinc, o_bin, o_div, o_un, o_lbin, o_lsh, o_lcmp, o_i2l, o_l2i, o_if, o_icmp, o_goto, o_dup, o_dup2, o_pop, fav, o_getf, o_putI, o_putZ, o_putL, o_ald, o_ast, o_alen, popn, rst, o_callV, o_callT, o_callS, swx, o_sw, o_ret, o_iret, o_zret, o_cret, o_lret, o_aret, lg, lput, lput2, ls1, isL, entL, wsum, rdI1, rdI2, rdA1, rdA21, rdA22, rdL1, rdL22, rdL21, upN_at, rep, sh_0, F_0_0, F_0_1, F_0_2, F_0_3, F_0_4, F_0_5, F_0_6, F_0_7, F_0_8, sh_1, F_1_0, F_1_1, F_1_2, F_1_3, F_1_4, F_1_5, sh_3, F_3_0, F_3_1, F_3_2, F_3_3, F_3_4, F_3_5, sh_5, F_5_0, F_5_1, F_5_2, F_5_3, F_5_4, F_5_5, F_5_6, F_5_7, F_5_8, sh_12, F_12_0, F_12_1, F_12_2, F_12_3, F_12_4, F_12_5, sh_14, F_14_0, F_14_1, F_14_2, F_14_3, F_14_4, F_14_5, F_14_6, F_14_7, F_14_8, sh_21, F_21_0, F_21_1, F_21_2, F_21_3, F_21_4, F_21_5, F_21_6, F_21_7, F_21_8, sh_28, F_28_0, F_28_1, F_28_2, F_28_3, F_28_4, F_28_5, F_28_6, F_28_7, F_28_8, sh_35, F_35_0, sh_39, F_39_0, F_39_1, F_39_2, F_39_3, F_39_4, F_39_5, F_39_6, F_39_7, F_39_8, F_39_9, F_39_10, F_39_11, F_39_12, F_39_13, A_2, A_4, A_6, A_7, A_8, A_9, A_10, A_11, A_13, A_15, A_16, A_17, A_18, A_19, A_20, A_22, A_23, A_24, A_25, A_26, A_27, A_29, A_30, A_31, A_32, A_33, A_34, A_36, A_37, A_38, A_40, A_41, A_42, A_43, A_44, A_45, A_46, A_47]
  exact h
theorem c_X5_in : Ctr yX5_in cX5_in 3 (some .boolean) ({ frames := 0, cells := 0, slots := 0, locals := 0 } : Room) S_X5_in := ctr_of (T := T_X5_in) (by decide +kernel) (fun post C hr => t_X5_in post C hr) v_X5_in
theorem c_X5_clear : Ctr yX5_clear cX5_clear 2 (some .int) ({ frames := 0, cells := 0, slots := 0, locals := 0 } : Room) S_X5_clear := ctr_of (T := T_X5_clear) (by decide +kernel) (fun post C hr => t_X5_clear post C hr) v_X5_clear
theorem fl_RX5_13 : Cond.fieldLink RX5 13 (TX5 3).1 (TX5 3).2.1 (TX5 3).2.2.1 ∈ tb := tb_of 636 (by decide +kernel) (by decide +kernel)
theorem cw_RX5_35 : ∀ w ∈ ([.methodLink RX5 35 yX5_in, .static yX5_in, .initialized yX5_in.cls, .code yX5_in cX5_in 3 (some .boolean)] : List Cond), w ∈ tb := tb_all [680, 681, 59, 682] (by decide +kernel) (by decide +kernel)
theorem dX5_isLock_0 : decode cX5_isLock 0 = .ok (.iload_n 1, 1) := by decide +kernel
theorem dX5_isLock_1 : decode cX5_isLock 1 = .ok (.iconst 0, 1) := by decide +kernel
theorem dX5_isLock_2 : decode cX5_isLock 2 = .ok (.aload_n 0, 1) := by decide +kernel
theorem dX5_isLock_3 : decode cX5_isLock 3 = .ok (.getfield 13, 3) := by decide +kernel
theorem dX5_isLock_6 : decode cX5_isLock 6 = .ok (.iconst 0, 1) := by decide +kernel
theorem dX5_isLock_7 : decode cX5_isLock 7 = .ok (.iaload, 1) := by decide +kernel
theorem dX5_isLock_8 : decode cX5_isLock 8 = .ok (.iconst 1, 1) := by decide +kernel
theorem dX5_isLock_9 : decode cX5_isLock 9 = .ok (.isub, 1) := by decide +kernel
theorem dX5_isLock_10 : decode cX5_isLock 10 = .ok (.invokestatic 35, 3) := by decide +kernel
theorem dX5_isLock_13 : decode cX5_isLock 13 = .ok (.ireturn, 1) := by decide +kernel
def T_X5_isLock (post : PO) : List (Nat × OP) := [(0, o_iload 1 1), (1, o_const 0 2), (2, o_aload 0 3), (3, o_getf 5 3 6), (6, o_const 0 7), (7, o_ald 0 8), (8, o_const 1 9), (9, o_bin (fun x y => x - y) 10), (10, o_callS S_X5_in 3 13), (13, o_zret post)]
theorem k_X5_isLock_0 (post : PO) : lk (T_X5_isLock post) 0 = o_iload 1 1 := rfl
theorem k_X5_isLock_1 (post : PO) : lk (T_X5_isLock post) 1 = o_const 0 2 := rfl
theorem k_X5_isLock_2 (post : PO) : lk (T_X5_isLock post) 2 = o_aload 0 3 := rfl
theorem k_X5_isLock_3 (post : PO) : lk (T_X5_isLock post) 3 = o_getf 5 3 6 := rfl
theorem k_X5_isLock_6 (post : PO) : lk (T_X5_isLock post) 6 = o_const 0 7 := rfl
theorem k_X5_isLock_7 (post : PO) : lk (T_X5_isLock post) 7 = o_ald 0 8 := rfl
theorem k_X5_isLock_8 (post : PO) : lk (T_X5_isLock post) 8 = o_const 1 9 := rfl
theorem k_X5_isLock_9 (post : PO) : lk (T_X5_isLock post) 9 = o_bin (fun x y => x - y) 10 := rfl
theorem k_X5_isLock_10 (post : PO) : lk (T_X5_isLock post) 10 = o_callS S_X5_in 3 13 := rfl
theorem k_X5_isLock_13 (post : PO) : lk (T_X5_isLock post) 13 = o_zret post := rfl
set_option maxRecDepth 100000 in
theorem t_X5_isLock {p : Program} {l : Launch} {e : Env} {s : State} {m : MethodId} {args : Array Value} {below : List Frame} {meth : Method} {c : Code} {D : va_G} {dA : Nat → ClassId} {ad : Nat → Nat} (post : PO) (C : CX p s m args meth c cX5_isLock 2 yX5_isLock.cls D dA ad (AA ad s.heap.size)) (hr : meth.sig.returnType = (some .boolean)) : SndL (WW p l e ({ frames := 1, cells := 0, slots := 0, locals := 22 } : Room) s m args below meth c 0 0 (MQ below (CQ D dA ad post (AA ad s.heap.size)) args s 0 0 (AA ad s.heap.size)) 2 D dA ad (AA ad s.heap.size)) (T_X5_isLock post) := by
  refine snd_c (s_iload_n C rfl dX5_isLock_0) ?_
  refine snd_c (s_iconst C dX5_isLock_1 rfl) ?_
  refine snd_c (s_aload_n C rfl dX5_isLock_2) ?_
  refine snd_c (s_getf C (ci := 5) (j := 3) (T := TX5) rfl inX5 (by decide) fl_RX5_13 dX5_isLock_3) ?_
  refine snd_c (s_iconst C dX5_isLock_6 rfl) ?_
  refine snd_c (s_iald C dX5_isLock_7) ?_
  refine snd_c (s_iconst C dX5_isLock_8 rfl) ?_
  refine snd_c (s_isub C dX5_isLock_9) ?_
  refine snd_c (s_callS C c_X5_in cw_RX5_35 ⟨rfl, rfl⟩ ⟨by decide +kernel, by decide +kernel, by decide +kernel⟩ ⟨by decide, by decide⟩ ⟨Nat.zero_le _, Nat.zero_le _⟩ dX5_isLock_10) ?_
  refine snd_c (s_zret C hr ⟨rfl, rfl⟩ dX5_isLock_13) ?_
  exact trivial
theorem dX5_isPerson_0 : decode cX5_isPerson 0 = .ok (.iload_n 1, 1) := by decide +kernel
theorem dX5_isPerson_1 : decode cX5_isPerson 1 = .ok (.iconst 0, 1) := by decide +kernel
theorem dX5_isPerson_2 : decode cX5_isPerson 2 = .ok (.aload_n 0, 1) := by decide +kernel
theorem dX5_isPerson_3 : decode cX5_isPerson 3 = .ok (.getfield 13, 3) := by decide +kernel
theorem dX5_isPerson_6 : decode cX5_isPerson 6 = .ok (.iconst 1, 1) := by decide +kernel
theorem dX5_isPerson_7 : decode cX5_isPerson 7 = .ok (.iaload, 1) := by decide +kernel
theorem dX5_isPerson_8 : decode cX5_isPerson 8 = .ok (.iconst 1, 1) := by decide +kernel
theorem dX5_isPerson_9 : decode cX5_isPerson 9 = .ok (.isub, 1) := by decide +kernel
theorem dX5_isPerson_10 : decode cX5_isPerson 10 = .ok (.invokestatic 35, 3) := by decide +kernel
theorem dX5_isPerson_13 : decode cX5_isPerson 13 = .ok (.ireturn, 1) := by decide +kernel
def T_X5_isPerson (post : PO) : List (Nat × OP) := [(0, o_iload 1 1), (1, o_const 0 2), (2, o_aload 0 3), (3, o_getf 5 3 6), (6, o_const 1 7), (7, o_ald 0 8), (8, o_const 1 9), (9, o_bin (fun x y => x - y) 10), (10, o_callS S_X5_in 3 13), (13, o_zret post)]
theorem k_X5_isPerson_0 (post : PO) : lk (T_X5_isPerson post) 0 = o_iload 1 1 := rfl
theorem k_X5_isPerson_1 (post : PO) : lk (T_X5_isPerson post) 1 = o_const 0 2 := rfl
theorem k_X5_isPerson_2 (post : PO) : lk (T_X5_isPerson post) 2 = o_aload 0 3 := rfl
theorem k_X5_isPerson_3 (post : PO) : lk (T_X5_isPerson post) 3 = o_getf 5 3 6 := rfl
theorem k_X5_isPerson_6 (post : PO) : lk (T_X5_isPerson post) 6 = o_const 1 7 := rfl
theorem k_X5_isPerson_7 (post : PO) : lk (T_X5_isPerson post) 7 = o_ald 0 8 := rfl
theorem k_X5_isPerson_8 (post : PO) : lk (T_X5_isPerson post) 8 = o_const 1 9 := rfl
theorem k_X5_isPerson_9 (post : PO) : lk (T_X5_isPerson post) 9 = o_bin (fun x y => x - y) 10 := rfl
theorem k_X5_isPerson_10 (post : PO) : lk (T_X5_isPerson post) 10 = o_callS S_X5_in 3 13 := rfl
theorem k_X5_isPerson_13 (post : PO) : lk (T_X5_isPerson post) 13 = o_zret post := rfl
set_option maxRecDepth 100000 in
theorem t_X5_isPerson {p : Program} {l : Launch} {e : Env} {s : State} {m : MethodId} {args : Array Value} {below : List Frame} {meth : Method} {c : Code} {D : va_G} {dA : Nat → ClassId} {ad : Nat → Nat} (post : PO) (C : CX p s m args meth c cX5_isPerson 2 yX5_isPerson.cls D dA ad (AA ad s.heap.size)) (hr : meth.sig.returnType = (some .boolean)) : SndL (WW p l e ({ frames := 1, cells := 0, slots := 0, locals := 22 } : Room) s m args below meth c 0 0 (MQ below (CQ D dA ad post (AA ad s.heap.size)) args s 0 0 (AA ad s.heap.size)) 2 D dA ad (AA ad s.heap.size)) (T_X5_isPerson post) := by
  refine snd_c (s_iload_n C rfl dX5_isPerson_0) ?_
  refine snd_c (s_iconst C dX5_isPerson_1 rfl) ?_
  refine snd_c (s_aload_n C rfl dX5_isPerson_2) ?_
  refine snd_c (s_getf C (ci := 5) (j := 3) (T := TX5) rfl inX5 (by decide) fl_RX5_13 dX5_isPerson_3) ?_
  refine snd_c (s_iconst C dX5_isPerson_6 rfl) ?_
  refine snd_c (s_iald C dX5_isPerson_7) ?_
  refine snd_c (s_iconst C dX5_isPerson_8 rfl) ?_
  refine snd_c (s_isub C dX5_isPerson_9) ?_
  refine snd_c (s_callS C c_X5_in cw_RX5_35 ⟨rfl, rfl⟩ ⟨by decide +kernel, by decide +kernel, by decide +kernel⟩ ⟨by decide, by decide⟩ ⟨Nat.zero_le _, Nat.zero_le _⟩ dX5_isPerson_10) ?_
  refine snd_c (s_zret C hr ⟨rfl, rfl⟩ dX5_isPerson_13) ?_
  exact trivial
theorem dX5_isGroup_0 : decode cX5_isGroup 0 = .ok (.iload_n 1, 1) := by decide +kernel
theorem dX5_isGroup_1 : decode cX5_isGroup 1 = .ok (.iconst 0, 1) := by decide +kernel
theorem dX5_isGroup_2 : decode cX5_isGroup 2 = .ok (.iconst 1, 1) := by decide +kernel
theorem dX5_isGroup_3 : decode cX5_isGroup 3 = .ok (.aload_n 0, 1) := by decide +kernel
theorem dX5_isGroup_4 : decode cX5_isGroup 4 = .ok (.getfield 13, 3) := by decide +kernel
theorem dX5_isGroup_7 : decode cX5_isGroup 7 = .ok (.iconst 1, 1) := by decide +kernel
theorem dX5_isGroup_8 : decode cX5_isGroup 8 = .ok (.iaload, 1) := by decide +kernel
theorem dX5_isGroup_9 : decode cX5_isGroup 9 = .ok (.ishl, 1) := by decide +kernel
theorem dX5_isGroup_10 : decode cX5_isGroup 10 = .ok (.iconst 1, 1) := by decide +kernel
theorem dX5_isGroup_11 : decode cX5_isGroup 11 = .ok (.isub, 1) := by decide +kernel
theorem dX5_isGroup_12 : decode cX5_isGroup 12 = .ok (.invokestatic 35, 3) := by decide +kernel
theorem dX5_isGroup_15 : decode cX5_isGroup 15 = .ok (.ireturn, 1) := by decide +kernel
def T_X5_isGroup (post : PO) : List (Nat × OP) := [(0, o_iload 1 1), (1, o_const 0 2), (2, o_const 1 3), (3, o_aload 0 4), (4, o_getf 5 3 7), (7, o_const 1 8), (8, o_ald 0 9), (9, o_bin (fun x y => x <<< (y &&& 31)) 10), (10, o_const 1 11), (11, o_bin (fun x y => x - y) 12), (12, o_callS S_X5_in 3 15), (15, o_zret post)]
theorem k_X5_isGroup_0 (post : PO) : lk (T_X5_isGroup post) 0 = o_iload 1 1 := rfl
theorem k_X5_isGroup_1 (post : PO) : lk (T_X5_isGroup post) 1 = o_const 0 2 := rfl
theorem k_X5_isGroup_2 (post : PO) : lk (T_X5_isGroup post) 2 = o_const 1 3 := rfl
theorem k_X5_isGroup_3 (post : PO) : lk (T_X5_isGroup post) 3 = o_aload 0 4 := rfl
theorem k_X5_isGroup_4 (post : PO) : lk (T_X5_isGroup post) 4 = o_getf 5 3 7 := rfl
theorem k_X5_isGroup_7 (post : PO) : lk (T_X5_isGroup post) 7 = o_const 1 8 := rfl
theorem k_X5_isGroup_8 (post : PO) : lk (T_X5_isGroup post) 8 = o_ald 0 9 := rfl
theorem k_X5_isGroup_9 (post : PO) : lk (T_X5_isGroup post) 9 = o_bin (fun x y => x <<< (y &&& 31)) 10 := rfl
theorem k_X5_isGroup_10 (post : PO) : lk (T_X5_isGroup post) 10 = o_const 1 11 := rfl
theorem k_X5_isGroup_11 (post : PO) : lk (T_X5_isGroup post) 11 = o_bin (fun x y => x - y) 12 := rfl
theorem k_X5_isGroup_12 (post : PO) : lk (T_X5_isGroup post) 12 = o_callS S_X5_in 3 15 := rfl
theorem k_X5_isGroup_15 (post : PO) : lk (T_X5_isGroup post) 15 = o_zret post := rfl
set_option maxRecDepth 100000 in
theorem t_X5_isGroup {p : Program} {l : Launch} {e : Env} {s : State} {m : MethodId} {args : Array Value} {below : List Frame} {meth : Method} {c : Code} {D : va_G} {dA : Nat → ClassId} {ad : Nat → Nat} (post : PO) (C : CX p s m args meth c cX5_isGroup 2 yX5_isGroup.cls D dA ad (AA ad s.heap.size)) (hr : meth.sig.returnType = (some .boolean)) : SndL (WW p l e ({ frames := 1, cells := 0, slots := 0, locals := 22 } : Room) s m args below meth c 0 0 (MQ below (CQ D dA ad post (AA ad s.heap.size)) args s 0 0 (AA ad s.heap.size)) 2 D dA ad (AA ad s.heap.size)) (T_X5_isGroup post) := by
  refine snd_c (s_iload_n C rfl dX5_isGroup_0) ?_
  refine snd_c (s_iconst C dX5_isGroup_1 rfl) ?_
  refine snd_c (s_iconst C dX5_isGroup_2 rfl) ?_
  refine snd_c (s_aload_n C rfl dX5_isGroup_3) ?_
  refine snd_c (s_getf C (ci := 5) (j := 3) (T := TX5) rfl inX5 (by decide) fl_RX5_13 dX5_isGroup_4) ?_
  refine snd_c (s_iconst C dX5_isGroup_7 rfl) ?_
  refine snd_c (s_iald C dX5_isGroup_8) ?_
  refine snd_c (s_ishl C dX5_isGroup_9) ?_
  refine snd_c (s_iconst C dX5_isGroup_10 rfl) ?_
  refine snd_c (s_isub C dX5_isGroup_11) ?_
  refine snd_c (s_callS C c_X5_in cw_RX5_35 ⟨rfl, rfl⟩ ⟨by decide +kernel, by decide +kernel, by decide +kernel⟩ ⟨by decide, by decide⟩ ⟨Nat.zero_le _, Nat.zero_le _⟩ dX5_isGroup_12) ?_
  refine snd_c (s_zret C hr ⟨rfl, rfl⟩ dX5_isGroup_15) ?_
  exact trivial
theorem fl_RX5_19 : Cond.fieldLink RX5 19 (TX5 5).1 (TX5 5).2.1 (TX5 5).2.2.1 ∈ tb := tb_of 638 (by decide +kernel) (by decide +kernel)
theorem dX5_isKey_0 : decode cX5_isKey 0 = .ok (.iload_n 1, 1) := by decide +kernel
theorem dX5_isKey_1 : decode cX5_isKey 1 = .ok (.iconst 0, 1) := by decide +kernel
theorem dX5_isKey_2 : decode cX5_isKey 2 = .ok (.aload_n 0, 1) := by decide +kernel
theorem dX5_isKey_3 : decode cX5_isKey 3 = .ok (.getfield 19, 3) := by decide +kernel
theorem dX5_isKey_6 : decode cX5_isKey 6 = .ok (.iconst 0, 1) := by decide +kernel
theorem dX5_isKey_7 : decode cX5_isKey 7 = .ok (.iaload, 1) := by decide +kernel
theorem dX5_isKey_8 : decode cX5_isKey 8 = .ok (.iconst 1, 1) := by decide +kernel
theorem dX5_isKey_9 : decode cX5_isKey 9 = .ok (.isub, 1) := by decide +kernel
theorem dX5_isKey_10 : decode cX5_isKey 10 = .ok (.invokestatic 35, 3) := by decide +kernel
theorem dX5_isKey_13 : decode cX5_isKey 13 = .ok (.ireturn, 1) := by decide +kernel
def T_X5_isKey (post : PO) : List (Nat × OP) := [(0, o_iload 1 1), (1, o_const 0 2), (2, o_aload 0 3), (3, o_getf 5 5 6), (6, o_const 0 7), (7, o_ald 0 8), (8, o_const 1 9), (9, o_bin (fun x y => x - y) 10), (10, o_callS S_X5_in 3 13), (13, o_zret post)]
theorem k_X5_isKey_0 (post : PO) : lk (T_X5_isKey post) 0 = o_iload 1 1 := rfl
theorem k_X5_isKey_1 (post : PO) : lk (T_X5_isKey post) 1 = o_const 0 2 := rfl
theorem k_X5_isKey_2 (post : PO) : lk (T_X5_isKey post) 2 = o_aload 0 3 := rfl
theorem k_X5_isKey_3 (post : PO) : lk (T_X5_isKey post) 3 = o_getf 5 5 6 := rfl
theorem k_X5_isKey_6 (post : PO) : lk (T_X5_isKey post) 6 = o_const 0 7 := rfl
theorem k_X5_isKey_7 (post : PO) : lk (T_X5_isKey post) 7 = o_ald 0 8 := rfl
theorem k_X5_isKey_8 (post : PO) : lk (T_X5_isKey post) 8 = o_const 1 9 := rfl
theorem k_X5_isKey_9 (post : PO) : lk (T_X5_isKey post) 9 = o_bin (fun x y => x - y) 10 := rfl
theorem k_X5_isKey_10 (post : PO) : lk (T_X5_isKey post) 10 = o_callS S_X5_in 3 13 := rfl
theorem k_X5_isKey_13 (post : PO) : lk (T_X5_isKey post) 13 = o_zret post := rfl
set_option maxRecDepth 100000 in
theorem t_X5_isKey {p : Program} {l : Launch} {e : Env} {s : State} {m : MethodId} {args : Array Value} {below : List Frame} {meth : Method} {c : Code} {D : va_G} {dA : Nat → ClassId} {ad : Nat → Nat} (post : PO) (C : CX p s m args meth c cX5_isKey 2 yX5_isKey.cls D dA ad (AA ad s.heap.size)) (hr : meth.sig.returnType = (some .boolean)) : SndL (WW p l e ({ frames := 1, cells := 0, slots := 0, locals := 22 } : Room) s m args below meth c 0 0 (MQ below (CQ D dA ad post (AA ad s.heap.size)) args s 0 0 (AA ad s.heap.size)) 2 D dA ad (AA ad s.heap.size)) (T_X5_isKey post) := by
  refine snd_c (s_iload_n C rfl dX5_isKey_0) ?_
  refine snd_c (s_iconst C dX5_isKey_1 rfl) ?_
  refine snd_c (s_aload_n C rfl dX5_isKey_2) ?_
  refine snd_c (s_getf C (ci := 5) (j := 5) (T := TX5) rfl inX5 (by decide) fl_RX5_19 dX5_isKey_3) ?_
  refine snd_c (s_iconst C dX5_isKey_6 rfl) ?_
  refine snd_c (s_iald C dX5_isKey_7) ?_
  refine snd_c (s_iconst C dX5_isKey_8 rfl) ?_
  refine snd_c (s_isub C dX5_isKey_9) ?_
  refine snd_c (s_callS C c_X5_in cw_RX5_35 ⟨rfl, rfl⟩ ⟨by decide +kernel, by decide +kernel, by decide +kernel⟩ ⟨by decide, by decide⟩ ⟨Nat.zero_le _, Nat.zero_le _⟩ dX5_isKey_10) ?_
  refine snd_c (s_zret C hr ⟨rfl, rfl⟩ dX5_isKey_13) ?_
  exact trivial
theorem m1I : ∀ n, n < 20 → (nI n - 1).toInt = (n : Int) - 1 ∧ (nI n).toInt = n := by decide +kernel
theorem up_lt {x : Int32} {n : Nat} (hn : n < 20) : (0 ≤ x ∧ x ≤ nI n - 1) ↔ (0 ≤ x ∧ x < nI n) := by
  have h := m1I n hn
  rw [Int32.le_iff_toInt_le, Int32.le_iff_toInt_le, Int32.lt_iff_toInt_lt, h.1, h.2]
  omega
set_option maxRecDepth 100000 in
theorem v_X5_isLock : ∀ as M post, S_X5_isLock as M post → wsum as ≤ 2 ∧ RUN (T_X5_isLock post) 0 (entL 2 as) [] M := by
  rintro as M post ⟨x, n, c, p, r, h0, lk, rfl, ⟨hn, hn8, hc, hc6, hp, hp4, hr, hhk, hl⟩, h⟩
  refine ⟨by show 2 ≤ 2; omega, run_wp 40 ?_⟩
  dsimp only [k_X5_isLock_0, k_X5_isLock_1, k_X5_isLock_2, k_X5_isLock_3, k_X5_isLock_6, k_X5_isLock_7, k_X5_isLock_8, k_X5_isLock_9, k_X5_isLock_10, k_X5_isLock_13, wp1, wp_s, cutIn, kont, Nat.reduceSub, Nat.reduceAdd, nth, o_const, o_lconst, o_ref, o_iload, o_lload, o_aload, o_istore, o_lstore, o_astore, o_iinc, o_bin, o_div, o_un, o_lbin, o_lsh, o_lcmp, o_i2l, o_l2i, o_if, o_icmp, o_goto, o_dup, o_dup2, o_pop, fav, o_getf, o_putI, o_putZ, o_putL, o_ald, o_ast, o_alen, popn, rst, o_callV, o_callT, o_callS, swx, o_sw, o_ret, o_iret, o_zret, o_cret, o_lret, o_aret, lg, lput, lput2, ls1, isL, entL, wsum, rdI1, rdI2, rdA1, rdA21, rdA22, rdL1, rdL22, rdL21, upN_at, rep, sh_0, F_0_0, F_0_1, F_0_2, F_0_3, F_0_4, F_0_5, F_0_6, F_0_7, F_0_8, sh_1, F_1_0, F_1_1, F_1_2, F_1_3, F_1_4, F_1_5, sh_3, F_3_0, F_3_1, F_3_2, F_3_3, F_3_4, F_3_5, sh_5, F_5_0, F_5_1, F_5_2, F_5_3, F_5_4, F_5_5, F_5_6, F_5_7, F_5_8, sh_12, F_12_0, F_12_1, F_12_2, F_12_3, F_12_4, F_12_5, sh_14, F_14_0, F_14_1, F_14_2, F_14_3, F_14_4, F_14_5, F_14_6, F_14_7, F_14_8, sh_21, F_21_0, F_21_1, F_21_2, F_21_3, F_21_4, F_21_5, F_21_6, F_21_7, F_21_8, sh_28, F_28_0, F_28_1, F_28_2, F_28_3, F_28_4, F_28_5, F_28_6, F_28_7, F_28_8, sh_35, F_35_0, sh_39, F_39_0, F_39_1, F_39_2, F_39_3, F_39_4, F_39_5, F_39_6, F_39_7, F_39_8, F_39_9, F_39_10, F_39_11, F_39_12, F_39_13, A_2, A_4, A_6, A_7, A_8, A_9, A_10, A_11, A_13, A_15, A_16, A_17, A_18, A_19, A_20, A_22, A_23, A_24, A_25, A_26, A_27, A_29, A_30, A_31, A_32, A_33, A_34, A_36, A_37, A_38, A_40, A_41, A_42, A_43, A_44, A_45, A_46, A_47]
  refine ⟨0, by omega, rfl, x, 0, _, rfl, ?_⟩
  rw [hc]
  unfold pz
  rw [up_lt (by omega)]
  dsimp only [k_X5_isLock_0, k_X5_isLock_1, k_X5_isLock_2, k_X5_isLock_3, k_X5_isLock_6, k_X5_isLock_7, k_X5_isLock_8, k_X5_isLock_9, k_X5_isLock_10, k_X5_isLock_13, wp1, wp_s, cutIn, kont, Nat.reduceSub, Nat.reduceAdd, nth, o_const, o_lconst, o_ref, o_iload, o_lload, o_aload, o_istore, o_lstore, o_astore, o_iinc, o_bin, o_div, o_un, o_lbin, o_lsh, o_lcmp, o_i2l, o_l2i, o_if, o_icmp, o_goto, o_dup, o_dup2, o_pop, fav, o_getf, o_putI, o_putZ, o_putL, o_ald, o_ast, o_alen, popn, rst, o_callV, o_callT, o_callS, swx, o_sw, o_ret, o_iret, o_zret, o_cret, o_lret, o_aret, lg, lput, lput2, ls1, isL, entL, wsum, rdI1, rdI2, rdA1, rdA21, rdA22, rdL1, rdL22, rdL21, upN_at, rep, sh_0, F_0_0, F_0_1, F_0_2, F_0_3, F_0_4, F_0_5, F_0_6, F_0_7, F_0_8, sh_1, F_1_0, F_1_1, F_1_2, F_1_3, F_1_4, F_1_5, sh_3, F_3_0, F_3_1, F_3_2, F_3_3, F_3_4, F_3_5, sh_5, F_5_0, F_5_1, F_5_2, F_5_3, F_5_4, F_5_5, F_5_6, F_5_7, F_5_8, sh_12, F_12_0, F_12_1, F_12_2, F_12_3, F_12_4, F_12_5, sh_14, F_14_0, F_14_1, F_14_2, F_14_3, F_14_4, F_14_5, F_14_6, F_14_7, F_14_8, sh_21, F_21_0, F_21_1, F_21_2, F_21_3, F_21_4, F_21_5, F_21_6, F_21_7, F_21_8, sh_28, F_28_0, F_28_1, F_28_2, F_28_3, F_28_4, F_28_5, F_28_6, F_28_7, F_28_8, sh_35, F_35_0, sh_39, F_39_0, F_39_1, F_39_2, F_39_3, F_39_4, F_39_5, F_39_6, F_39_7, F_39_8, F_39_9, F_39_10, F_39_11, F_39_12, F_39_13, A_2, A_4, A_6, A_7, A_8, A_9, A_10, A_11, A_13, A_15, A_16, A_17, A_18, A_19, A_20, A_22, A_23, A_24, A_25, A_26, A_27, A_29, A_30, A_31, A_32, A_33, A_34, A_36, A_37, A_38, A_40, A_41, A_42, A_43, A_44, A_45, A_46, A_47]
  exact ⟨fun z => ⟨Or.inr rfl, h.1 z⟩, fun z => ⟨Or.inl rfl, h.2 z⟩⟩
set_option maxRecDepth 100000 in
theorem v_X5_isPerson : ∀ as M post, S_X5_isPerson as M post → wsum as ≤ 2 ∧ RUN (T_X5_isPerson post) 0 (entL 2 as) [] M := by
  rintro as M post ⟨x, n, c, p, r, h0, lk, rfl, ⟨hn, hn8, hc, hc6, hp, hp4, hr, hhk, hl⟩, h⟩
  refine ⟨by show 2 ≤ 2; omega, run_wp 40 ?_⟩
  dsimp only [k_X5_isPerson_0, k_X5_isPerson_1, k_X5_isPerson_2, k_X5_isPerson_3, k_X5_isPerson_6, k_X5_isPerson_7, k_X5_isPerson_8, k_X5_isPerson_9, k_X5_isPerson_10, k_X5_isPerson_13, wp1, wp_s, cutIn, kont, Nat.reduceSub, Nat.reduceAdd, nth, o_const, o_lconst, o_ref, o_iload, o_lload, o_aload, o_istore, o_lstore, o_astore, o_iinc, o_bin, o_div, o_un, o_lbin, o_lsh, o_lcmp, o_i2l, o_l2i, o_if, o_icmp, o_goto, o_dup, o_dup2, o_pop, fav, o_getf, o_putI, o_putZ, o_putL, o_ald, o_ast, o_alen, popn, rst, o_callV, o_callT, o_callS, swx, o_sw, o_ret, o_iret, o_zret, o_cret, o_lret, o_aret, lg, lput, lput2, ls1, isL, entL, wsum, rdI1, rdI2, rdA1, rdA21, rdA22, rdL1, rdL22, rdL21, upN_at, rep, sh_0, F_0_0, F_0_1, F_0_2, F_0_3, F_0_4, F_0_5, F_0_6, F_0_7, F_0_8, sh_1, F_1_0, F_1_1, F_1_2, F_1_3, F_1_4, F_1_5, sh_3, F_3_0, F_3_1, F_3_2, F_3_3, F_3_4, F_3_5, sh_5, F_5_0, F_5_1, F_5_2, F_5_3, F_5_4, F_5_5, F_5_6, F_5_7, F_5_8, sh_12, F_12_0, F_12_1, F_12_2, F_12_3, F_12_4, F_12_5, sh_14, F_14_0, F_14_1, F_14_2, F_14_3, F_14_4, F_14_5, F_14_6, F_14_7, F_14_8, sh_21, F_21_0, F_21_1, F_21_2, F_21_3, F_21_4, F_21_5, F_21_6, F_21_7, F_21_8, sh_28, F_28_0, F_28_1, F_28_2, F_28_3, F_28_4, F_28_5, F_28_6, F_28_7, F_28_8, sh_35, F_35_0, sh_39, F_39_0, F_39_1, F_39_2, F_39_3, F_39_4, F_39_5, F_39_6, F_39_7, F_39_8, F_39_9, F_39_10, F_39_11, F_39_12, F_39_13, A_2, A_4, A_6, A_7, A_8, A_9, A_10, A_11, A_13, A_15, A_16, A_17, A_18, A_19, A_20, A_22, A_23, A_24, A_25, A_26, A_27, A_29, A_30, A_31, A_32, A_33, A_34, A_36, A_37, A_38, A_40, A_41, A_42, A_43, A_44, A_45, A_46, A_47]
  refine ⟨1, by omega, rfl, x, 0, _, rfl, ?_⟩
  rw [hp]
  unfold pz
  rw [up_lt (by omega)]
  dsimp only [k_X5_isPerson_0, k_X5_isPerson_1, k_X5_isPerson_2, k_X5_isPerson_3, k_X5_isPerson_6, k_X5_isPerson_7, k_X5_isPerson_8, k_X5_isPerson_9, k_X5_isPerson_10, k_X5_isPerson_13, wp1, wp_s, cutIn, kont, Nat.reduceSub, Nat.reduceAdd, nth, o_const, o_lconst, o_ref, o_iload, o_lload, o_aload, o_istore, o_lstore, o_astore, o_iinc, o_bin, o_div, o_un, o_lbin, o_lsh, o_lcmp, o_i2l, o_l2i, o_if, o_icmp, o_goto, o_dup, o_dup2, o_pop, fav, o_getf, o_putI, o_putZ, o_putL, o_ald, o_ast, o_alen, popn, rst, o_callV, o_callT, o_callS, swx, o_sw, o_ret, o_iret, o_zret, o_cret, o_lret, o_aret, lg, lput, lput2, ls1, isL, entL, wsum, rdI1, rdI2, rdA1, rdA21, rdA22, rdL1, rdL22, rdL21, upN_at, rep, sh_0, F_0_0, F_0_1, F_0_2, F_0_3, F_0_4, F_0_5, F_0_6, F_0_7, F_0_8, sh_1, F_1_0, F_1_1, F_1_2, F_1_3, F_1_4, F_1_5, sh_3, F_3_0, F_3_1, F_3_2, F_3_3, F_3_4, F_3_5, sh_5, F_5_0, F_5_1, F_5_2, F_5_3, F_5_4, F_5_5, F_5_6, F_5_7, F_5_8, sh_12, F_12_0, F_12_1, F_12_2, F_12_3, F_12_4, F_12_5, sh_14, F_14_0, F_14_1, F_14_2, F_14_3, F_14_4, F_14_5, F_14_6, F_14_7, F_14_8, sh_21, F_21_0, F_21_1, F_21_2, F_21_3, F_21_4, F_21_5, F_21_6, F_21_7, F_21_8, sh_28, F_28_0, F_28_1, F_28_2, F_28_3, F_28_4, F_28_5, F_28_6, F_28_7, F_28_8, sh_35, F_35_0, sh_39, F_39_0, F_39_1, F_39_2, F_39_3, F_39_4, F_39_5, F_39_6, F_39_7, F_39_8, F_39_9, F_39_10, F_39_11, F_39_12, F_39_13, A_2, A_4, A_6, A_7, A_8, A_9, A_10, A_11, A_13, A_15, A_16, A_17, A_18, A_19, A_20, A_22, A_23, A_24, A_25, A_26, A_27, A_29, A_30, A_31, A_32, A_33, A_34, A_36, A_37, A_38, A_40, A_41, A_42, A_43, A_44, A_45, A_46, A_47]
  exact ⟨fun z => ⟨Or.inr rfl, h.1 z⟩, fun z => ⟨Or.inl rfl, h.2 z⟩⟩
set_option maxRecDepth 100000 in
theorem v_X5_isKey : ∀ as M post, S_X5_isKey as M post → wsum as ≤ 2 ∧ RUN (T_X5_isKey post) 0 (entL 2 as) [] M := by
  rintro as M post ⟨x, n, c, p, r, h0, lk, rfl, ⟨hn, hn8, hc, hc6, hp, hp4, hr, hhk, hl⟩, h⟩
  refine ⟨by show 2 ≤ 2; omega, run_wp 40 ?_⟩
  dsimp only [k_X5_isKey_0, k_X5_isKey_1, k_X5_isKey_2, k_X5_isKey_3, k_X5_isKey_6, k_X5_isKey_7, k_X5_isKey_8, k_X5_isKey_9, k_X5_isKey_10, k_X5_isKey_13, wp1, wp_s, cutIn, kont, Nat.reduceSub, Nat.reduceAdd, nth, o_const, o_lconst, o_ref, o_iload, o_lload, o_aload, o_istore, o_lstore, o_astore, o_iinc, o_bin, o_div, o_un, o_lbin, o_lsh, o_lcmp, o_i2l, o_l2i, o_if, o_icmp, o_goto, o_dup, o_dup2, o_pop, fav, o_getf, o_putI, o_putZ, o_putL, o_ald, o_ast, o_alen, popn, rst, o_callV, o_callT, o_callS, swx, o_sw, o_ret, o_iret, o_zret, o_cret, o_lret, o_aret, lg, lput, lput2, ls1, isL, entL, wsum, rdI1, rdI2, rdA1, rdA21, rdA22, rdL1, rdL22, rdL21, upN_at, rep, sh_0, F_0_0, F_0_1, F_0_2, F_0_3, F_0_4, F_0_5, F_0_6, F_0_7, F_0_8, sh_1, F_1_0, F_1_1, F_1_2, F_1_3, F_1_4, F_1_5, sh_3, F_3_0, F_3_1, F_3_2, F_3_3, F_3_4, F_3_5, sh_5, F_5_0, F_5_1, F_5_2, F_5_3, F_5_4, F_5_5, F_5_6, F_5_7, F_5_8, sh_12, F_12_0, F_12_1, F_12_2, F_12_3, F_12_4, F_12_5, sh_14, F_14_0, F_14_1, F_14_2, F_14_3, F_14_4, F_14_5, F_14_6, F_14_7, F_14_8, sh_21, F_21_0, F_21_1, F_21_2, F_21_3, F_21_4, F_21_5, F_21_6, F_21_7, F_21_8, sh_28, F_28_0, F_28_1, F_28_2, F_28_3, F_28_4, F_28_5, F_28_6, F_28_7, F_28_8, sh_35, F_35_0, sh_39, F_39_0, F_39_1, F_39_2, F_39_3, F_39_4, F_39_5, F_39_6, F_39_7, F_39_8, F_39_9, F_39_10, F_39_11, F_39_12, F_39_13, A_2, A_4, A_6, A_7, A_8, A_9, A_10, A_11, A_13, A_15, A_16, A_17, A_18, A_19, A_20, A_22, A_23, A_24, A_25, A_26, A_27, A_29, A_30, A_31, A_32, A_33, A_34, A_36, A_37, A_38, A_40, A_41, A_42, A_43, A_44, A_45, A_46, A_47]
  refine ⟨0, by omega, rfl, x, 0, _, rfl, ?_⟩
  rw [hn]
  unfold pz
  rw [up_lt (by omega)]
  dsimp only [k_X5_isKey_0, k_X5_isKey_1, k_X5_isKey_2, k_X5_isKey_3, k_X5_isKey_6, k_X5_isKey_7, k_X5_isKey_8, k_X5_isKey_9, k_X5_isKey_10, k_X5_isKey_13, wp1, wp_s, cutIn, kont, Nat.reduceSub, Nat.reduceAdd, nth, o_const, o_lconst, o_ref, o_iload, o_lload, o_aload, o_istore, o_lstore, o_astore, o_iinc, o_bin, o_div, o_un, o_lbin, o_lsh, o_lcmp, o_i2l, o_l2i, o_if, o_icmp, o_goto, o_dup, o_dup2, o_pop, fav, o_getf, o_putI, o_putZ, o_putL, o_ald, o_ast, o_alen, popn, rst, o_callV, o_callT, o_callS, swx, o_sw, o_ret, o_iret, o_zret, o_cret, o_lret, o_aret, lg, lput, lput2, ls1, isL, entL, wsum, rdI1, rdI2, rdA1, rdA21, rdA22, rdL1, rdL22, rdL21, upN_at, rep, sh_0, F_0_0, F_0_1, F_0_2, F_0_3, F_0_4, F_0_5, F_0_6, F_0_7, F_0_8, sh_1, F_1_0, F_1_1, F_1_2, F_1_3, F_1_4, F_1_5, sh_3, F_3_0, F_3_1, F_3_2, F_3_3, F_3_4, F_3_5, sh_5, F_5_0, F_5_1, F_5_2, F_5_3, F_5_4, F_5_5, F_5_6, F_5_7, F_5_8, sh_12, F_12_0, F_12_1, F_12_2, F_12_3, F_12_4, F_12_5, sh_14, F_14_0, F_14_1, F_14_2, F_14_3, F_14_4, F_14_5, F_14_6, F_14_7, F_14_8, sh_21, F_21_0, F_21_1, F_21_2, F_21_3, F_21_4, F_21_5, F_21_6, F_21_7, F_21_8, sh_28, F_28_0, F_28_1, F_28_2, F_28_3, F_28_4, F_28_5, F_28_6, F_28_7, F_28_8, sh_35, F_35_0, sh_39, F_39_0, F_39_1, F_39_2, F_39_3, F_39_4, F_39_5, F_39_6, F_39_7, F_39_8, F_39_9, F_39_10, F_39_11, F_39_12, F_39_13, A_2, A_4, A_6, A_7, A_8, A_9, A_10, A_11, A_13, A_15, A_16, A_17, A_18, A_19, A_20, A_22, A_23, A_24, A_25, A_26, A_27, A_29, A_30, A_31, A_32, A_33, A_34, A_36, A_37, A_38, A_40, A_41, A_42, A_43, A_44, A_45, A_46, A_47]
  exact ⟨fun z => ⟨Or.inr rfl, h.1 z⟩, fun z => ⟨Or.inl rfl, h.2 z⟩⟩
set_option maxRecDepth 100000 in
theorem v_X5_isGroup : ∀ as M post, S_X5_isGroup as M post → wsum as ≤ 2 ∧ RUN (T_X5_isGroup post) 0 (entL 2 as) [] M := by
  rintro as M post ⟨x, n, c, p, r, h0, lk, rfl, ⟨hn, hn8, hc, hc6, hp, hp4, hr, hhk, hl⟩, h⟩
  refine ⟨by show 2 ≤ 2; omega, run_wp 40 ?_⟩
  dsimp only [k_X5_isGroup_0, k_X5_isGroup_1, k_X5_isGroup_2, k_X5_isGroup_3, k_X5_isGroup_4, k_X5_isGroup_7, k_X5_isGroup_8, k_X5_isGroup_9, k_X5_isGroup_10, k_X5_isGroup_11, k_X5_isGroup_12, k_X5_isGroup_15, wp1, wp_s, cutIn, kont, Nat.reduceSub, Nat.reduceAdd, nth, o_const, o_lconst, o_ref, o_iload, o_lload, o_aload, o_istore, o_lstore, o_astore, o_iinc, o_bin, o_div, o_un, o_lbin, o_lsh, o_lcmp, o_i2l, o_l2i, o_if, o_icmp, o_goto, o_dup, o_dup2, o_pop, fav, o_getf, o_putI, o_putZ, o_putL, o_ald, o_ast, o_alen, popn, rst, o_callV, o_callT, o_callS, swx, o_sw, o_ret, o_iret, o_zret, o_cret, o_lret, o_aret, lg, lput, lput2, ls1, isL, entL, wsum, rdI1, rdI2, rdA1, rdA21, rdA22, rdL1, rdL22, rdL21, upN_at, rep, sh_0, F_0_0, F_0_1, F_0_2, F_0_3, F_0_4, F_0_5, F_0_6, F_0_7, F_0_8, sh_1, F_1_0, F_1_1, F_1_2, F_1_3, F_1_4, F_1_5, sh_3, F_3_0, F_3_1, F_3_2, F_3_3, F_3_4, F_3_5, sh_5, F_5_0, F_5_1, F_5_2, F_5_3, F_5_4, F_5_5, F_5_6, F_5_7, F_5_8, sh_12, F_12_0, F_12_1, F_12_2, F_12_3, F_12_4, F_12_5, sh_14, F_14_0, F_14_1, F_14_2, F_14_3, F_14_4, F_14_5, F_14_6, F_14_7, F_14_8, sh_21, F_21_0, F_21_1, F_21_2, F_21_3, F_21_4, F_21_5, F_21_6, F_21_7, F_21_8, sh_28, F_28_0, F_28_1, F_28_2, F_28_3, F_28_4, F_28_5, F_28_6, F_28_7, F_28_8, sh_35, F_35_0, sh_39, F_39_0, F_39_1, F_39_2, F_39_3, F_39_4, F_39_5, F_39_6, F_39_7, F_39_8, F_39_9, F_39_10, F_39_11, F_39_12, F_39_13, A_2, A_4, A_6, A_7, A_8, A_9, A_10, A_11, A_13, A_15, A_16, A_17, A_18, A_19, A_20, A_22, A_23, A_24, A_25, A_26, A_27, A_29, A_30, A_31, A_32, A_33, A_34, A_36, A_37, A_38, A_40, A_41, A_42, A_43, A_44, A_45, A_46, A_47]
  refine ⟨1, by omega, rfl, x, 0, _, rfl, ?_⟩
  have hpp := ev_lt hp4
  have hp1 := Nat.one_le_two_pow (n := p)
  have e : (nI (2 ^ p) - 1) = (1 : Int32) <<< (nI p &&& 31) - 1 := by rw [shl1 (by omega)]; exact pk_sub hp1
  rw [hp, ← e]
  unfold pz
  rw [up_lt (by omega)]
  dsimp only [k_X5_isGroup_0, k_X5_isGroup_1, k_X5_isGroup_2, k_X5_isGroup_3, k_X5_isGroup_4, k_X5_isGroup_7, k_X5_isGroup_8, k_X5_isGroup_9, k_X5_isGroup_10, k_X5_isGroup_11, k_X5_isGroup_12, k_X5_isGroup_15, wp1, wp_s, cutIn, kont, Nat.reduceSub, Nat.reduceAdd, nth, o_const, o_lconst, o_ref, o_iload, o_lload, o_aload, o_istore, o_lstore, o_astore, o_iinc, o_bin, o_div, o_un, o_lbin, o_lsh, o_lcmp, o_i2l, o_l2i, o_if, o_icmp, o_goto, o_dup, o_dup2, o_pop, fav, o_getf, o_putI, o_putZ, o_putL, o_ald, o_ast, o_alen, popn, rst, o_callV, o_callT, o_callS, swx, o_sw, o_ret, o_iret, o_zret, o_cret, o_lret, o_aret, lg, lput, lput2, ls1, isL, entL, wsum, rdI1, rdI2, rdA1, rdA21, rdA22, rdL1, rdL22, rdL21, upN_at, rep, sh_0, F_0_0, F_0_1, F_0_2, F_0_3, F_0_4, F_0_5, F_0_6, F_0_7, F_0_8, sh_1, F_1_0, F_1_1, F_1_2, F_1_3, F_1_4, F_1_5, sh_3, F_3_0, F_3_1, F_3_2, F_3_3, F_3_4, F_3_5, sh_5, F_5_0, F_5_1, F_5_2, F_5_3, F_5_4, F_5_5, F_5_6, F_5_7, F_5_8, sh_12, F_12_0, F_12_1, F_12_2, F_12_3, F_12_4, F_12_5, sh_14, F_14_0, F_14_1, F_14_2, F_14_3, F_14_4, F_14_5, F_14_6, F_14_7, F_14_8, sh_21, F_21_0, F_21_1, F_21_2, F_21_3, F_21_4, F_21_5, F_21_6, F_21_7, F_21_8, sh_28, F_28_0, F_28_1, F_28_2, F_28_3, F_28_4, F_28_5, F_28_6, F_28_7, F_28_8, sh_35, F_35_0, sh_39, F_39_0, F_39_1, F_39_2, F_39_3, F_39_4, F_39_5, F_39_6, F_39_7, F_39_8, F_39_9, F_39_10, F_39_11, F_39_12, F_39_13, A_2, A_4, A_6, A_7, A_8, A_9, A_10, A_11, A_13, A_15, A_16, A_17, A_18, A_19, A_20, A_22, A_23, A_24, A_25, A_26, A_27, A_29, A_30, A_31, A_32, A_33, A_34, A_36, A_37, A_38, A_40, A_41, A_42, A_43, A_44, A_45, A_46, A_47]
  exact ⟨fun z => ⟨Or.inr rfl, h.1 z⟩, fun z => ⟨Or.inl rfl, h.2 z⟩⟩
theorem c_X5_isLock : Ctr yX5_isLock cX5_isLock 2 (some .boolean) ({ frames := 1, cells := 0, slots := 0, locals := 22 } : Room) S_X5_isLock := ctr_of (T := T_X5_isLock) (by decide +kernel) (fun post C hr => t_X5_isLock post C hr) v_X5_isLock
theorem c_X5_isPerson : Ctr yX5_isPerson cX5_isPerson 2 (some .boolean) ({ frames := 1, cells := 0, slots := 0, locals := 22 } : Room) S_X5_isPerson := ctr_of (T := T_X5_isPerson) (by decide +kernel) (fun post C hr => t_X5_isPerson post C hr) v_X5_isPerson
theorem c_X5_isGroup : Ctr yX5_isGroup cX5_isGroup 2 (some .boolean) ({ frames := 1, cells := 0, slots := 0, locals := 22 } : Room) S_X5_isGroup := ctr_of (T := T_X5_isGroup) (by decide +kernel) (fun post C hr => t_X5_isGroup post C hr) v_X5_isGroup
theorem c_X5_isKey : Ctr yX5_isKey cX5_isKey 2 (some .boolean) ({ frames := 1, cells := 0, slots := 0, locals := 22 } : Room) S_X5_isKey := ctr_of (T := T_X5_isKey) (by decide +kernel) (fun post C hr => t_X5_isKey post C hr) v_X5_isKey
def S_X5_ones : SP := fun as M post => ∃ T, as = [VI (nI T)] ∧ T < 2 ^ 31 ∧ post (some (VI (nI (cn T 9)))) M
def S_X5_key : SP := fun as M post => ∃ x w n c p r h lk, as = [VR 39, VI x, VI w] ∧ MW M n c p r h lk ∧ (¬ ((0 ≤ x ∧ x < nI n) ∧ (w = 0 ∨ w = 1)) → post (some (VI (-1))) M) ∧ (∀ k, x = nI k → k < n → w = 0 → post (some (VI (nI (r k)))) M) ∧ (∀ k, x = nI k → k < n → w = 1 → post (some (VI (h k))) M)
def S_X5_lock : SP := fun as M post => ∃ x n c p r h lk, as = [VR 39, VI x] ∧ MW M n c p r h lk ∧ (¬ (0 ≤ x ∧ x < nI c) → post (some (VI (-1))) M) ∧ (∀ l, x = nI l → l < c → post (some (VI (nI (lk l)))) M)
def S_X5_all : SP := fun as M post => ∃ n c p r h lk, as = [VR 39] ∧ MW M n c p r h lk ∧ post (some (VI (nI (us h n)))) M
def S_X5_box : SP := fun as M post => ∃ n c p r h lk, as = [VR 39] ∧ MW M n c p r h lk ∧ post (some (VI (nI (bx h n)))) M
def S_X5_rowOf : SP := fun as M post => ∃ T n c p r h lk, as = [VR 39, VI (nI T)] ∧ T < 2 ^ n ∧ MW M n c p r h lk ∧ post (some (VI (nI (xrN r T n)))) M
theorem dX5_ones_0 : decode cX5_ones 0 = .ok (.iconst 0, 1) := by decide +kernel
theorem dX5_ones_1 : decode cX5_ones 1 = .ok (.istore_n 1, 1) := by decide +kernel
theorem dX5_ones_2 : decode cX5_ones 2 = .ok (.iconst 0, 1) := by decide +kernel
theorem dX5_ones_3 : decode cX5_ones 3 = .ok (.istore_n 2, 1) := by decide +kernel
theorem dX5_ones_4 : decode cX5_ones 4 = .ok (.iload_n 2, 1) := by decide +kernel
theorem dX5_ones_5 : decode cX5_ones 5 = .ok (.bipush 9, 2) := by decide +kernel
theorem dX5_ones_7 : decode cX5_ones 7 = .ok (.if_icmp .ge 17, 3) := by decide +kernel
theorem dX5_ones_10 : decode cX5_ones 10 = .ok (.iload_n 1, 1) := by decide +kernel
theorem dX5_ones_11 : decode cX5_ones 11 = .ok (.iload_n 0, 1) := by decide +kernel
theorem dX5_ones_12 : decode cX5_ones 12 = .ok (.iload_n 2, 1) := by decide +kernel
theorem dX5_ones_13 : decode cX5_ones 13 = .ok (.ishr, 1) := by decide +kernel
theorem dX5_ones_14 : decode cX5_ones 14 = .ok (.iconst 1, 1) := by decide +kernel
theorem dX5_ones_15 : decode cX5_ones 15 = .ok (.iand, 1) := by decide +kernel
theorem dX5_ones_16 : decode cX5_ones 16 = .ok (.iadd, 1) := by decide +kernel
theorem dX5_ones_17 : decode cX5_ones 17 = .ok (.istore_n 1, 1) := by decide +kernel
theorem dX5_ones_18 : decode cX5_ones 18 = .ok (.iinc 2 1, 3) := by decide +kernel
theorem dX5_ones_21 : decode cX5_ones 21 = .ok (.goto (-17), 3) := by decide +kernel
theorem dX5_ones_24 : decode cX5_ones 24 = .ok (.iload_n 1, 1) := by decide +kernel
theorem dX5_ones_25 : decode cX5_ones 25 = .ok (.ireturn, 1) := by decide +kernel
def T_X5_ones (post : PO) : List (Nat × OP) := [(0, o_const 0 1), (1, o_istore 1 2), (2, o_const 0 3), (3, o_istore 2 4), (4, o_iload 2 5), (5, o_const 9 7), (7, o_icmp (fun x y => y ≤ x) 24 10), (10, o_iload 1 11), (11, o_iload 0 12), (12, o_iload 2 13), (13, o_bin (fun x y => x >>> (y &&& 31)) 14), (14, o_const 1 15), (15, o_bin (fun x y => x &&& y) 16), (16, o_bin (fun x y => x + y) 17), (17, o_istore 1 18), (18, o_iinc 2 1 21), (21, o_goto 4), (24, o_iload 1 25), (25, o_iret post)]
theorem k_X5_ones_0 (post : PO) : lk (T_X5_ones post) 0 = o_const 0 1 := rfl
theorem k_X5_ones_1 (post : PO) : lk (T_X5_ones post) 1 = o_istore 1 2 := rfl
theorem k_X5_ones_2 (post : PO) : lk (T_X5_ones post) 2 = o_const 0 3 := rfl
theorem k_X5_ones_3 (post : PO) : lk (T_X5_ones post) 3 = o_istore 2 4 := rfl
theorem k_X5_ones_4 (post : PO) : lk (T_X5_ones post) 4 = o_iload 2 5 := rfl
theorem k_X5_ones_5 (post : PO) : lk (T_X5_ones post) 5 = o_const 9 7 := rfl
theorem k_X5_ones_7 (post : PO) : lk (T_X5_ones post) 7 = o_icmp (fun x y => y ≤ x) 24 10 := rfl
theorem k_X5_ones_10 (post : PO) : lk (T_X5_ones post) 10 = o_iload 1 11 := rfl
theorem k_X5_ones_11 (post : PO) : lk (T_X5_ones post) 11 = o_iload 0 12 := rfl
theorem k_X5_ones_12 (post : PO) : lk (T_X5_ones post) 12 = o_iload 2 13 := rfl
theorem k_X5_ones_13 (post : PO) : lk (T_X5_ones post) 13 = o_bin (fun x y => x >>> (y &&& 31)) 14 := rfl
theorem k_X5_ones_14 (post : PO) : lk (T_X5_ones post) 14 = o_const 1 15 := rfl
theorem k_X5_ones_15 (post : PO) : lk (T_X5_ones post) 15 = o_bin (fun x y => x &&& y) 16 := rfl
theorem k_X5_ones_16 (post : PO) : lk (T_X5_ones post) 16 = o_bin (fun x y => x + y) 17 := rfl
theorem k_X5_ones_17 (post : PO) : lk (T_X5_ones post) 17 = o_istore 1 18 := rfl
theorem k_X5_ones_18 (post : PO) : lk (T_X5_ones post) 18 = o_iinc 2 1 21 := rfl
theorem k_X5_ones_21 (post : PO) : lk (T_X5_ones post) 21 = o_goto 4 := rfl
theorem k_X5_ones_24 (post : PO) : lk (T_X5_ones post) 24 = o_iload 1 25 := rfl
theorem k_X5_ones_25 (post : PO) : lk (T_X5_ones post) 25 = o_iret post := rfl
set_option maxRecDepth 100000 in
theorem t_X5_ones {p : Program} {l : Launch} {e : Env} {s : State} {m : MethodId} {args : Array Value} {below : List Frame} {meth : Method} {c : Code} {D : va_G} {dA : Nat → ClassId} {ad : Nat → Nat} (post : PO) (C : CX p s m args meth c cX5_ones 3 yX5_ones.cls D dA ad (AA ad s.heap.size)) (hr : meth.sig.returnType = (some .int)) : SndL (WW p l e ({ frames := 0, cells := 0, slots := 0, locals := 0 } : Room) s m args below meth c 0 0 (MQ below (CQ D dA ad post (AA ad s.heap.size)) args s 0 0 (AA ad s.heap.size)) 3 D dA ad (AA ad s.heap.size)) (T_X5_ones post) := by
  refine snd_c (s_iconst C dX5_ones_0 rfl) ?_
  refine snd_c (s_istore_n C rfl (by decide) dX5_ones_1) ?_
  refine snd_c (s_iconst C dX5_ones_2 rfl) ?_
  refine snd_c (s_istore_n C rfl (by decide) dX5_ones_3) ?_
  refine snd_c (s_iload_n C rfl dX5_ones_4) ?_
  refine snd_c (s_bipush C dX5_ones_5 rfl) ?_
  refine snd_c (s_icmp_ge C dX5_ones_7 (by decide)) ?_
  refine snd_c (s_iload_n C rfl dX5_ones_10) ?_
  refine snd_c (s_iload_n C rfl dX5_ones_11) ?_
  refine snd_c (s_iload_n C rfl dX5_ones_12) ?_
  refine snd_c (s_ishr C dX5_ones_13) ?_
  refine snd_c (s_iconst C dX5_ones_14 rfl) ?_
  refine snd_c (s_iand C dX5_ones_15) ?_
  refine snd_c (s_iadd C dX5_ones_16) ?_
  refine snd_c (s_istore_n C rfl (by decide) dX5_ones_17) ?_
  refine snd_c (s_iinc C (by decide) rfl dX5_ones_18) ?_
  refine snd_c (s_goto C dX5_ones_21 (by decide)) ?_
  refine snd_c (s_iload_n C rfl dX5_ones_24) ?_
  refine snd_c (s_iret C hr dX5_ones_25) ?_
  exact trivial
theorem cw_RX5_98 : ∀ w ∈ ([.methodLink RX5 98 yX5_isKey, .instanceMethod yX5_isKey, .selects yX5_isKey.cls yX5_isKey yX5_isKey, .initialized yX5_isKey.cls, .code yX5_isKey cX5_isKey 2 (some .boolean)] : List Cond), w ∈ tb := tb_all [736, 738, 38, 59, 739] (by decide +kernel) (by decide +kernel)
theorem dX5_key_0 : decode cX5_key 0 = .ok (.aload_n 0, 1) := by decide +kernel
theorem dX5_key_1 : decode cX5_key 1 = .ok (.iload_n 1, 1) := by decide +kernel
theorem dX5_key_2 : decode cX5_key 2 = .ok (.invokevirtual 98, 3) := by decide +kernel
theorem dX5_key_5 : decode cX5_key 5 = .ok (.ifCond .eq 12, 3) := by decide +kernel
theorem dX5_key_8 : decode cX5_key 8 = .ok (.iload_n 2, 1) := by decide +kernel
theorem dX5_key_9 : decode cX5_key 9 = .ok (.iconst 0, 1) := by decide +kernel
theorem dX5_key_10 : decode cX5_key 10 = .ok (.iconst 1, 1) := by decide +kernel
theorem dX5_key_11 : decode cX5_key 11 = .ok (.invokestatic 35, 3) := by decide +kernel
theorem dX5_key_14 : decode cX5_key 14 = .ok (.ifCond .ne 5, 3) := by decide +kernel
theorem dX5_key_17 : decode cX5_key 17 = .ok (.iconst (-1), 1) := by decide +kernel
theorem dX5_key_18 : decode cX5_key 18 = .ok (.ireturn, 1) := by decide +kernel
theorem dX5_key_19 : decode cX5_key 19 = .ok (.iload_n 2, 1) := by decide +kernel
theorem dX5_key_20 : decode cX5_key 20 = .ok (.ifCond .ne 14, 3) := by decide +kernel
theorem dX5_key_23 : decode cX5_key 23 = .ok (.aload_n 0, 1) := by decide +kernel
theorem dX5_key_24 : decode cX5_key 24 = .ok (.getfield 19, 3) := by decide +kernel
theorem dX5_key_27 : decode cX5_key 27 = .ok (.iconst 1, 1) := by decide +kernel
theorem dX5_key_28 : decode cX5_key 28 = .ok (.iload_n 1, 1) := by decide +kernel
theorem dX5_key_29 : decode cX5_key 29 = .ok (.iadd, 1) := by decide +kernel
theorem dX5_key_30 : decode cX5_key 30 = .ok (.iaload, 1) := by decide +kernel
theorem dX5_key_31 : decode cX5_key 31 = .ok (.goto 12, 3) := by decide +kernel
theorem dX5_key_34 : decode cX5_key 34 = .ok (.aload_n 0, 1) := by decide +kernel
theorem dX5_key_35 : decode cX5_key 35 = .ok (.getfield 19, 3) := by decide +kernel
theorem dX5_key_38 : decode cX5_key 38 = .ok (.bipush 9, 2) := by decide +kernel
theorem dX5_key_40 : decode cX5_key 40 = .ok (.iload_n 1, 1) := by decide +kernel
theorem dX5_key_41 : decode cX5_key 41 = .ok (.iadd, 1) := by decide +kernel
theorem dX5_key_42 : decode cX5_key 42 = .ok (.iaload, 1) := by decide +kernel
theorem dX5_key_43 : decode cX5_key 43 = .ok (.ireturn, 1) := by decide +kernel
def T_X5_key (post : PO) : List (Nat × OP) := [(0, o_aload 0 1), (1, o_iload 1 2), (2, o_callV 5 S_X5_isKey 1 5), (5, o_if (fun x => x = 0) 17 8), (8, o_iload 2 9), (9, o_const 0 10), (10, o_const 1 11), (11, o_callS S_X5_in 3 14), (14, o_if (fun x => x = 0) 17 19), (17, o_const (-1) 18), (18, o_iret post), (19, o_iload 2 20), (20, o_if (fun x => x = 0) 23 34), (23, o_aload 0 24), (24, o_getf 5 5 27), (27, o_const 1 28), (28, o_iload 1 29), (29, o_bin (fun x y => x + y) 30), (30, o_ald 0 31), (31, o_goto 43), (34, o_aload 0 35), (35, o_getf 5 5 38), (38, o_const 9 40), (40, o_iload 1 41), (41, o_bin (fun x y => x + y) 42), (42, o_ald 0 43), (43, o_iret post)]
theorem k_X5_key_0 (post : PO) : lk (T_X5_key post) 0 = o_aload 0 1 := rfl
theorem k_X5_key_1 (post : PO) : lk (T_X5_key post) 1 = o_iload 1 2 := rfl
theorem k_X5_key_2 (post : PO) : lk (T_X5_key post) 2 = o_callV 5 S_X5_isKey 1 5 := rfl
theorem k_X5_key_5 (post : PO) : lk (T_X5_key post) 5 = o_if (fun x => x = 0) 17 8 := rfl
theorem k_X5_key_8 (post : PO) : lk (T_X5_key post) 8 = o_iload 2 9 := rfl
theorem k_X5_key_9 (post : PO) : lk (T_X5_key post) 9 = o_const 0 10 := rfl
theorem k_X5_key_10 (post : PO) : lk (T_X5_key post) 10 = o_const 1 11 := rfl
theorem k_X5_key_11 (post : PO) : lk (T_X5_key post) 11 = o_callS S_X5_in 3 14 := rfl
theorem k_X5_key_14 (post : PO) : lk (T_X5_key post) 14 = o_if (fun x => x = 0) 17 19 := rfl
theorem k_X5_key_17 (post : PO) : lk (T_X5_key post) 17 = o_const (-1) 18 := rfl
theorem k_X5_key_18 (post : PO) : lk (T_X5_key post) 18 = o_iret post := rfl
theorem k_X5_key_19 (post : PO) : lk (T_X5_key post) 19 = o_iload 2 20 := rfl
theorem k_X5_key_20 (post : PO) : lk (T_X5_key post) 20 = o_if (fun x => x = 0) 23 34 := rfl
theorem k_X5_key_23 (post : PO) : lk (T_X5_key post) 23 = o_aload 0 24 := rfl
theorem k_X5_key_24 (post : PO) : lk (T_X5_key post) 24 = o_getf 5 5 27 := rfl
theorem k_X5_key_27 (post : PO) : lk (T_X5_key post) 27 = o_const 1 28 := rfl
theorem k_X5_key_28 (post : PO) : lk (T_X5_key post) 28 = o_iload 1 29 := rfl
theorem k_X5_key_29 (post : PO) : lk (T_X5_key post) 29 = o_bin (fun x y => x + y) 30 := rfl
theorem k_X5_key_30 (post : PO) : lk (T_X5_key post) 30 = o_ald 0 31 := rfl
theorem k_X5_key_31 (post : PO) : lk (T_X5_key post) 31 = o_goto 43 := rfl
theorem k_X5_key_34 (post : PO) : lk (T_X5_key post) 34 = o_aload 0 35 := rfl
theorem k_X5_key_35 (post : PO) : lk (T_X5_key post) 35 = o_getf 5 5 38 := rfl
theorem k_X5_key_38 (post : PO) : lk (T_X5_key post) 38 = o_const 9 40 := rfl
theorem k_X5_key_40 (post : PO) : lk (T_X5_key post) 40 = o_iload 1 41 := rfl
theorem k_X5_key_41 (post : PO) : lk (T_X5_key post) 41 = o_bin (fun x y => x + y) 42 := rfl
theorem k_X5_key_42 (post : PO) : lk (T_X5_key post) 42 = o_ald 0 43 := rfl
theorem k_X5_key_43 (post : PO) : lk (T_X5_key post) 43 = o_iret post := rfl
set_option maxRecDepth 100000 in
theorem t_X5_key {p : Program} {l : Launch} {e : Env} {s : State} {m : MethodId} {args : Array Value} {below : List Frame} {meth : Method} {c : Code} {D : va_G} {dA : Nat → ClassId} {ad : Nat → Nat} (post : PO) (C : CX p s m args meth c cX5_key 3 yX5_key.cls D dA ad (AA ad s.heap.size)) (hr : meth.sig.returnType = (some .int)) : SndL (WW p l e ({ frames := 2, cells := 0, slots := 0, locals := 43 } : Room) s m args below meth c 0 0 (MQ below (CQ D dA ad post (AA ad s.heap.size)) args s 0 0 (AA ad s.heap.size)) 3 D dA ad (AA ad s.heap.size)) (T_X5_key post) := by
  refine snd_c (s_aload_n C rfl dX5_key_0) ?_
  refine snd_c (s_iload_n C rfl dX5_key_1) ?_
  refine snd_c (s_callV C (ci := 5) c_X5_isKey rfl cw_RX5_98 ⟨rfl, rfl⟩ ⟨by decide +kernel, by decide +kernel, by decide +kernel⟩ ⟨by decide, by decide⟩ ⟨Nat.zero_le _, Nat.zero_le _⟩ dX5_key_2) ?_
  refine snd_c (s_if_eq C dX5_key_5 (by decide)) ?_
  refine snd_c (s_iload_n C rfl dX5_key_8) ?_
  refine snd_c (s_iconst C dX5_key_9 rfl) ?_
  refine snd_c (s_iconst C dX5_key_10 rfl) ?_
  refine snd_c (s_callS C c_X5_in cw_RX5_35 ⟨rfl, rfl⟩ ⟨by decide +kernel, by decide +kernel, by decide +kernel⟩ ⟨by decide, by decide⟩ ⟨Nat.zero_le _, Nat.zero_le _⟩ dX5_key_11) ?_
  refine snd_c (s_if_ne C dX5_key_14 (by decide)) ?_
  refine snd_c (s_iconst C dX5_key_17 rfl) ?_
  refine snd_c (s_iret C hr dX5_key_18) ?_
  refine snd_c (s_iload_n C rfl dX5_key_19) ?_
  refine snd_c (s_if_ne C dX5_key_20 (by decide)) ?_
  refine snd_c (s_aload_n C rfl dX5_key_23) ?_
  refine snd_c (s_getf C (ci := 5) (j := 5) (T := TX5) rfl inX5 (by decide) fl_RX5_19 dX5_key_24) ?_
  refine snd_c (s_iconst C dX5_key_27 rfl) ?_
  refine snd_c (s_iload_n C rfl dX5_key_28) ?_
  refine snd_c (s_iadd C dX5_key_29) ?_
  refine snd_c (s_iald C dX5_key_30) ?_
  refine snd_c (s_goto C dX5_key_31 (by decide)) ?_
  refine snd_c (s_aload_n C rfl dX5_key_34) ?_
  refine snd_c (s_getf C (ci := 5) (j := 5) (T := TX5) rfl inX5 (by decide) fl_RX5_19 dX5_key_35) ?_
  refine snd_c (s_bipush C dX5_key_38 rfl) ?_
  refine snd_c (s_iload_n C rfl dX5_key_40) ?_
  refine snd_c (s_iadd C dX5_key_41) ?_
  refine snd_c (s_iald C dX5_key_42) ?_
  refine snd_c (s_iret C hr dX5_key_43) ?_
  exact trivial
theorem cw_RX5_101 : ∀ w ∈ ([.methodLink RX5 101 yX5_isLock, .instanceMethod yX5_isLock, .selects yX5_isLock.cls yX5_isLock yX5_isLock, .initialized yX5_isLock.cls, .code yX5_isLock cX5_isLock 2 (some .boolean)] : List Cond), w ∈ tb := tb_all [744, 746, 39, 59, 747] (by decide +kernel) (by decide +kernel)
theorem dX5_lock_0 : decode cX5_lock 0 = .ok (.aload_n 0, 1) := by decide +kernel
theorem dX5_lock_1 : decode cX5_lock 1 = .ok (.iload_n 1, 1) := by decide +kernel
theorem dX5_lock_2 : decode cX5_lock 2 = .ok (.invokevirtual 101, 3) := by decide +kernel
theorem dX5_lock_5 : decode cX5_lock 5 = .ok (.ifCond .eq 14, 3) := by decide +kernel
theorem dX5_lock_8 : decode cX5_lock 8 = .ok (.aload_n 0, 1) := by decide +kernel
theorem dX5_lock_9 : decode cX5_lock 9 = .ok (.getfield 13, 3) := by decide +kernel
theorem dX5_lock_12 : decode cX5_lock 12 = .ok (.iconst 4, 1) := by decide +kernel
theorem dX5_lock_13 : decode cX5_lock 13 = .ok (.iload_n 1, 1) := by decide +kernel
theorem dX5_lock_14 : decode cX5_lock 14 = .ok (.iadd, 1) := by decide +kernel
theorem dX5_lock_15 : decode cX5_lock 15 = .ok (.iaload, 1) := by decide +kernel
theorem dX5_lock_16 : decode cX5_lock 16 = .ok (.goto 4, 3) := by decide +kernel
theorem dX5_lock_19 : decode cX5_lock 19 = .ok (.iconst (-1), 1) := by decide +kernel
theorem dX5_lock_20 : decode cX5_lock 20 = .ok (.ireturn, 1) := by decide +kernel
def T_X5_lock (post : PO) : List (Nat × OP) := [(0, o_aload 0 1), (1, o_iload 1 2), (2, o_callV 5 S_X5_isLock 1 5), (5, o_if (fun x => x = 0) 19 8), (8, o_aload 0 9), (9, o_getf 5 3 12), (12, o_const 4 13), (13, o_iload 1 14), (14, o_bin (fun x y => x + y) 15), (15, o_ald 0 16), (16, o_goto 20), (19, o_const (-1) 20), (20, o_iret post)]
theorem k_X5_lock_0 (post : PO) : lk (T_X5_lock post) 0 = o_aload 0 1 := rfl
theorem k_X5_lock_1 (post : PO) : lk (T_X5_lock post) 1 = o_iload 1 2 := rfl
theorem k_X5_lock_2 (post : PO) : lk (T_X5_lock post) 2 = o_callV 5 S_X5_isLock 1 5 := rfl
theorem k_X5_lock_5 (post : PO) : lk (T_X5_lock post) 5 = o_if (fun x => x = 0) 19 8 := rfl
theorem k_X5_lock_8 (post : PO) : lk (T_X5_lock post) 8 = o_aload 0 9 := rfl
theorem k_X5_lock_9 (post : PO) : lk (T_X5_lock post) 9 = o_getf 5 3 12 := rfl
theorem k_X5_lock_12 (post : PO) : lk (T_X5_lock post) 12 = o_const 4 13 := rfl
theorem k_X5_lock_13 (post : PO) : lk (T_X5_lock post) 13 = o_iload 1 14 := rfl
theorem k_X5_lock_14 (post : PO) : lk (T_X5_lock post) 14 = o_bin (fun x y => x + y) 15 := rfl
theorem k_X5_lock_15 (post : PO) : lk (T_X5_lock post) 15 = o_ald 0 16 := rfl
theorem k_X5_lock_16 (post : PO) : lk (T_X5_lock post) 16 = o_goto 20 := rfl
theorem k_X5_lock_19 (post : PO) : lk (T_X5_lock post) 19 = o_const (-1) 20 := rfl
theorem k_X5_lock_20 (post : PO) : lk (T_X5_lock post) 20 = o_iret post := rfl
set_option maxRecDepth 100000 in
theorem t_X5_lock {p : Program} {l : Launch} {e : Env} {s : State} {m : MethodId} {args : Array Value} {below : List Frame} {meth : Method} {c : Code} {D : va_G} {dA : Nat → ClassId} {ad : Nat → Nat} (post : PO) (C : CX p s m args meth c cX5_lock 2 yX5_lock.cls D dA ad (AA ad s.heap.size)) (hr : meth.sig.returnType = (some .int)) : SndL (WW p l e ({ frames := 2, cells := 0, slots := 0, locals := 43 } : Room) s m args below meth c 0 0 (MQ below (CQ D dA ad post (AA ad s.heap.size)) args s 0 0 (AA ad s.heap.size)) 2 D dA ad (AA ad s.heap.size)) (T_X5_lock post) := by
  refine snd_c (s_aload_n C rfl dX5_lock_0) ?_
  refine snd_c (s_iload_n C rfl dX5_lock_1) ?_
  refine snd_c (s_callV C (ci := 5) c_X5_isLock rfl cw_RX5_101 ⟨rfl, rfl⟩ ⟨by decide +kernel, by decide +kernel, by decide +kernel⟩ ⟨by decide, by decide⟩ ⟨Nat.zero_le _, Nat.zero_le _⟩ dX5_lock_2) ?_
  refine snd_c (s_if_eq C dX5_lock_5 (by decide)) ?_
  refine snd_c (s_aload_n C rfl dX5_lock_8) ?_
  refine snd_c (s_getf C (ci := 5) (j := 3) (T := TX5) rfl inX5 (by decide) fl_RX5_13 dX5_lock_9) ?_
  refine snd_c (s_iconst C dX5_lock_12 rfl) ?_
  refine snd_c (s_iload_n C rfl dX5_lock_13) ?_
  refine snd_c (s_iadd C dX5_lock_14) ?_
  refine snd_c (s_iald C dX5_lock_15) ?_
  refine snd_c (s_goto C dX5_lock_16 (by decide)) ?_
  refine snd_c (s_iconst C dX5_lock_19 rfl) ?_
  refine snd_c (s_iret C hr dX5_lock_20) ?_
  exact trivial
theorem dX5_all_0 : decode cX5_all 0 = .ok (.iconst 0, 1) := by decide +kernel
theorem dX5_all_1 : decode cX5_all 1 = .ok (.istore_n 1, 1) := by decide +kernel
theorem dX5_all_2 : decode cX5_all 2 = .ok (.iconst 0, 1) := by decide +kernel
theorem dX5_all_3 : decode cX5_all 3 = .ok (.istore_n 2, 1) := by decide +kernel
theorem dX5_all_4 : decode cX5_all 4 = .ok (.iload_n 2, 1) := by decide +kernel
theorem dX5_all_5 : decode cX5_all 5 = .ok (.aload_n 0, 1) := by decide +kernel
theorem dX5_all_6 : decode cX5_all 6 = .ok (.getfield 19, 3) := by decide +kernel
theorem dX5_all_9 : decode cX5_all 9 = .ok (.iconst 0, 1) := by decide +kernel
theorem dX5_all_10 : decode cX5_all 10 = .ok (.iaload, 1) := by decide +kernel
theorem dX5_all_11 : decode cX5_all 11 = .ok (.if_icmp .ge 33, 3) := by decide +kernel
theorem dX5_all_14 : decode cX5_all 14 = .ok (.iload_n 1, 1) := by decide +kernel
theorem dX5_all_15 : decode cX5_all 15 = .ok (.aload_n 0, 1) := by decide +kernel
theorem dX5_all_16 : decode cX5_all 16 = .ok (.getfield 19, 3) := by decide +kernel
theorem dX5_all_19 : decode cX5_all 19 = .ok (.bipush 9, 2) := by decide +kernel
theorem dX5_all_21 : decode cX5_all 21 = .ok (.iload_n 2, 1) := by decide +kernel
theorem dX5_all_22 : decode cX5_all 22 = .ok (.iadd, 1) := by decide +kernel
theorem dX5_all_23 : decode cX5_all 23 = .ok (.iaload, 1) := by decide +kernel
theorem dX5_all_24 : decode cX5_all 24 = .ok (.bipush (-3), 2) := by decide +kernel
theorem dX5_all_26 : decode cX5_all 26 = .ok (.if_icmp .eq 9, 3) := by decide +kernel
theorem dX5_all_29 : decode cX5_all 29 = .ok (.iconst 1, 1) := by decide +kernel
theorem dX5_all_30 : decode cX5_all 30 = .ok (.iload_n 2, 1) := by decide +kernel
theorem dX5_all_31 : decode cX5_all 31 = .ok (.ishl, 1) := by decide +kernel
theorem dX5_all_32 : decode cX5_all 32 = .ok (.goto 4, 3) := by decide +kernel
theorem dX5_all_35 : decode cX5_all 35 = .ok (.iconst 0, 1) := by decide +kernel
theorem dX5_all_36 : decode cX5_all 36 = .ok (.ior, 1) := by decide +kernel
theorem dX5_all_37 : decode cX5_all 37 = .ok (.istore_n 1, 1) := by decide +kernel
theorem dX5_all_38 : decode cX5_all 38 = .ok (.iinc 2 1, 3) := by decide +kernel
theorem dX5_all_41 : decode cX5_all 41 = .ok (.goto (-37), 3) := by decide +kernel
theorem dX5_all_44 : decode cX5_all 44 = .ok (.iload_n 1, 1) := by decide +kernel
theorem dX5_all_45 : decode cX5_all 45 = .ok (.ireturn, 1) := by decide +kernel
def T_X5_all (post : PO) : List (Nat × OP) := [(0, o_const 0 1), (1, o_istore 1 2), (2, o_const 0 3), (3, o_istore 2 4), (4, o_iload 2 5), (5, o_aload 0 6), (6, o_getf 5 5 9), (9, o_const 0 10), (10, o_ald 0 11), (11, o_icmp (fun x y => y ≤ x) 44 14), (14, o_iload 1 15), (15, o_aload 0 16), (16, o_getf 5 5 19), (19, o_const 9 21), (21, o_iload 2 22), (22, o_bin (fun x y => x + y) 23), (23, o_ald 0 24), (24, o_const (-3) 26), (26, o_icmp (fun x y => x = y) 35 29), (29, o_const 1 30), (30, o_iload 2 31), (31, o_bin (fun x y => x <<< (y &&& 31)) 32), (32, o_goto 36), (35, o_const 0 36), (36, o_bin (fun x y => x ||| y) 37), (37, o_istore 1 38), (38, o_iinc 2 1 41), (41, o_goto 4), (44, o_iload 1 45), (45, o_iret post)]
theorem k_X5_all_0 (post : PO) : lk (T_X5_all post) 0 = o_const 0 1 := rfl
theorem k_X5_all_1 (post : PO) : lk (T_X5_all post) 1 = o_istore 1 2 := rfl
theorem k_X5_all_2 (post : PO) : lk (T_X5_all post) 2 = o_const 0 3 := rfl
theorem k_X5_all_3 (post : PO) : lk (T_X5_all post) 3 = o_istore 2 4 := rfl
theorem k_X5_all_4 (post : PO) : lk (T_X5_all post) 4 = o_iload 2 5 := rfl
theorem k_X5_all_5 (post : PO) : lk (T_X5_all post) 5 = o_aload 0 6 := rfl
theorem k_X5_all_6 (post : PO) : lk (T_X5_all post) 6 = o_getf 5 5 9 := rfl
theorem k_X5_all_9 (post : PO) : lk (T_X5_all post) 9 = o_const 0 10 := rfl
theorem k_X5_all_10 (post : PO) : lk (T_X5_all post) 10 = o_ald 0 11 := rfl
theorem k_X5_all_11 (post : PO) : lk (T_X5_all post) 11 = o_icmp (fun x y => y ≤ x) 44 14 := rfl
theorem k_X5_all_14 (post : PO) : lk (T_X5_all post) 14 = o_iload 1 15 := rfl
theorem k_X5_all_15 (post : PO) : lk (T_X5_all post) 15 = o_aload 0 16 := rfl
theorem k_X5_all_16 (post : PO) : lk (T_X5_all post) 16 = o_getf 5 5 19 := rfl
theorem k_X5_all_19 (post : PO) : lk (T_X5_all post) 19 = o_const 9 21 := rfl
theorem k_X5_all_21 (post : PO) : lk (T_X5_all post) 21 = o_iload 2 22 := rfl
theorem k_X5_all_22 (post : PO) : lk (T_X5_all post) 22 = o_bin (fun x y => x + y) 23 := rfl
theorem k_X5_all_23 (post : PO) : lk (T_X5_all post) 23 = o_ald 0 24 := rfl
theorem k_X5_all_24 (post : PO) : lk (T_X5_all post) 24 = o_const (-3) 26 := rfl
theorem k_X5_all_26 (post : PO) : lk (T_X5_all post) 26 = o_icmp (fun x y => x = y) 35 29 := rfl
theorem k_X5_all_29 (post : PO) : lk (T_X5_all post) 29 = o_const 1 30 := rfl
theorem k_X5_all_30 (post : PO) : lk (T_X5_all post) 30 = o_iload 2 31 := rfl
theorem k_X5_all_31 (post : PO) : lk (T_X5_all post) 31 = o_bin (fun x y => x <<< (y &&& 31)) 32 := rfl
theorem k_X5_all_32 (post : PO) : lk (T_X5_all post) 32 = o_goto 36 := rfl
theorem k_X5_all_35 (post : PO) : lk (T_X5_all post) 35 = o_const 0 36 := rfl
theorem k_X5_all_36 (post : PO) : lk (T_X5_all post) 36 = o_bin (fun x y => x ||| y) 37 := rfl
theorem k_X5_all_37 (post : PO) : lk (T_X5_all post) 37 = o_istore 1 38 := rfl
theorem k_X5_all_38 (post : PO) : lk (T_X5_all post) 38 = o_iinc 2 1 41 := rfl
theorem k_X5_all_41 (post : PO) : lk (T_X5_all post) 41 = o_goto 4 := rfl
theorem k_X5_all_44 (post : PO) : lk (T_X5_all post) 44 = o_iload 1 45 := rfl
theorem k_X5_all_45 (post : PO) : lk (T_X5_all post) 45 = o_iret post := rfl
set_option maxRecDepth 100000 in
theorem t_X5_all {p : Program} {l : Launch} {e : Env} {s : State} {m : MethodId} {args : Array Value} {below : List Frame} {meth : Method} {c : Code} {D : va_G} {dA : Nat → ClassId} {ad : Nat → Nat} (post : PO) (C : CX p s m args meth c cX5_all 3 yX5_all.cls D dA ad (AA ad s.heap.size)) (hr : meth.sig.returnType = (some .int)) : SndL (WW p l e ({ frames := 0, cells := 0, slots := 0, locals := 0 } : Room) s m args below meth c 0 0 (MQ below (CQ D dA ad post (AA ad s.heap.size)) args s 0 0 (AA ad s.heap.size)) 3 D dA ad (AA ad s.heap.size)) (T_X5_all post) := by
  refine snd_c (s_iconst C dX5_all_0 rfl) ?_
  refine snd_c (s_istore_n C rfl (by decide) dX5_all_1) ?_
  refine snd_c (s_iconst C dX5_all_2 rfl) ?_
  refine snd_c (s_istore_n C rfl (by decide) dX5_all_3) ?_
  refine snd_c (s_iload_n C rfl dX5_all_4) ?_
  refine snd_c (s_aload_n C rfl dX5_all_5) ?_
  refine snd_c (s_getf C (ci := 5) (j := 5) (T := TX5) rfl inX5 (by decide) fl_RX5_19 dX5_all_6) ?_
  refine snd_c (s_iconst C dX5_all_9 rfl) ?_
  refine snd_c (s_iald C dX5_all_10) ?_
  refine snd_c (s_icmp_ge C dX5_all_11 (by decide)) ?_
  refine snd_c (s_iload_n C rfl dX5_all_14) ?_
  refine snd_c (s_aload_n C rfl dX5_all_15) ?_
  refine snd_c (s_getf C (ci := 5) (j := 5) (T := TX5) rfl inX5 (by decide) fl_RX5_19 dX5_all_16) ?_
  refine snd_c (s_bipush C dX5_all_19 rfl) ?_
  refine snd_c (s_iload_n C rfl dX5_all_21) ?_
  refine snd_c (s_iadd C dX5_all_22) ?_
  refine snd_c (s_iald C dX5_all_23) ?_
  refine snd_c (s_bipush C dX5_all_24 rfl) ?_
  refine snd_c (s_icmp_eq C dX5_all_26 (by decide)) ?_
  refine snd_c (s_iconst C dX5_all_29 rfl) ?_
  refine snd_c (s_iload_n C rfl dX5_all_30) ?_
  refine snd_c (s_ishl C dX5_all_31) ?_
  refine snd_c (s_goto C dX5_all_32 (by decide)) ?_
  refine snd_c (s_iconst C dX5_all_35 rfl) ?_
  refine snd_c (s_ior C dX5_all_36) ?_
  refine snd_c (s_istore_n C rfl (by decide) dX5_all_37) ?_
  refine snd_c (s_iinc C (by decide) rfl dX5_all_38) ?_
  refine snd_c (s_goto C dX5_all_41 (by decide)) ?_
  refine snd_c (s_iload_n C rfl dX5_all_44) ?_
  refine snd_c (s_iret C hr dX5_all_45) ?_
  exact trivial
theorem dX5_box_0 : decode cX5_box 0 = .ok (.iconst 0, 1) := by decide +kernel
theorem dX5_box_1 : decode cX5_box 1 = .ok (.istore_n 1, 1) := by decide +kernel
theorem dX5_box_2 : decode cX5_box 2 = .ok (.iconst 0, 1) := by decide +kernel
theorem dX5_box_3 : decode cX5_box 3 = .ok (.istore_n 2, 1) := by decide +kernel
theorem dX5_box_4 : decode cX5_box 4 = .ok (.iload_n 2, 1) := by decide +kernel
theorem dX5_box_5 : decode cX5_box 5 = .ok (.aload_n 0, 1) := by decide +kernel
theorem dX5_box_6 : decode cX5_box 6 = .ok (.getfield 19, 3) := by decide +kernel
theorem dX5_box_9 : decode cX5_box 9 = .ok (.iconst 0, 1) := by decide +kernel
theorem dX5_box_10 : decode cX5_box 10 = .ok (.iaload, 1) := by decide +kernel
theorem dX5_box_11 : decode cX5_box 11 = .ok (.if_icmp .ge 33, 3) := by decide +kernel
theorem dX5_box_14 : decode cX5_box 14 = .ok (.iload_n 1, 1) := by decide +kernel
theorem dX5_box_15 : decode cX5_box 15 = .ok (.aload_n 0, 1) := by decide +kernel
theorem dX5_box_16 : decode cX5_box 16 = .ok (.getfield 19, 3) := by decide +kernel
theorem dX5_box_19 : decode cX5_box 19 = .ok (.bipush 9, 2) := by decide +kernel
theorem dX5_box_21 : decode cX5_box 21 = .ok (.iload_n 2, 1) := by decide +kernel
theorem dX5_box_22 : decode cX5_box 22 = .ok (.iadd, 1) := by decide +kernel
theorem dX5_box_23 : decode cX5_box 23 = .ok (.iaload, 1) := by decide +kernel
theorem dX5_box_24 : decode cX5_box 24 = .ok (.bipush (-4), 2) := by decide +kernel
theorem dX5_box_26 : decode cX5_box 26 = .ok (.if_icmp .ne 9, 3) := by decide +kernel
theorem dX5_box_29 : decode cX5_box 29 = .ok (.iconst 1, 1) := by decide +kernel
theorem dX5_box_30 : decode cX5_box 30 = .ok (.iload_n 2, 1) := by decide +kernel
theorem dX5_box_31 : decode cX5_box 31 = .ok (.ishl, 1) := by decide +kernel
theorem dX5_box_32 : decode cX5_box 32 = .ok (.goto 4, 3) := by decide +kernel
theorem dX5_box_35 : decode cX5_box 35 = .ok (.iconst 0, 1) := by decide +kernel
theorem dX5_box_36 : decode cX5_box 36 = .ok (.ior, 1) := by decide +kernel
theorem dX5_box_37 : decode cX5_box 37 = .ok (.istore_n 1, 1) := by decide +kernel
theorem dX5_box_38 : decode cX5_box 38 = .ok (.iinc 2 1, 3) := by decide +kernel
theorem dX5_box_41 : decode cX5_box 41 = .ok (.goto (-37), 3) := by decide +kernel
theorem dX5_box_44 : decode cX5_box 44 = .ok (.iload_n 1, 1) := by decide +kernel
theorem dX5_box_45 : decode cX5_box 45 = .ok (.ireturn, 1) := by decide +kernel
def T_X5_box (post : PO) : List (Nat × OP) := [(0, o_const 0 1), (1, o_istore 1 2), (2, o_const 0 3), (3, o_istore 2 4), (4, o_iload 2 5), (5, o_aload 0 6), (6, o_getf 5 5 9), (9, o_const 0 10), (10, o_ald 0 11), (11, o_icmp (fun x y => y ≤ x) 44 14), (14, o_iload 1 15), (15, o_aload 0 16), (16, o_getf 5 5 19), (19, o_const 9 21), (21, o_iload 2 22), (22, o_bin (fun x y => x + y) 23), (23, o_ald 0 24), (24, o_const (-4) 26), (26, o_icmp (fun x y => x = y) 29 35), (29, o_const 1 30), (30, o_iload 2 31), (31, o_bin (fun x y => x <<< (y &&& 31)) 32), (32, o_goto 36), (35, o_const 0 36), (36, o_bin (fun x y => x ||| y) 37), (37, o_istore 1 38), (38, o_iinc 2 1 41), (41, o_goto 4), (44, o_iload 1 45), (45, o_iret post)]
theorem k_X5_box_0 (post : PO) : lk (T_X5_box post) 0 = o_const 0 1 := rfl
theorem k_X5_box_1 (post : PO) : lk (T_X5_box post) 1 = o_istore 1 2 := rfl
theorem k_X5_box_2 (post : PO) : lk (T_X5_box post) 2 = o_const 0 3 := rfl
theorem k_X5_box_3 (post : PO) : lk (T_X5_box post) 3 = o_istore 2 4 := rfl
theorem k_X5_box_4 (post : PO) : lk (T_X5_box post) 4 = o_iload 2 5 := rfl
theorem k_X5_box_5 (post : PO) : lk (T_X5_box post) 5 = o_aload 0 6 := rfl
theorem k_X5_box_6 (post : PO) : lk (T_X5_box post) 6 = o_getf 5 5 9 := rfl
theorem k_X5_box_9 (post : PO) : lk (T_X5_box post) 9 = o_const 0 10 := rfl
theorem k_X5_box_10 (post : PO) : lk (T_X5_box post) 10 = o_ald 0 11 := rfl
theorem k_X5_box_11 (post : PO) : lk (T_X5_box post) 11 = o_icmp (fun x y => y ≤ x) 44 14 := rfl
theorem k_X5_box_14 (post : PO) : lk (T_X5_box post) 14 = o_iload 1 15 := rfl
theorem k_X5_box_15 (post : PO) : lk (T_X5_box post) 15 = o_aload 0 16 := rfl
theorem k_X5_box_16 (post : PO) : lk (T_X5_box post) 16 = o_getf 5 5 19 := rfl
theorem k_X5_box_19 (post : PO) : lk (T_X5_box post) 19 = o_const 9 21 := rfl
theorem k_X5_box_21 (post : PO) : lk (T_X5_box post) 21 = o_iload 2 22 := rfl
theorem k_X5_box_22 (post : PO) : lk (T_X5_box post) 22 = o_bin (fun x y => x + y) 23 := rfl
theorem k_X5_box_23 (post : PO) : lk (T_X5_box post) 23 = o_ald 0 24 := rfl
theorem k_X5_box_24 (post : PO) : lk (T_X5_box post) 24 = o_const (-4) 26 := rfl
theorem k_X5_box_26 (post : PO) : lk (T_X5_box post) 26 = o_icmp (fun x y => x = y) 29 35 := rfl
theorem k_X5_box_29 (post : PO) : lk (T_X5_box post) 29 = o_const 1 30 := rfl
theorem k_X5_box_30 (post : PO) : lk (T_X5_box post) 30 = o_iload 2 31 := rfl
theorem k_X5_box_31 (post : PO) : lk (T_X5_box post) 31 = o_bin (fun x y => x <<< (y &&& 31)) 32 := rfl
theorem k_X5_box_32 (post : PO) : lk (T_X5_box post) 32 = o_goto 36 := rfl
theorem k_X5_box_35 (post : PO) : lk (T_X5_box post) 35 = o_const 0 36 := rfl
theorem k_X5_box_36 (post : PO) : lk (T_X5_box post) 36 = o_bin (fun x y => x ||| y) 37 := rfl
theorem k_X5_box_37 (post : PO) : lk (T_X5_box post) 37 = o_istore 1 38 := rfl
theorem k_X5_box_38 (post : PO) : lk (T_X5_box post) 38 = o_iinc 2 1 41 := rfl
theorem k_X5_box_41 (post : PO) : lk (T_X5_box post) 41 = o_goto 4 := rfl
theorem k_X5_box_44 (post : PO) : lk (T_X5_box post) 44 = o_iload 1 45 := rfl
theorem k_X5_box_45 (post : PO) : lk (T_X5_box post) 45 = o_iret post := rfl
set_option maxRecDepth 100000 in
theorem t_X5_box {p : Program} {l : Launch} {e : Env} {s : State} {m : MethodId} {args : Array Value} {below : List Frame} {meth : Method} {c : Code} {D : va_G} {dA : Nat → ClassId} {ad : Nat → Nat} (post : PO) (C : CX p s m args meth c cX5_box 3 yX5_box.cls D dA ad (AA ad s.heap.size)) (hr : meth.sig.returnType = (some .int)) : SndL (WW p l e ({ frames := 0, cells := 0, slots := 0, locals := 0 } : Room) s m args below meth c 0 0 (MQ below (CQ D dA ad post (AA ad s.heap.size)) args s 0 0 (AA ad s.heap.size)) 3 D dA ad (AA ad s.heap.size)) (T_X5_box post) := by
  refine snd_c (s_iconst C dX5_box_0 rfl) ?_
  refine snd_c (s_istore_n C rfl (by decide) dX5_box_1) ?_
  refine snd_c (s_iconst C dX5_box_2 rfl) ?_
  refine snd_c (s_istore_n C rfl (by decide) dX5_box_3) ?_
  refine snd_c (s_iload_n C rfl dX5_box_4) ?_
  refine snd_c (s_aload_n C rfl dX5_box_5) ?_
  refine snd_c (s_getf C (ci := 5) (j := 5) (T := TX5) rfl inX5 (by decide) fl_RX5_19 dX5_box_6) ?_
  refine snd_c (s_iconst C dX5_box_9 rfl) ?_
  refine snd_c (s_iald C dX5_box_10) ?_
  refine snd_c (s_icmp_ge C dX5_box_11 (by decide)) ?_
  refine snd_c (s_iload_n C rfl dX5_box_14) ?_
  refine snd_c (s_aload_n C rfl dX5_box_15) ?_
  refine snd_c (s_getf C (ci := 5) (j := 5) (T := TX5) rfl inX5 (by decide) fl_RX5_19 dX5_box_16) ?_
  refine snd_c (s_bipush C dX5_box_19 rfl) ?_
  refine snd_c (s_iload_n C rfl dX5_box_21) ?_
  refine snd_c (s_iadd C dX5_box_22) ?_
  refine snd_c (s_iald C dX5_box_23) ?_
  refine snd_c (s_bipush C dX5_box_24 rfl) ?_
  refine snd_c (s_icmp_ne C dX5_box_26 (by decide)) ?_
  refine snd_c (s_iconst C dX5_box_29 rfl) ?_
  refine snd_c (s_iload_n C rfl dX5_box_30) ?_
  refine snd_c (s_ishl C dX5_box_31) ?_
  refine snd_c (s_goto C dX5_box_32 (by decide)) ?_
  refine snd_c (s_iconst C dX5_box_35 rfl) ?_
  refine snd_c (s_ior C dX5_box_36) ?_
  refine snd_c (s_istore_n C rfl (by decide) dX5_box_37) ?_
  refine snd_c (s_iinc C (by decide) rfl dX5_box_38) ?_
  refine snd_c (s_goto C dX5_box_41 (by decide)) ?_
  refine snd_c (s_iload_n C rfl dX5_box_44) ?_
  refine snd_c (s_iret C hr dX5_box_45) ?_
  exact trivial
theorem dX5_rowOf_0 : decode cX5_rowOf 0 = .ok (.iconst 0, 1) := by decide +kernel
theorem dX5_rowOf_1 : decode cX5_rowOf 1 = .ok (.istore_n 2, 1) := by decide +kernel
theorem dX5_rowOf_2 : decode cX5_rowOf 2 = .ok (.iconst 0, 1) := by decide +kernel
theorem dX5_rowOf_3 : decode cX5_rowOf 3 = .ok (.istore_n 3, 1) := by decide +kernel
theorem dX5_rowOf_4 : decode cX5_rowOf 4 = .ok (.iload_n 3, 1) := by decide +kernel
theorem dX5_rowOf_5 : decode cX5_rowOf 5 = .ok (.bipush 8, 2) := by decide +kernel
theorem dX5_rowOf_7 : decode cX5_rowOf 7 = .ok (.if_icmp .ge 33, 3) := by decide +kernel
theorem dX5_rowOf_10 : decode cX5_rowOf 10 = .ok (.iload_n 2, 1) := by decide +kernel
theorem dX5_rowOf_11 : decode cX5_rowOf 11 = .ok (.iload_n 1, 1) := by decide +kernel
theorem dX5_rowOf_12 : decode cX5_rowOf 12 = .ok (.iload_n 3, 1) := by decide +kernel
theorem dX5_rowOf_13 : decode cX5_rowOf 13 = .ok (.ishr, 1) := by decide +kernel
theorem dX5_rowOf_14 : decode cX5_rowOf 14 = .ok (.iconst 1, 1) := by decide +kernel
theorem dX5_rowOf_15 : decode cX5_rowOf 15 = .ok (.iand, 1) := by decide +kernel
theorem dX5_rowOf_16 : decode cX5_rowOf 16 = .ok (.iconst 1, 1) := by decide +kernel
theorem dX5_rowOf_17 : decode cX5_rowOf 17 = .ok (.if_icmp .ne 14, 3) := by decide +kernel
theorem dX5_rowOf_20 : decode cX5_rowOf 20 = .ok (.aload_n 0, 1) := by decide +kernel
theorem dX5_rowOf_21 : decode cX5_rowOf 21 = .ok (.getfield 19, 3) := by decide +kernel
theorem dX5_rowOf_24 : decode cX5_rowOf 24 = .ok (.iconst 1, 1) := by decide +kernel
theorem dX5_rowOf_25 : decode cX5_rowOf 25 = .ok (.iload_n 3, 1) := by decide +kernel
theorem dX5_rowOf_26 : decode cX5_rowOf 26 = .ok (.iadd, 1) := by decide +kernel
theorem dX5_rowOf_27 : decode cX5_rowOf 27 = .ok (.iaload, 1) := by decide +kernel
theorem dX5_rowOf_28 : decode cX5_rowOf 28 = .ok (.goto 4, 3) := by decide +kernel
theorem dX5_rowOf_31 : decode cX5_rowOf 31 = .ok (.iconst 0, 1) := by decide +kernel
theorem dX5_rowOf_32 : decode cX5_rowOf 32 = .ok (.ixor, 1) := by decide +kernel
theorem dX5_rowOf_33 : decode cX5_rowOf 33 = .ok (.istore_n 2, 1) := by decide +kernel
theorem dX5_rowOf_34 : decode cX5_rowOf 34 = .ok (.iinc 3 1, 3) := by decide +kernel
theorem dX5_rowOf_37 : decode cX5_rowOf 37 = .ok (.goto (-33), 3) := by decide +kernel
theorem dX5_rowOf_40 : decode cX5_rowOf 40 = .ok (.iload_n 2, 1) := by decide +kernel
theorem dX5_rowOf_41 : decode cX5_rowOf 41 = .ok (.ireturn, 1) := by decide +kernel
def T_X5_rowOf (post : PO) : List (Nat × OP) := [(0, o_const 0 1), (1, o_istore 2 2), (2, o_const 0 3), (3, o_istore 3 4), (4, o_iload 3 5), (5, o_const 8 7), (7, o_icmp (fun x y => y ≤ x) 40 10), (10, o_iload 2 11), (11, o_iload 1 12), (12, o_iload 3 13), (13, o_bin (fun x y => x >>> (y &&& 31)) 14), (14, o_const 1 15), (15, o_bin (fun x y => x &&& y) 16), (16, o_const 1 17), (17, o_icmp (fun x y => x = y) 20 31), (20, o_aload 0 21), (21, o_getf 5 5 24), (24, o_const 1 25), (25, o_iload 3 26), (26, o_bin (fun x y => x + y) 27), (27, o_ald 0 28), (28, o_goto 32), (31, o_const 0 32), (32, o_bin (fun x y => x ^^^ y) 33), (33, o_istore 2 34), (34, o_iinc 3 1 37), (37, o_goto 4), (40, o_iload 2 41), (41, o_iret post)]
theorem k_X5_rowOf_0 (post : PO) : lk (T_X5_rowOf post) 0 = o_const 0 1 := rfl
theorem k_X5_rowOf_1 (post : PO) : lk (T_X5_rowOf post) 1 = o_istore 2 2 := rfl
theorem k_X5_rowOf_2 (post : PO) : lk (T_X5_rowOf post) 2 = o_const 0 3 := rfl
theorem k_X5_rowOf_3 (post : PO) : lk (T_X5_rowOf post) 3 = o_istore 3 4 := rfl
theorem k_X5_rowOf_4 (post : PO) : lk (T_X5_rowOf post) 4 = o_iload 3 5 := rfl
theorem k_X5_rowOf_5 (post : PO) : lk (T_X5_rowOf post) 5 = o_const 8 7 := rfl
theorem k_X5_rowOf_7 (post : PO) : lk (T_X5_rowOf post) 7 = o_icmp (fun x y => y ≤ x) 40 10 := rfl
theorem k_X5_rowOf_10 (post : PO) : lk (T_X5_rowOf post) 10 = o_iload 2 11 := rfl
theorem k_X5_rowOf_11 (post : PO) : lk (T_X5_rowOf post) 11 = o_iload 1 12 := rfl
theorem k_X5_rowOf_12 (post : PO) : lk (T_X5_rowOf post) 12 = o_iload 3 13 := rfl
theorem k_X5_rowOf_13 (post : PO) : lk (T_X5_rowOf post) 13 = o_bin (fun x y => x >>> (y &&& 31)) 14 := rfl
theorem k_X5_rowOf_14 (post : PO) : lk (T_X5_rowOf post) 14 = o_const 1 15 := rfl
theorem k_X5_rowOf_15 (post : PO) : lk (T_X5_rowOf post) 15 = o_bin (fun x y => x &&& y) 16 := rfl
theorem k_X5_rowOf_16 (post : PO) : lk (T_X5_rowOf post) 16 = o_const 1 17 := rfl
theorem k_X5_rowOf_17 (post : PO) : lk (T_X5_rowOf post) 17 = o_icmp (fun x y => x = y) 20 31 := rfl
theorem k_X5_rowOf_20 (post : PO) : lk (T_X5_rowOf post) 20 = o_aload 0 21 := rfl
theorem k_X5_rowOf_21 (post : PO) : lk (T_X5_rowOf post) 21 = o_getf 5 5 24 := rfl
theorem k_X5_rowOf_24 (post : PO) : lk (T_X5_rowOf post) 24 = o_const 1 25 := rfl
theorem k_X5_rowOf_25 (post : PO) : lk (T_X5_rowOf post) 25 = o_iload 3 26 := rfl
theorem k_X5_rowOf_26 (post : PO) : lk (T_X5_rowOf post) 26 = o_bin (fun x y => x + y) 27 := rfl
theorem k_X5_rowOf_27 (post : PO) : lk (T_X5_rowOf post) 27 = o_ald 0 28 := rfl
theorem k_X5_rowOf_28 (post : PO) : lk (T_X5_rowOf post) 28 = o_goto 32 := rfl
theorem k_X5_rowOf_31 (post : PO) : lk (T_X5_rowOf post) 31 = o_const 0 32 := rfl
theorem k_X5_rowOf_32 (post : PO) : lk (T_X5_rowOf post) 32 = o_bin (fun x y => x ^^^ y) 33 := rfl
theorem k_X5_rowOf_33 (post : PO) : lk (T_X5_rowOf post) 33 = o_istore 2 34 := rfl
theorem k_X5_rowOf_34 (post : PO) : lk (T_X5_rowOf post) 34 = o_iinc 3 1 37 := rfl
theorem k_X5_rowOf_37 (post : PO) : lk (T_X5_rowOf post) 37 = o_goto 4 := rfl
theorem k_X5_rowOf_40 (post : PO) : lk (T_X5_rowOf post) 40 = o_iload 2 41 := rfl
theorem k_X5_rowOf_41 (post : PO) : lk (T_X5_rowOf post) 41 = o_iret post := rfl
set_option maxRecDepth 100000 in
theorem t_X5_rowOf {p : Program} {l : Launch} {e : Env} {s : State} {m : MethodId} {args : Array Value} {below : List Frame} {meth : Method} {c : Code} {D : va_G} {dA : Nat → ClassId} {ad : Nat → Nat} (post : PO) (C : CX p s m args meth c cX5_rowOf 4 yX5_rowOf.cls D dA ad (AA ad s.heap.size)) (hr : meth.sig.returnType = (some .int)) : SndL (WW p l e ({ frames := 0, cells := 0, slots := 0, locals := 0 } : Room) s m args below meth c 0 0 (MQ below (CQ D dA ad post (AA ad s.heap.size)) args s 0 0 (AA ad s.heap.size)) 4 D dA ad (AA ad s.heap.size)) (T_X5_rowOf post) := by
  refine snd_c (s_iconst C dX5_rowOf_0 rfl) ?_
  refine snd_c (s_istore_n C rfl (by decide) dX5_rowOf_1) ?_
  refine snd_c (s_iconst C dX5_rowOf_2 rfl) ?_
  refine snd_c (s_istore_n C rfl (by decide) dX5_rowOf_3) ?_
  refine snd_c (s_iload_n C rfl dX5_rowOf_4) ?_
  refine snd_c (s_bipush C dX5_rowOf_5 rfl) ?_
  refine snd_c (s_icmp_ge C dX5_rowOf_7 (by decide)) ?_
  refine snd_c (s_iload_n C rfl dX5_rowOf_10) ?_
  refine snd_c (s_iload_n C rfl dX5_rowOf_11) ?_
  refine snd_c (s_iload_n C rfl dX5_rowOf_12) ?_
  refine snd_c (s_ishr C dX5_rowOf_13) ?_
  refine snd_c (s_iconst C dX5_rowOf_14 rfl) ?_
  refine snd_c (s_iand C dX5_rowOf_15) ?_
  refine snd_c (s_iconst C dX5_rowOf_16 rfl) ?_
  refine snd_c (s_icmp_ne C dX5_rowOf_17 (by decide)) ?_
  refine snd_c (s_aload_n C rfl dX5_rowOf_20) ?_
  refine snd_c (s_getf C (ci := 5) (j := 5) (T := TX5) rfl inX5 (by decide) fl_RX5_19 dX5_rowOf_21) ?_
  refine snd_c (s_iconst C dX5_rowOf_24 rfl) ?_
  refine snd_c (s_iload_n C rfl dX5_rowOf_25) ?_
  refine snd_c (s_iadd C dX5_rowOf_26) ?_
  refine snd_c (s_iald C dX5_rowOf_27) ?_
  refine snd_c (s_goto C dX5_rowOf_28 (by decide)) ?_
  refine snd_c (s_iconst C dX5_rowOf_31 rfl) ?_
  refine snd_c (s_ixor C dX5_rowOf_32) ?_
  refine snd_c (s_istore_n C rfl (by decide) dX5_rowOf_33) ?_
  refine snd_c (s_iinc C (by decide) rfl dX5_rowOf_34) ?_
  refine snd_c (s_goto C dX5_rowOf_37 (by decide)) ?_
  refine snd_c (s_iload_n C rfl dX5_rowOf_40) ?_
  refine snd_c (s_iret C hr dX5_rowOf_41) ?_
  exact trivial
theorem i01 {w : Int32} : (0 ≤ w ∧ w ≤ 1) ↔ (w = 0 ∨ w = 1) := by
  rw [Int32.le_iff_toInt_le, Int32.le_iff_toInt_le, ← Int32.toInt_inj, ← Int32.toInt_inj]
  have e0 : (0 : Int32).toInt = 0 := by decide
  have e1 : (1 : Int32).toInt = 1 := by decide
  omega
theorem mk_1 {P : Nat → Bool} {i : Nat} (h : P i = true) : mk P i ||| 2 ^ i = mk P (i + 1) := by
  refine Nat.eq_of_testBit_eq fun k => ?_
  rw [Nat.testBit_or, mk_bit, mk_bit, Nat.testBit_two_pow]
  by_cases e : k = i
  · subst e; simp [h]
  · rw [show decide (k < i + 1) = decide (k < i) from decide_eq_decide.mpr (by omega)]
    simp [show i ≠ k from fun z => e z.symm]
theorem mk_0 {P : Nat → Bool} {i : Nat} (h : P i = false) : mk P (i + 1) = mk P i := by
  refine Nat.eq_of_testBit_eq fun k => ?_
  rw [mk_bit, mk_bit]
  by_cases e : k = i
  · subst e; simp [h]
  · rw [show decide (k < i + 1) = decide (k < i) from decide_eq_decide.mpr (by omega)]
theorem or_0 (x : Int32) : x ||| 0 = x := by
  rw [← Int32.toBitVec_inj, Int32.toBitVec_or]; exact BitVec.or_zero
theorem xor_0 (x : Int32) : x ^^^ 0 = x := by
  rw [← Int32.toBitVec_inj, Int32.toBitVec_xor]; exact BitVec.xor_zero
set_option maxRecDepth 100000 in
theorem v_X5_all : ∀ as M post, S_X5_all as M post → wsum as ≤ 3 ∧ RUN (T_X5_all post) 0 (entL 3 as) [] M := by
  rintro as M post ⟨n, c, p, r, h0, lk, rfl, ⟨hn, hn8, hc, hc6, hp, hp4, hr, hhk, hl⟩, h⟩
  refine ⟨by show 1 ≤ 3; omega, run_of [4] (fun μ pc lv st M' => pc = 4 ∧ st = [] ∧ M' = M ∧ ∃ i, i ≤ n ∧ 10 - i = μ ∧ lv = [some (VR 39), some (VI (nI (us h0 i))), some (VI (nI i))]) 40 20 ?_ ?_⟩
  · rintro μ pc lv st M' ⟨rfl, rfl, rfl, i, hi, rfl, rfl⟩
    dsimp only [k_X5_all_0, k_X5_all_1, k_X5_all_2, k_X5_all_3, k_X5_all_4, k_X5_all_5, k_X5_all_6, k_X5_all_9, k_X5_all_10, k_X5_all_11, k_X5_all_14, k_X5_all_15, k_X5_all_16, k_X5_all_19, k_X5_all_21, k_X5_all_22, k_X5_all_23, k_X5_all_24, k_X5_all_26, k_X5_all_29, k_X5_all_30, k_X5_all_31, k_X5_all_32, k_X5_all_35, k_X5_all_36, k_X5_all_37, k_X5_all_38, k_X5_all_41, k_X5_all_44, k_X5_all_45, wp1, wp_s, cutIn, kont, Nat.reduceSub, Nat.reduceAdd, nth, o_const, o_lconst, o_ref, o_iload, o_lload, o_aload, o_istore, o_lstore, o_astore, o_iinc, o_bin, o_div, o_un, o_lbin, o_lsh, o_lcmp, o_i2l, o_l2i, o_if, o_icmp, o_goto, o_dup, o_dup2, o_pop, fav, o_getf, o_putI, o_putZ, o_putL, o_ald, o_ast, o_alen, popn, rst, o_callV, o_callT, o_callS, swx, o_sw, o_ret, o_iret, o_zret, o_cret, o_lret, o_aret, lg, lput, lput2, ls1, isL, entL, wsum, rdI1, rdI2, rdA1, rdA21, rdA22, rdL1, rdL22, rdL21, upN_at, rep, sh_0, F_0_0, F_0_1, F_0_2, F_0_3, F_0_4, F_0_5, F_0_6, F_0_7, F_0_8, sh_1, F_1_0, F_1_1, F_1_2, F_1_3, F_1_4, F_1_5, sh_3, F_3_0, F_3_1, F_3_2, F_3_3, F_3_4, F_3_5, sh_5, F_5_0, F_5_1, F_5_2, F_5_3, F_5_4, F_5_5, F_5_6, F_5_7, F_5_8, sh_12, F_12_0, F_12_1, F_12_2, F_12_3, F_12_4, F_12_5, sh_14, F_14_0, F_14_1, F_14_2, F_14_3, F_14_4, F_14_5, F_14_6, F_14_7, F_14_8, sh_21, F_21_0, F_21_1, F_21_2, F_21_3, F_21_4, F_21_5, F_21_6, F_21_7, F_21_8, sh_28, F_28_0, F_28_1, F_28_2, F_28_3, F_28_4, F_28_5, F_28_6, F_28_7, F_28_8, sh_35, F_35_0, sh_39, F_39_0, F_39_1, F_39_2, F_39_3, F_39_4, F_39_5, F_39_6, F_39_7, F_39_8, F_39_9, F_39_10, F_39_11, F_39_12, F_39_13, A_2, A_4, A_6, A_7, A_8, A_9, A_10, A_11, A_13, A_15, A_16, A_17, A_18, A_19, A_20, A_22, A_23, A_24, A_25, A_26, A_27, A_29, A_30, A_31, A_32, A_33, A_34, A_36, A_37, A_38, A_40, A_41, A_42, A_43, A_44, A_45, A_46, A_47]
    refine ⟨0, by omega, rfl, ?_⟩
    rw [hn]
    simp (disch := omega) only [nI_leI, nI_ltI, nI_eq, nI_1, nI_add, one_shl, nI_or, nI_xor, nI_and, bit_0, bit_1, true_or, or_true, true_and, and_true, eq_self, not_true_eq_false, not_false_eq_true, forall_const]
    refine ⟨fun z => ?_, fun z => ⟨9 + i, by omega, nI_add 9 i, ?_⟩⟩
    · rw [show n = i by omega] at h; exact h
    · rw [hhk i (by omega)]
      refine ⟨fun q => cut _ _ ⟨rfl, rfl, rfl, i + 1, by omega, rfl, rfl⟩ (by omega) ⟨rfl, vi_eq ?_, rfl, trivial⟩, fun q => cut _ _ ⟨rfl, rfl, rfl, i + 1, by omega, rfl, rfl⟩ (by omega) ⟨rfl, vi_eq ?_, rfl, trivial⟩⟩
      · rw [or_0]; unfold us; rw [mk_0 (by simp [q])]
      · unfold us; rw [mk_1 (by simp [q])]
  · dsimp only [k_X5_all_0, k_X5_all_1, k_X5_all_2, k_X5_all_3, k_X5_all_4, k_X5_all_5, k_X5_all_6, k_X5_all_9, k_X5_all_10, k_X5_all_11, k_X5_all_14, k_X5_all_15, k_X5_all_16, k_X5_all_19, k_X5_all_21, k_X5_all_22, k_X5_all_23, k_X5_all_24, k_X5_all_26, k_X5_all_29, k_X5_all_30, k_X5_all_31, k_X5_all_32, k_X5_all_35, k_X5_all_36, k_X5_all_37, k_X5_all_38, k_X5_all_41, k_X5_all_44, k_X5_all_45, wp1, wp_s, cutIn, kont, Nat.reduceSub, Nat.reduceAdd, nth, o_const, o_lconst, o_ref, o_iload, o_lload, o_aload, o_istore, o_lstore, o_astore, o_iinc, o_bin, o_div, o_un, o_lbin, o_lsh, o_lcmp, o_i2l, o_l2i, o_if, o_icmp, o_goto, o_dup, o_dup2, o_pop, fav, o_getf, o_putI, o_putZ, o_putL, o_ald, o_ast, o_alen, popn, rst, o_callV, o_callT, o_callS, swx, o_sw, o_ret, o_iret, o_zret, o_cret, o_lret, o_aret, lg, lput, lput2, ls1, isL, entL, wsum, rdI1, rdI2, rdA1, rdA21, rdA22, rdL1, rdL22, rdL21, upN_at, rep, sh_0, F_0_0, F_0_1, F_0_2, F_0_3, F_0_4, F_0_5, F_0_6, F_0_7, F_0_8, sh_1, F_1_0, F_1_1, F_1_2, F_1_3, F_1_4, F_1_5, sh_3, F_3_0, F_3_1, F_3_2, F_3_3, F_3_4, F_3_5, sh_5, F_5_0, F_5_1, F_5_2, F_5_3, F_5_4, F_5_5, F_5_6, F_5_7, F_5_8, sh_12, F_12_0, F_12_1, F_12_2, F_12_3, F_12_4, F_12_5, sh_14, F_14_0, F_14_1, F_14_2, F_14_3, F_14_4, F_14_5, F_14_6, F_14_7, F_14_8, sh_21, F_21_0, F_21_1, F_21_2, F_21_3, F_21_4, F_21_5, F_21_6, F_21_7, F_21_8, sh_28, F_28_0, F_28_1, F_28_2, F_28_3, F_28_4, F_28_5, F_28_6, F_28_7, F_28_8, sh_35, F_35_0, sh_39, F_39_0, F_39_1, F_39_2, F_39_3, F_39_4, F_39_5, F_39_6, F_39_7, F_39_8, F_39_9, F_39_10, F_39_11, F_39_12, F_39_13, A_2, A_4, A_6, A_7, A_8, A_9, A_10, A_11, A_13, A_15, A_16, A_17, A_18, A_19, A_20, A_22, A_23, A_24, A_25, A_26, A_27, A_29, A_30, A_31, A_32, A_33, A_34, A_36, A_37, A_38, A_40, A_41, A_42, A_43, A_44, A_45, A_46, A_47]
    exact cut _ _ ⟨rfl, rfl, rfl, 0, by omega, rfl, rfl⟩ (by omega) ⟨rfl, rfl, rfl, trivial⟩
set_option maxRecDepth 100000 in
theorem v_X5_box : ∀ as M post, S_X5_box as M post → wsum as ≤ 3 ∧ RUN (T_X5_box post) 0 (entL 3 as) [] M := by
  rintro as M post ⟨n, c, p, r, h0, lk, rfl, ⟨hn, hn8, hc, hc6, hp, hp4, hr, hhk, hl⟩, h⟩
  refine ⟨by show 1 ≤ 3; omega, run_of [4] (fun μ pc lv st M' => pc = 4 ∧ st = [] ∧ M' = M ∧ ∃ i, i ≤ n ∧ 10 - i = μ ∧ lv = [some (VR 39), some (VI (nI (bx h0 i))), some (VI (nI i))]) 40 20 ?_ ?_⟩
  · rintro μ pc lv st M' ⟨rfl, rfl, rfl, i, hi, rfl, rfl⟩
    dsimp only [k_X5_box_0, k_X5_box_1, k_X5_box_2, k_X5_box_3, k_X5_box_4, k_X5_box_5, k_X5_box_6, k_X5_box_9, k_X5_box_10, k_X5_box_11, k_X5_box_14, k_X5_box_15, k_X5_box_16, k_X5_box_19, k_X5_box_21, k_X5_box_22, k_X5_box_23, k_X5_box_24, k_X5_box_26, k_X5_box_29, k_X5_box_30, k_X5_box_31, k_X5_box_32, k_X5_box_35, k_X5_box_36, k_X5_box_37, k_X5_box_38, k_X5_box_41, k_X5_box_44, k_X5_box_45, wp1, wp_s, cutIn, kont, Nat.reduceSub, Nat.reduceAdd, nth, o_const, o_lconst, o_ref, o_iload, o_lload, o_aload, o_istore, o_lstore, o_astore, o_iinc, o_bin, o_div, o_un, o_lbin, o_lsh, o_lcmp, o_i2l, o_l2i, o_if, o_icmp, o_goto, o_dup, o_dup2, o_pop, fav, o_getf, o_putI, o_putZ, o_putL, o_ald, o_ast, o_alen, popn, rst, o_callV, o_callT, o_callS, swx, o_sw, o_ret, o_iret, o_zret, o_cret, o_lret, o_aret, lg, lput, lput2, ls1, isL, entL, wsum, rdI1, rdI2, rdA1, rdA21, rdA22, rdL1, rdL22, rdL21, upN_at, rep, sh_0, F_0_0, F_0_1, F_0_2, F_0_3, F_0_4, F_0_5, F_0_6, F_0_7, F_0_8, sh_1, F_1_0, F_1_1, F_1_2, F_1_3, F_1_4, F_1_5, sh_3, F_3_0, F_3_1, F_3_2, F_3_3, F_3_4, F_3_5, sh_5, F_5_0, F_5_1, F_5_2, F_5_3, F_5_4, F_5_5, F_5_6, F_5_7, F_5_8, sh_12, F_12_0, F_12_1, F_12_2, F_12_3, F_12_4, F_12_5, sh_14, F_14_0, F_14_1, F_14_2, F_14_3, F_14_4, F_14_5, F_14_6, F_14_7, F_14_8, sh_21, F_21_0, F_21_1, F_21_2, F_21_3, F_21_4, F_21_5, F_21_6, F_21_7, F_21_8, sh_28, F_28_0, F_28_1, F_28_2, F_28_3, F_28_4, F_28_5, F_28_6, F_28_7, F_28_8, sh_35, F_35_0, sh_39, F_39_0, F_39_1, F_39_2, F_39_3, F_39_4, F_39_5, F_39_6, F_39_7, F_39_8, F_39_9, F_39_10, F_39_11, F_39_12, F_39_13, A_2, A_4, A_6, A_7, A_8, A_9, A_10, A_11, A_13, A_15, A_16, A_17, A_18, A_19, A_20, A_22, A_23, A_24, A_25, A_26, A_27, A_29, A_30, A_31, A_32, A_33, A_34, A_36, A_37, A_38, A_40, A_41, A_42, A_43, A_44, A_45, A_46, A_47]
    refine ⟨0, by omega, rfl, ?_⟩
    rw [hn]
    simp (disch := omega) only [nI_leI, nI_ltI, nI_eq, nI_1, nI_add, one_shl, nI_or, nI_xor, nI_and, bit_0, bit_1, true_or, or_true, true_and, and_true, eq_self, not_true_eq_false, not_false_eq_true, forall_const]
    refine ⟨fun z => ?_, fun z => ⟨9 + i, by omega, nI_add 9 i, ?_⟩⟩
    · rw [show n = i by omega] at h; exact h
    · rw [hhk i (by omega)]
      refine ⟨fun q => cut _ _ ⟨rfl, rfl, rfl, i + 1, by omega, rfl, rfl⟩ (by omega) ⟨rfl, vi_eq ?_, rfl, trivial⟩, fun q => cut _ _ ⟨rfl, rfl, rfl, i + 1, by omega, rfl, rfl⟩ (by omega) ⟨rfl, vi_eq ?_, rfl, trivial⟩⟩
      · unfold bx; rw [mk_1 (by simp [q])]
      · rw [or_0]; unfold bx; rw [mk_0 (by simp [q])]
  · dsimp only [k_X5_box_0, k_X5_box_1, k_X5_box_2, k_X5_box_3, k_X5_box_4, k_X5_box_5, k_X5_box_6, k_X5_box_9, k_X5_box_10, k_X5_box_11, k_X5_box_14, k_X5_box_15, k_X5_box_16, k_X5_box_19, k_X5_box_21, k_X5_box_22, k_X5_box_23, k_X5_box_24, k_X5_box_26, k_X5_box_29, k_X5_box_30, k_X5_box_31, k_X5_box_32, k_X5_box_35, k_X5_box_36, k_X5_box_37, k_X5_box_38, k_X5_box_41, k_X5_box_44, k_X5_box_45, wp1, wp_s, cutIn, kont, Nat.reduceSub, Nat.reduceAdd, nth, o_const, o_lconst, o_ref, o_iload, o_lload, o_aload, o_istore, o_lstore, o_astore, o_iinc, o_bin, o_div, o_un, o_lbin, o_lsh, o_lcmp, o_i2l, o_l2i, o_if, o_icmp, o_goto, o_dup, o_dup2, o_pop, fav, o_getf, o_putI, o_putZ, o_putL, o_ald, o_ast, o_alen, popn, rst, o_callV, o_callT, o_callS, swx, o_sw, o_ret, o_iret, o_zret, o_cret, o_lret, o_aret, lg, lput, lput2, ls1, isL, entL, wsum, rdI1, rdI2, rdA1, rdA21, rdA22, rdL1, rdL22, rdL21, upN_at, rep, sh_0, F_0_0, F_0_1, F_0_2, F_0_3, F_0_4, F_0_5, F_0_6, F_0_7, F_0_8, sh_1, F_1_0, F_1_1, F_1_2, F_1_3, F_1_4, F_1_5, sh_3, F_3_0, F_3_1, F_3_2, F_3_3, F_3_4, F_3_5, sh_5, F_5_0, F_5_1, F_5_2, F_5_3, F_5_4, F_5_5, F_5_6, F_5_7, F_5_8, sh_12, F_12_0, F_12_1, F_12_2, F_12_3, F_12_4, F_12_5, sh_14, F_14_0, F_14_1, F_14_2, F_14_3, F_14_4, F_14_5, F_14_6, F_14_7, F_14_8, sh_21, F_21_0, F_21_1, F_21_2, F_21_3, F_21_4, F_21_5, F_21_6, F_21_7, F_21_8, sh_28, F_28_0, F_28_1, F_28_2, F_28_3, F_28_4, F_28_5, F_28_6, F_28_7, F_28_8, sh_35, F_35_0, sh_39, F_39_0, F_39_1, F_39_2, F_39_3, F_39_4, F_39_5, F_39_6, F_39_7, F_39_8, F_39_9, F_39_10, F_39_11, F_39_12, F_39_13, A_2, A_4, A_6, A_7, A_8, A_9, A_10, A_11, A_13, A_15, A_16, A_17, A_18, A_19, A_20, A_22, A_23, A_24, A_25, A_26, A_27, A_29, A_30, A_31, A_32, A_33, A_34, A_36, A_37, A_38, A_40, A_41, A_42, A_43, A_44, A_45, A_46, A_47]
    exact cut _ _ ⟨rfl, rfl, rfl, 0, by omega, rfl, rfl⟩ (by omega) ⟨rfl, rfl, rfl, trivial⟩
theorem xr_n {f : Nat → Nat} {T n : Nat} (hT : T < 2 ^ n) : ∀ d, xrN f T (n + d) = xrN f T n := by
  intro d
  induction d with
  | zero => rfl
  | succ d ih =>
    rw [← Nat.add_assoc, xrN, if_neg (by rw [Nat.testBit_lt_two_pow (Nat.lt_of_lt_of_le hT (Nat.pow_le_pow_right (by omega) (by omega)))]; decide)]
    exact ih
set_option maxRecDepth 100000 in
theorem v_X5_rowOf : ∀ as M post, S_X5_rowOf as M post → wsum as ≤ 4 ∧ RUN (T_X5_rowOf post) 0 (entL 4 as) [] M := by
  rintro as M post ⟨T, n, c, p, r, h0, lk, rfl, hT, ⟨hn, hn8, hc, hc6, hp, hp4, hr, hhk, hl⟩, h⟩
  have hT8 : T < 256 := Nat.lt_of_lt_of_le hT (Nat.pow_le_pow_right (n := 2) (by omega) hn8)
  refine ⟨by show 2 ≤ 4; omega, run_of [4] (fun μ pc lv st M' => pc = 4 ∧ st = [] ∧ M' = M ∧ ∃ i, i ≤ 8 ∧ 10 - i = μ ∧ lv = [some (VR 39), some (VI (nI T)), some (VI (nI (xrN r T i))), some (VI (nI i))]) 40 20 ?_ ?_⟩
  · rintro μ pc lv st M' ⟨rfl, rfl, rfl, i, hi, rfl, rfl⟩
    dsimp only [k_X5_rowOf_0, k_X5_rowOf_1, k_X5_rowOf_2, k_X5_rowOf_3, k_X5_rowOf_4, k_X5_rowOf_5, k_X5_rowOf_7, k_X5_rowOf_10, k_X5_rowOf_11, k_X5_rowOf_12, k_X5_rowOf_13, k_X5_rowOf_14, k_X5_rowOf_15, k_X5_rowOf_16, k_X5_rowOf_17, k_X5_rowOf_20, k_X5_rowOf_21, k_X5_rowOf_24, k_X5_rowOf_25, k_X5_rowOf_26, k_X5_rowOf_27, k_X5_rowOf_28, k_X5_rowOf_31, k_X5_rowOf_32, k_X5_rowOf_33, k_X5_rowOf_34, k_X5_rowOf_37, k_X5_rowOf_40, k_X5_rowOf_41, wp1, wp_s, cutIn, kont, Nat.reduceSub, Nat.reduceAdd, nth, o_const, o_lconst, o_ref, o_iload, o_lload, o_aload, o_istore, o_lstore, o_astore, o_iinc, o_bin, o_div, o_un, o_lbin, o_lsh, o_lcmp, o_i2l, o_l2i, o_if, o_icmp, o_goto, o_dup, o_dup2, o_pop, fav, o_getf, o_putI, o_putZ, o_putL, o_ald, o_ast, o_alen, popn, rst, o_callV, o_callT, o_callS, swx, o_sw, o_ret, o_iret, o_zret, o_cret, o_lret, o_aret, lg, lput, lput2, ls1, isL, entL, wsum, rdI1, rdI2, rdA1, rdA21, rdA22, rdL1, rdL22, rdL21, upN_at, rep, sh_0, F_0_0, F_0_1, F_0_2, F_0_3, F_0_4, F_0_5, F_0_6, F_0_7, F_0_8, sh_1, F_1_0, F_1_1, F_1_2, F_1_3, F_1_4, F_1_5, sh_3, F_3_0, F_3_1, F_3_2, F_3_3, F_3_4, F_3_5, sh_5, F_5_0, F_5_1, F_5_2, F_5_3, F_5_4, F_5_5, F_5_6, F_5_7, F_5_8, sh_12, F_12_0, F_12_1, F_12_2, F_12_3, F_12_4, F_12_5, sh_14, F_14_0, F_14_1, F_14_2, F_14_3, F_14_4, F_14_5, F_14_6, F_14_7, F_14_8, sh_21, F_21_0, F_21_1, F_21_2, F_21_3, F_21_4, F_21_5, F_21_6, F_21_7, F_21_8, sh_28, F_28_0, F_28_1, F_28_2, F_28_3, F_28_4, F_28_5, F_28_6, F_28_7, F_28_8, sh_35, F_35_0, sh_39, F_39_0, F_39_1, F_39_2, F_39_3, F_39_4, F_39_5, F_39_6, F_39_7, F_39_8, F_39_9, F_39_10, F_39_11, F_39_12, F_39_13, A_2, A_4, A_6, A_7, A_8, A_9, A_10, A_11, A_13, A_15, A_16, A_17, A_18, A_19, A_20, A_22, A_23, A_24, A_25, A_26, A_27, A_29, A_30, A_31, A_32, A_33, A_34, A_36, A_37, A_38, A_40, A_41, A_42, A_43, A_44, A_45, A_46, A_47]
    rw [show (8 : Int32) = nI 8 from rfl]
    simp (disch := omega) only [nI_leI, nI_ltI, nI_eq, nI_1, nI_add, one_shl, nI_or, nI_xor, nI_and, bit_0, bit_1, true_or, or_true, true_and, and_true, eq_self, not_true_eq_false, not_false_eq_true, forall_const]
    refine ⟨fun z => ?_, fun z => ⟨fun q => ⟨1 + i, by omega, nI_add 1 i, cut _ _ ⟨rfl, rfl, rfl, i + 1, by omega, rfl, rfl⟩ (by omega) ⟨rfl, rfl, vi_eq ?_, rfl, trivial⟩⟩, fun q => cut _ _ ⟨rfl, rfl, rfl, i + 1, by omega, rfl, rfl⟩ (by omega) ⟨rfl, rfl, vi_eq ?_, rfl, trivial⟩⟩⟩
    · obtain ⟨d, hd⟩ := Nat.exists_eq_add_of_le hn8
      have e := xr_n (f := r) hT d
      rw [← hd] at e
      rw [show i = 8 by omega, e]; exact h
    · have q' : T.testBit i = true := by simpa using q
      have hin : i < n := by
        rcases Nat.lt_or_ge i n with g | g
        · exact g
        · rw [Nat.testBit_lt_two_pow (Nat.lt_of_lt_of_le hT (Nat.pow_le_pow_right (by omega) g))] at q'; cases q'
      rw [(hr i hin).1, nI_xor, xrN, if_pos q']
    · rw [xor_0, xrN, if_neg (by simpa using q)]
  · dsimp only [k_X5_rowOf_0, k_X5_rowOf_1, k_X5_rowOf_2, k_X5_rowOf_3, k_X5_rowOf_4, k_X5_rowOf_5, k_X5_rowOf_7, k_X5_rowOf_10, k_X5_rowOf_11, k_X5_rowOf_12, k_X5_rowOf_13, k_X5_rowOf_14, k_X5_rowOf_15, k_X5_rowOf_16, k_X5_rowOf_17, k_X5_rowOf_20, k_X5_rowOf_21, k_X5_rowOf_24, k_X5_rowOf_25, k_X5_rowOf_26, k_X5_rowOf_27, k_X5_rowOf_28, k_X5_rowOf_31, k_X5_rowOf_32, k_X5_rowOf_33, k_X5_rowOf_34, k_X5_rowOf_37, k_X5_rowOf_40, k_X5_rowOf_41, wp1, wp_s, cutIn, kont, Nat.reduceSub, Nat.reduceAdd, nth, o_const, o_lconst, o_ref, o_iload, o_lload, o_aload, o_istore, o_lstore, o_astore, o_iinc, o_bin, o_div, o_un, o_lbin, o_lsh, o_lcmp, o_i2l, o_l2i, o_if, o_icmp, o_goto, o_dup, o_dup2, o_pop, fav, o_getf, o_putI, o_putZ, o_putL, o_ald, o_ast, o_alen, popn, rst, o_callV, o_callT, o_callS, swx, o_sw, o_ret, o_iret, o_zret, o_cret, o_lret, o_aret, lg, lput, lput2, ls1, isL, entL, wsum, rdI1, rdI2, rdA1, rdA21, rdA22, rdL1, rdL22, rdL21, upN_at, rep, sh_0, F_0_0, F_0_1, F_0_2, F_0_3, F_0_4, F_0_5, F_0_6, F_0_7, F_0_8, sh_1, F_1_0, F_1_1, F_1_2, F_1_3, F_1_4, F_1_5, sh_3, F_3_0, F_3_1, F_3_2, F_3_3, F_3_4, F_3_5, sh_5, F_5_0, F_5_1, F_5_2, F_5_3, F_5_4, F_5_5, F_5_6, F_5_7, F_5_8, sh_12, F_12_0, F_12_1, F_12_2, F_12_3, F_12_4, F_12_5, sh_14, F_14_0, F_14_1, F_14_2, F_14_3, F_14_4, F_14_5, F_14_6, F_14_7, F_14_8, sh_21, F_21_0, F_21_1, F_21_2, F_21_3, F_21_4, F_21_5, F_21_6, F_21_7, F_21_8, sh_28, F_28_0, F_28_1, F_28_2, F_28_3, F_28_4, F_28_5, F_28_6, F_28_7, F_28_8, sh_35, F_35_0, sh_39, F_39_0, F_39_1, F_39_2, F_39_3, F_39_4, F_39_5, F_39_6, F_39_7, F_39_8, F_39_9, F_39_10, F_39_11, F_39_12, F_39_13, A_2, A_4, A_6, A_7, A_8, A_9, A_10, A_11, A_13, A_15, A_16, A_17, A_18, A_19, A_20, A_22, A_23, A_24, A_25, A_26, A_27, A_29, A_30, A_31, A_32, A_33, A_34, A_36, A_37, A_38, A_40, A_41, A_42, A_43, A_44, A_45, A_46, A_47]
    exact cut _ _ ⟨rfl, rfl, rfl, 0, by omega, rfl, rfl⟩ (by omega) ⟨rfl, rfl, rfl, rfl, trivial⟩
theorem bit_v {T i : Nat} (hT : T < 2 ^ 31) (hi : i < 31) : (nI T >>> (nI i &&& 31)) &&& 1 = nI (if T.testBit i = true then 1 else 0) := by
  cases hb : T.testBit i with
  | true => rw [if_pos rfl]; exact (bit_1 hT (by omega)).mpr hb
  | false => rw [if_neg (by decide)]; exact (bit_0 hT (by omega)).mpr hb
set_option maxRecDepth 100000 in
theorem v_X5_ones : ∀ as M post, S_X5_ones as M post → wsum as ≤ 3 ∧ RUN (T_X5_ones post) 0 (entL 3 as) [] M := by
  rintro as M post ⟨T, rfl, hT, h⟩
  refine ⟨by show 1 ≤ 3; omega, run_of [4] (fun μ pc lv st M' => pc = 4 ∧ st = [] ∧ M' = M ∧ ∃ i, i ≤ 9 ∧ 10 - i = μ ∧ lv = [some (VI (nI T)), some (VI (nI (cn T i))), some (VI (nI i))]) 40 20 ?_ ?_⟩
  · rintro μ pc lv st M' ⟨rfl, rfl, rfl, i, hi, rfl, rfl⟩
    dsimp only [k_X5_ones_0, k_X5_ones_1, k_X5_ones_2, k_X5_ones_3, k_X5_ones_4, k_X5_ones_5, k_X5_ones_7, k_X5_ones_10, k_X5_ones_11, k_X5_ones_12, k_X5_ones_13, k_X5_ones_14, k_X5_ones_15, k_X5_ones_16, k_X5_ones_17, k_X5_ones_18, k_X5_ones_21, k_X5_ones_24, k_X5_ones_25, wp1, wp_s, cutIn, kont, Nat.reduceSub, Nat.reduceAdd, nth, o_const, o_lconst, o_ref, o_iload, o_lload, o_aload, o_istore, o_lstore, o_astore, o_iinc, o_bin, o_div, o_un, o_lbin, o_lsh, o_lcmp, o_i2l, o_l2i, o_if, o_icmp, o_goto, o_dup, o_dup2, o_pop, fav, o_getf, o_putI, o_putZ, o_putL, o_ald, o_ast, o_alen, popn, rst, o_callV, o_callT, o_callS, swx, o_sw, o_ret, o_iret, o_zret, o_cret, o_lret, o_aret, lg, lput, lput2, ls1, isL, entL, wsum, rdI1, rdI2, rdA1, rdA21, rdA22, rdL1, rdL22, rdL21, upN_at, rep, sh_0, F_0_0, F_0_1, F_0_2, F_0_3, F_0_4, F_0_5, F_0_6, F_0_7, F_0_8, sh_1, F_1_0, F_1_1, F_1_2, F_1_3, F_1_4, F_1_5, sh_3, F_3_0, F_3_1, F_3_2, F_3_3, F_3_4, F_3_5, sh_5, F_5_0, F_5_1, F_5_2, F_5_3, F_5_4, F_5_5, F_5_6, F_5_7, F_5_8, sh_12, F_12_0, F_12_1, F_12_2, F_12_3, F_12_4, F_12_5, sh_14, F_14_0, F_14_1, F_14_2, F_14_3, F_14_4, F_14_5, F_14_6, F_14_7, F_14_8, sh_21, F_21_0, F_21_1, F_21_2, F_21_3, F_21_4, F_21_5, F_21_6, F_21_7, F_21_8, sh_28, F_28_0, F_28_1, F_28_2, F_28_3, F_28_4, F_28_5, F_28_6, F_28_7, F_28_8, sh_35, F_35_0, sh_39, F_39_0, F_39_1, F_39_2, F_39_3, F_39_4, F_39_5, F_39_6, F_39_7, F_39_8, F_39_9, F_39_10, F_39_11, F_39_12, F_39_13, A_2, A_4, A_6, A_7, A_8, A_9, A_10, A_11, A_13, A_15, A_16, A_17, A_18, A_19, A_20, A_22, A_23, A_24, A_25, A_26, A_27, A_29, A_30, A_31, A_32, A_33, A_34, A_36, A_37, A_38, A_40, A_41, A_42, A_43, A_44, A_45, A_46, A_47]
    rw [show (9 : Int32) = nI 9 from rfl]
    simp (disch := omega) only [nI_leI, nI_ltI, nI_eq, nI_1, nI_add, one_shl, nI_or, nI_xor, nI_and, bit_0, bit_1, true_or, or_true, true_and, and_true, eq_self, not_true_eq_false, not_false_eq_true, forall_const]
    refine ⟨fun z => ?_, fun z => cut _ _ ⟨rfl, rfl, rfl, i + 1, by omega, rfl, rfl⟩ (by omega) ⟨rfl, vi_eq ?_, rfl, trivial⟩⟩
    · rw [show 9 = i by omega] at h; exact h
    · rw [bit_v hT (by omega), nI_add, cn]
  · dsimp only [k_X5_ones_0, k_X5_ones_1, k_X5_ones_2, k_X5_ones_3, k_X5_ones_4, k_X5_ones_5, k_X5_ones_7, k_X5_ones_10, k_X5_ones_11, k_X5_ones_12, k_X5_ones_13, k_X5_ones_14, k_X5_ones_15, k_X5_ones_16, k_X5_ones_17, k_X5_ones_18, k_X5_ones_21, k_X5_ones_24, k_X5_ones_25, wp1, wp_s, cutIn, kont, Nat.reduceSub, Nat.reduceAdd, nth, o_const, o_lconst, o_ref, o_iload, o_lload, o_aload, o_istore, o_lstore, o_astore, o_iinc, o_bin, o_div, o_un, o_lbin, o_lsh, o_lcmp, o_i2l, o_l2i, o_if, o_icmp, o_goto, o_dup, o_dup2, o_pop, fav, o_getf, o_putI, o_putZ, o_putL, o_ald, o_ast, o_alen, popn, rst, o_callV, o_callT, o_callS, swx, o_sw, o_ret, o_iret, o_zret, o_cret, o_lret, o_aret, lg, lput, lput2, ls1, isL, entL, wsum, rdI1, rdI2, rdA1, rdA21, rdA22, rdL1, rdL22, rdL21, upN_at, rep, sh_0, F_0_0, F_0_1, F_0_2, F_0_3, F_0_4, F_0_5, F_0_6, F_0_7, F_0_8, sh_1, F_1_0, F_1_1, F_1_2, F_1_3, F_1_4, F_1_5, sh_3, F_3_0, F_3_1, F_3_2, F_3_3, F_3_4, F_3_5, sh_5, F_5_0, F_5_1, F_5_2, F_5_3, F_5_4, F_5_5, F_5_6, F_5_7, F_5_8, sh_12, F_12_0, F_12_1, F_12_2, F_12_3, F_12_4, F_12_5, sh_14, F_14_0, F_14_1, F_14_2, F_14_3, F_14_4, F_14_5, F_14_6, F_14_7, F_14_8, sh_21, F_21_0, F_21_1, F_21_2, F_21_3, F_21_4, F_21_5, F_21_6, F_21_7, F_21_8, sh_28, F_28_0, F_28_1, F_28_2, F_28_3, F_28_4, F_28_5, F_28_6, F_28_7, F_28_8, sh_35, F_35_0, sh_39, F_39_0, F_39_1, F_39_2, F_39_3, F_39_4, F_39_5, F_39_6, F_39_7, F_39_8, F_39_9, F_39_10, F_39_11, F_39_12, F_39_13, A_2, A_4, A_6, A_7, A_8, A_9, A_10, A_11, A_13, A_15, A_16, A_17, A_18, A_19, A_20, A_22, A_23, A_24, A_25, A_26, A_27, A_29, A_30, A_31, A_32, A_33, A_34, A_36, A_37, A_38, A_40, A_41, A_42, A_43, A_44, A_45, A_46, A_47]
    exact cut _ _ ⟨rfl, rfl, rfl, 0, by omega, rfl, rfl⟩ (by omega) ⟨rfl, rfl, rfl, trivial⟩
set_option maxRecDepth 100000 in
theorem v_X5_lock : ∀ as M post, S_X5_lock as M post → wsum as ≤ 2 ∧ RUN (T_X5_lock post) 0 (entL 2 as) [] M := by
  rintro as M post ⟨x, n, c, p, r, h0, lk, rfl, hX, h1, h2⟩
  have hX0 := hX
  obtain ⟨hn, hn8, hc, hc6, hp, hp4, hr, hhk, hl⟩ := hX
  refine ⟨by show 2 ≤ 2; omega, run_wp 60 ?_⟩
  dsimp only [k_X5_lock_0, k_X5_lock_1, k_X5_lock_2, k_X5_lock_5, k_X5_lock_8, k_X5_lock_9, k_X5_lock_12, k_X5_lock_13, k_X5_lock_14, k_X5_lock_15, k_X5_lock_16, k_X5_lock_19, k_X5_lock_20, wp1, wp_s, cutIn, kont, Nat.reduceSub, Nat.reduceAdd, nth, o_const, o_lconst, o_ref, o_iload, o_lload, o_aload, o_istore, o_lstore, o_astore, o_iinc, o_bin, o_div, o_un, o_lbin, o_lsh, o_lcmp, o_i2l, o_l2i, o_if, o_icmp, o_goto, o_dup, o_dup2, o_pop, fav, o_getf, o_putI, o_putZ, o_putL, o_ald, o_ast, o_alen, popn, rst, o_callV, o_callT, o_callS, swx, o_sw, o_ret, o_iret, o_zret, o_cret, o_lret, o_aret, lg, lput, lput2, ls1, isL, entL, wsum, rdI1, rdI2, rdA1, rdA21, rdA22, rdL1, rdL22, rdL21, upN_at, rep, sh_0, F_0_0, F_0_1, F_0_2, F_0_3, F_0_4, F_0_5, F_0_6, F_0_7, F_0_8, sh_1, F_1_0, F_1_1, F_1_2, F_1_3, F_1_4, F_1_5, sh_3, F_3_0, F_3_1, F_3_2, F_3_3, F_3_4, F_3_5, sh_5, F_5_0, F_5_1, F_5_2, F_5_3, F_5_4, F_5_5, F_5_6, F_5_7, F_5_8, sh_12, F_12_0, F_12_1, F_12_2, F_12_3, F_12_4, F_12_5, sh_14, F_14_0, F_14_1, F_14_2, F_14_3, F_14_4, F_14_5, F_14_6, F_14_7, F_14_8, sh_21, F_21_0, F_21_1, F_21_2, F_21_3, F_21_4, F_21_5, F_21_6, F_21_7, F_21_8, sh_28, F_28_0, F_28_1, F_28_2, F_28_3, F_28_4, F_28_5, F_28_6, F_28_7, F_28_8, sh_35, F_35_0, sh_39, F_39_0, F_39_1, F_39_2, F_39_3, F_39_4, F_39_5, F_39_6, F_39_7, F_39_8, F_39_9, F_39_10, F_39_11, F_39_12, F_39_13, A_2, A_4, A_6, A_7, A_8, A_9, A_10, A_11, A_13, A_15, A_16, A_17, A_18, A_19, A_20, A_22, A_23, A_24, A_25, A_26, A_27, A_29, A_30, A_31, A_32, A_33, A_34, A_36, A_37, A_38, A_40, A_41, A_42, A_43, A_44, A_45, A_46, A_47]
  refine ⟨x, n, c, p, r, h0, lk, rfl, hX0, fun z => ?_, fun z => ?_⟩
  · obtain ⟨l, rfl, hlc⟩ := rg (by omega) z
    dsimp only [k_X5_lock_0, k_X5_lock_1, k_X5_lock_2, k_X5_lock_5, k_X5_lock_8, k_X5_lock_9, k_X5_lock_12, k_X5_lock_13, k_X5_lock_14, k_X5_lock_15, k_X5_lock_16, k_X5_lock_19, k_X5_lock_20, wp1, wp_s, cutIn, kont, Nat.reduceSub, Nat.reduceAdd, nth, o_const, o_lconst, o_ref, o_iload, o_lload, o_aload, o_istore, o_lstore, o_astore, o_iinc, o_bin, o_div, o_un, o_lbin, o_lsh, o_lcmp, o_i2l, o_l2i, o_if, o_icmp, o_goto, o_dup, o_dup2, o_pop, fav, o_getf, o_putI, o_putZ, o_putL, o_ald, o_ast, o_alen, popn, rst, o_callV, o_callT, o_callS, swx, o_sw, o_ret, o_iret, o_zret, o_cret, o_lret, o_aret, lg, lput, lput2, ls1, isL, entL, wsum, rdI1, rdI2, rdA1, rdA21, rdA22, rdL1, rdL22, rdL21, upN_at, rep, sh_0, F_0_0, F_0_1, F_0_2, F_0_3, F_0_4, F_0_5, F_0_6, F_0_7, F_0_8, sh_1, F_1_0, F_1_1, F_1_2, F_1_3, F_1_4, F_1_5, sh_3, F_3_0, F_3_1, F_3_2, F_3_3, F_3_4, F_3_5, sh_5, F_5_0, F_5_1, F_5_2, F_5_3, F_5_4, F_5_5, F_5_6, F_5_7, F_5_8, sh_12, F_12_0, F_12_1, F_12_2, F_12_3, F_12_4, F_12_5, sh_14, F_14_0, F_14_1, F_14_2, F_14_3, F_14_4, F_14_5, F_14_6, F_14_7, F_14_8, sh_21, F_21_0, F_21_1, F_21_2, F_21_3, F_21_4, F_21_5, F_21_6, F_21_7, F_21_8, sh_28, F_28_0, F_28_1, F_28_2, F_28_3, F_28_4, F_28_5, F_28_6, F_28_7, F_28_8, sh_35, F_35_0, sh_39, F_39_0, F_39_1, F_39_2, F_39_3, F_39_4, F_39_5, F_39_6, F_39_7, F_39_8, F_39_9, F_39_10, F_39_11, F_39_12, F_39_13, A_2, A_4, A_6, A_7, A_8, A_9, A_10, A_11, A_13, A_15, A_16, A_17, A_18, A_19, A_20, A_22, A_23, A_24, A_25, A_26, A_27, A_29, A_30, A_31, A_32, A_33, A_34, A_36, A_37, A_38, A_40, A_41, A_42, A_43, A_44, A_45, A_46, A_47]
    refine ⟨fun q => absurd q (by decide), fun _ => ⟨4 + l, by omega, nI_add 4 l, ?_⟩⟩
    rw [(hl l hlc).1]
    exact h2 l rfl hlc
  · dsimp only [k_X5_lock_0, k_X5_lock_1, k_X5_lock_2, k_X5_lock_5, k_X5_lock_8, k_X5_lock_9, k_X5_lock_12, k_X5_lock_13, k_X5_lock_14, k_X5_lock_15, k_X5_lock_16, k_X5_lock_19, k_X5_lock_20, wp1, wp_s, cutIn, kont, Nat.reduceSub, Nat.reduceAdd, nth, o_const, o_lconst, o_ref, o_iload, o_lload, o_aload, o_istore, o_lstore, o_astore, o_iinc, o_bin, o_div, o_un, o_lbin, o_lsh, o_lcmp, o_i2l, o_l2i, o_if, o_icmp, o_goto, o_dup, o_dup2, o_pop, fav, o_getf, o_putI, o_putZ, o_putL, o_ald, o_ast, o_alen, popn, rst, o_callV, o_callT, o_callS, swx, o_sw, o_ret, o_iret, o_zret, o_cret, o_lret, o_aret, lg, lput, lput2, ls1, isL, entL, wsum, rdI1, rdI2, rdA1, rdA21, rdA22, rdL1, rdL22, rdL21, upN_at, rep, sh_0, F_0_0, F_0_1, F_0_2, F_0_3, F_0_4, F_0_5, F_0_6, F_0_7, F_0_8, sh_1, F_1_0, F_1_1, F_1_2, F_1_3, F_1_4, F_1_5, sh_3, F_3_0, F_3_1, F_3_2, F_3_3, F_3_4, F_3_5, sh_5, F_5_0, F_5_1, F_5_2, F_5_3, F_5_4, F_5_5, F_5_6, F_5_7, F_5_8, sh_12, F_12_0, F_12_1, F_12_2, F_12_3, F_12_4, F_12_5, sh_14, F_14_0, F_14_1, F_14_2, F_14_3, F_14_4, F_14_5, F_14_6, F_14_7, F_14_8, sh_21, F_21_0, F_21_1, F_21_2, F_21_3, F_21_4, F_21_5, F_21_6, F_21_7, F_21_8, sh_28, F_28_0, F_28_1, F_28_2, F_28_3, F_28_4, F_28_5, F_28_6, F_28_7, F_28_8, sh_35, F_35_0, sh_39, F_39_0, F_39_1, F_39_2, F_39_3, F_39_4, F_39_5, F_39_6, F_39_7, F_39_8, F_39_9, F_39_10, F_39_11, F_39_12, F_39_13, A_2, A_4, A_6, A_7, A_8, A_9, A_10, A_11, A_13, A_15, A_16, A_17, A_18, A_19, A_20, A_22, A_23, A_24, A_25, A_26, A_27, A_29, A_30, A_31, A_32, A_33, A_34, A_36, A_37, A_38, A_40, A_41, A_42, A_43, A_44, A_45, A_46, A_47]
    exact ⟨fun _ => h1 z, fun q => absurd rfl q⟩
set_option maxRecDepth 100000 in
theorem v_X5_key : ∀ as M post, S_X5_key as M post → wsum as ≤ 3 ∧ RUN (T_X5_key post) 0 (entL 3 as) [] M := by
  rintro as M post ⟨x, w, n, c, p, r, h0, lk, rfl, hX, h1, h2, h3⟩
  have hX0 := hX
  obtain ⟨hn, hn8, hc, hc6, hp, hp4, hr, hhk, hl⟩ := hX
  refine ⟨by show 3 ≤ 3; omega, run_wp 60 ?_⟩
  dsimp only [k_X5_key_0, k_X5_key_1, k_X5_key_2, k_X5_key_5, k_X5_key_8, k_X5_key_9, k_X5_key_10, k_X5_key_11, k_X5_key_14, k_X5_key_17, k_X5_key_18, k_X5_key_19, k_X5_key_20, k_X5_key_23, k_X5_key_24, k_X5_key_27, k_X5_key_28, k_X5_key_29, k_X5_key_30, k_X5_key_31, k_X5_key_34, k_X5_key_35, k_X5_key_38, k_X5_key_40, k_X5_key_41, k_X5_key_42, k_X5_key_43, wp1, wp_s, cutIn, kont, Nat.reduceSub, Nat.reduceAdd, nth, o_const, o_lconst, o_ref, o_iload, o_lload, o_aload, o_istore, o_lstore, o_astore, o_iinc, o_bin, o_div, o_un, o_lbin, o_lsh, o_lcmp, o_i2l, o_l2i, o_if, o_icmp, o_goto, o_dup, o_dup2, o_pop, fav, o_getf, o_putI, o_putZ, o_putL, o_ald, o_ast, o_alen, popn, rst, o_callV, o_callT, o_callS, swx, o_sw, o_ret, o_iret, o_zret, o_cret, o_lret, o_aret, lg, lput, lput2, ls1, isL, entL, wsum, rdI1, rdI2, rdA1, rdA21, rdA22, rdL1, rdL22, rdL21, upN_at, rep, sh_0, F_0_0, F_0_1, F_0_2, F_0_3, F_0_4, F_0_5, F_0_6, F_0_7, F_0_8, sh_1, F_1_0, F_1_1, F_1_2, F_1_3, F_1_4, F_1_5, sh_3, F_3_0, F_3_1, F_3_2, F_3_3, F_3_4, F_3_5, sh_5, F_5_0, F_5_1, F_5_2, F_5_3, F_5_4, F_5_5, F_5_6, F_5_7, F_5_8, sh_12, F_12_0, F_12_1, F_12_2, F_12_3, F_12_4, F_12_5, sh_14, F_14_0, F_14_1, F_14_2, F_14_3, F_14_4, F_14_5, F_14_6, F_14_7, F_14_8, sh_21, F_21_0, F_21_1, F_21_2, F_21_3, F_21_4, F_21_5, F_21_6, F_21_7, F_21_8, sh_28, F_28_0, F_28_1, F_28_2, F_28_3, F_28_4, F_28_5, F_28_6, F_28_7, F_28_8, sh_35, F_35_0, sh_39, F_39_0, F_39_1, F_39_2, F_39_3, F_39_4, F_39_5, F_39_6, F_39_7, F_39_8, F_39_9, F_39_10, F_39_11, F_39_12, F_39_13, A_2, A_4, A_6, A_7, A_8, A_9, A_10, A_11, A_13, A_15, A_16, A_17, A_18, A_19, A_20, A_22, A_23, A_24, A_25, A_26, A_27, A_29, A_30, A_31, A_32, A_33, A_34, A_36, A_37, A_38, A_40, A_41, A_42, A_43, A_44, A_45, A_46, A_47]
  refine ⟨x, n, c, p, r, h0, lk, rfl, hX0, fun z => ?_, fun z => ?_⟩
  · have hz := z
    obtain ⟨k, rfl, hk⟩ := rg (by omega) z
    dsimp only [k_X5_key_0, k_X5_key_1, k_X5_key_2, k_X5_key_5, k_X5_key_8, k_X5_key_9, k_X5_key_10, k_X5_key_11, k_X5_key_14, k_X5_key_17, k_X5_key_18, k_X5_key_19, k_X5_key_20, k_X5_key_23, k_X5_key_24, k_X5_key_27, k_X5_key_28, k_X5_key_29, k_X5_key_30, k_X5_key_31, k_X5_key_34, k_X5_key_35, k_X5_key_38, k_X5_key_40, k_X5_key_41, k_X5_key_42, k_X5_key_43, wp1, wp_s, cutIn, kont, Nat.reduceSub, Nat.reduceAdd, nth, o_const, o_lconst, o_ref, o_iload, o_lload, o_aload, o_istore, o_lstore, o_astore, o_iinc, o_bin, o_div, o_un, o_lbin, o_lsh, o_lcmp, o_i2l, o_l2i, o_if, o_icmp, o_goto, o_dup, o_dup2, o_pop, fav, o_getf, o_putI, o_putZ, o_putL, o_ald, o_ast, o_alen, popn, rst, o_callV, o_callT, o_callS, swx, o_sw, o_ret, o_iret, o_zret, o_cret, o_lret, o_aret, lg, lput, lput2, ls1, isL, entL, wsum, rdI1, rdI2, rdA1, rdA21, rdA22, rdL1, rdL22, rdL21, upN_at, rep, sh_0, F_0_0, F_0_1, F_0_2, F_0_3, F_0_4, F_0_5, F_0_6, F_0_7, F_0_8, sh_1, F_1_0, F_1_1, F_1_2, F_1_3, F_1_4, F_1_5, sh_3, F_3_0, F_3_1, F_3_2, F_3_3, F_3_4, F_3_5, sh_5, F_5_0, F_5_1, F_5_2, F_5_3, F_5_4, F_5_5, F_5_6, F_5_7, F_5_8, sh_12, F_12_0, F_12_1, F_12_2, F_12_3, F_12_4, F_12_5, sh_14, F_14_0, F_14_1, F_14_2, F_14_3, F_14_4, F_14_5, F_14_6, F_14_7, F_14_8, sh_21, F_21_0, F_21_1, F_21_2, F_21_3, F_21_4, F_21_5, F_21_6, F_21_7, F_21_8, sh_28, F_28_0, F_28_1, F_28_2, F_28_3, F_28_4, F_28_5, F_28_6, F_28_7, F_28_8, sh_35, F_35_0, sh_39, F_39_0, F_39_1, F_39_2, F_39_3, F_39_4, F_39_5, F_39_6, F_39_7, F_39_8, F_39_9, F_39_10, F_39_11, F_39_12, F_39_13, A_2, A_4, A_6, A_7, A_8, A_9, A_10, A_11, A_13, A_15, A_16, A_17, A_18, A_19, A_20, A_22, A_23, A_24, A_25, A_26, A_27, A_29, A_30, A_31, A_32, A_33, A_34, A_36, A_37, A_38, A_40, A_41, A_42, A_43, A_44, A_45, A_46, A_47]
    refine ⟨fun q => absurd q (by decide), fun _ => ⟨w, 0, 1, rfl, ?_⟩⟩
    unfold pz
    rw [i01]
    dsimp only [k_X5_key_0, k_X5_key_1, k_X5_key_2, k_X5_key_5, k_X5_key_8, k_X5_key_9, k_X5_key_10, k_X5_key_11, k_X5_key_14, k_X5_key_17, k_X5_key_18, k_X5_key_19, k_X5_key_20, k_X5_key_23, k_X5_key_24, k_X5_key_27, k_X5_key_28, k_X5_key_29, k_X5_key_30, k_X5_key_31, k_X5_key_34, k_X5_key_35, k_X5_key_38, k_X5_key_40, k_X5_key_41, k_X5_key_42, k_X5_key_43, wp1, wp_s, cutIn, kont, Nat.reduceSub, Nat.reduceAdd, nth, o_const, o_lconst, o_ref, o_iload, o_lload, o_aload, o_istore, o_lstore, o_astore, o_iinc, o_bin, o_div, o_un, o_lbin, o_lsh, o_lcmp, o_i2l, o_l2i, o_if, o_icmp, o_goto, o_dup, o_dup2, o_pop, fav, o_getf, o_putI, o_putZ, o_putL, o_ald, o_ast, o_alen, popn, rst, o_callV, o_callT, o_callS, swx, o_sw, o_ret, o_iret, o_zret, o_cret, o_lret, o_aret, lg, lput, lput2, ls1, isL, entL, wsum, rdI1, rdI2, rdA1, rdA21, rdA22, rdL1, rdL22, rdL21, upN_at, rep, sh_0, F_0_0, F_0_1, F_0_2, F_0_3, F_0_4, F_0_5, F_0_6, F_0_7, F_0_8, sh_1, F_1_0, F_1_1, F_1_2, F_1_3, F_1_4, F_1_5, sh_3, F_3_0, F_3_1, F_3_2, F_3_3, F_3_4, F_3_5, sh_5, F_5_0, F_5_1, F_5_2, F_5_3, F_5_4, F_5_5, F_5_6, F_5_7, F_5_8, sh_12, F_12_0, F_12_1, F_12_2, F_12_3, F_12_4, F_12_5, sh_14, F_14_0, F_14_1, F_14_2, F_14_3, F_14_4, F_14_5, F_14_6, F_14_7, F_14_8, sh_21, F_21_0, F_21_1, F_21_2, F_21_3, F_21_4, F_21_5, F_21_6, F_21_7, F_21_8, sh_28, F_28_0, F_28_1, F_28_2, F_28_3, F_28_4, F_28_5, F_28_6, F_28_7, F_28_8, sh_35, F_35_0, sh_39, F_39_0, F_39_1, F_39_2, F_39_3, F_39_4, F_39_5, F_39_6, F_39_7, F_39_8, F_39_9, F_39_10, F_39_11, F_39_12, F_39_13, A_2, A_4, A_6, A_7, A_8, A_9, A_10, A_11, A_13, A_15, A_16, A_17, A_18, A_19, A_20, A_22, A_23, A_24, A_25, A_26, A_27, A_29, A_30, A_31, A_32, A_33, A_34, A_36, A_37, A_38, A_40, A_41, A_42, A_43, A_44, A_45, A_46, A_47]
    refine ⟨fun q => ⟨fun q2 => absurd q2 (by decide), fun _ => ⟨fun q2 => ⟨1 + k, by omega, nI_add 1 k, ?_⟩, fun q2 => ⟨9 + k, by omega, nI_add 9 k, ?_⟩⟩⟩, fun q => ⟨fun _ => h1 fun q2 => q q2.2, fun q2 => absurd rfl q2⟩⟩
    · rw [(hr k hk).1]; exact h2 k rfl hk q2
    · rw [hhk k hk]; exact h3 k rfl hk (q.elim (fun q3 => absurd q3 q2) id)
  · dsimp only [k_X5_key_0, k_X5_key_1, k_X5_key_2, k_X5_key_5, k_X5_key_8, k_X5_key_9, k_X5_key_10, k_X5_key_11, k_X5_key_14, k_X5_key_17, k_X5_key_18, k_X5_key_19, k_X5_key_20, k_X5_key_23, k_X5_key_24, k_X5_key_27, k_X5_key_28, k_X5_key_29, k_X5_key_30, k_X5_key_31, k_X5_key_34, k_X5_key_35, k_X5_key_38, k_X5_key_40, k_X5_key_41, k_X5_key_42, k_X5_key_43, wp1, wp_s, cutIn, kont, Nat.reduceSub, Nat.reduceAdd, nth, o_const, o_lconst, o_ref, o_iload, o_lload, o_aload, o_istore, o_lstore, o_astore, o_iinc, o_bin, o_div, o_un, o_lbin, o_lsh, o_lcmp, o_i2l, o_l2i, o_if, o_icmp, o_goto, o_dup, o_dup2, o_pop, fav, o_getf, o_putI, o_putZ, o_putL, o_ald, o_ast, o_alen, popn, rst, o_callV, o_callT, o_callS, swx, o_sw, o_ret, o_iret, o_zret, o_cret, o_lret, o_aret, lg, lput, lput2, ls1, isL, entL, wsum, rdI1, rdI2, rdA1, rdA21, rdA22, rdL1, rdL22, rdL21, upN_at, rep, sh_0, F_0_0, F_0_1, F_0_2, F_0_3, F_0_4, F_0_5, F_0_6, F_0_7, F_0_8, sh_1, F_1_0, F_1_1, F_1_2, F_1_3, F_1_4, F_1_5, sh_3, F_3_0, F_3_1, F_3_2, F_3_3, F_3_4, F_3_5, sh_5, F_5_0, F_5_1, F_5_2, F_5_3, F_5_4, F_5_5, F_5_6, F_5_7, F_5_8, sh_12, F_12_0, F_12_1, F_12_2, F_12_3, F_12_4, F_12_5, sh_14, F_14_0, F_14_1, F_14_2, F_14_3, F_14_4, F_14_5, F_14_6, F_14_7, F_14_8, sh_21, F_21_0, F_21_1, F_21_2, F_21_3, F_21_4, F_21_5, F_21_6, F_21_7, F_21_8, sh_28, F_28_0, F_28_1, F_28_2, F_28_3, F_28_4, F_28_5, F_28_6, F_28_7, F_28_8, sh_35, F_35_0, sh_39, F_39_0, F_39_1, F_39_2, F_39_3, F_39_4, F_39_5, F_39_6, F_39_7, F_39_8, F_39_9, F_39_10, F_39_11, F_39_12, F_39_13, A_2, A_4, A_6, A_7, A_8, A_9, A_10, A_11, A_13, A_15, A_16, A_17, A_18, A_19, A_20, A_22, A_23, A_24, A_25, A_26, A_27, A_29, A_30, A_31, A_32, A_33, A_34, A_36, A_37, A_38, A_40, A_41, A_42, A_43, A_44, A_45, A_46, A_47]
    exact ⟨fun _ => h1 fun q => z q.1, fun q => absurd rfl q⟩
theorem c_X5_ones : Ctr yX5_ones cX5_ones 3 (some .int) ({ frames := 0, cells := 0, slots := 0, locals := 0 } : Room) S_X5_ones := ctr_of (T := T_X5_ones) (by decide +kernel) (fun post C hr => t_X5_ones post C hr) v_X5_ones
theorem c_X5_key : Ctr yX5_key cX5_key 3 (some .int) ({ frames := 2, cells := 0, slots := 0, locals := 43 } : Room) S_X5_key := ctr_of (T := T_X5_key) (by decide +kernel) (fun post C hr => t_X5_key post C hr) v_X5_key
theorem c_X5_lock : Ctr yX5_lock cX5_lock 2 (some .int) ({ frames := 2, cells := 0, slots := 0, locals := 43 } : Room) S_X5_lock := ctr_of (T := T_X5_lock) (by decide +kernel) (fun post C hr => t_X5_lock post C hr) v_X5_lock
theorem c_X5_all : Ctr yX5_all cX5_all 3 (some .int) ({ frames := 0, cells := 0, slots := 0, locals := 0 } : Room) S_X5_all := ctr_of (T := T_X5_all) (by decide +kernel) (fun post C hr => t_X5_all post C hr) v_X5_all
theorem c_X5_box : Ctr yX5_box cX5_box 3 (some .int) ({ frames := 0, cells := 0, slots := 0, locals := 0 } : Room) S_X5_box := ctr_of (T := T_X5_box) (by decide +kernel) (fun post C hr => t_X5_box post C hr) v_X5_box
theorem c_X5_rowOf : Ctr yX5_rowOf cX5_rowOf 4 (some .int) ({ frames := 0, cells := 0, slots := 0, locals := 0 } : Room) S_X5_rowOf := ctr_of (T := T_X5_rowOf) (by decide +kernel) (fun post C hr => t_X5_rowOf post C hr) v_X5_rowOf
def S_X5_isSet : SP := fun as M post => ∃ x n c p r h lk, as = [VR 39, VI x] ∧ MW M n c p r h lk ∧ pz (In x (us h n)) post M
theorem cw_RX5_104 : ∀ w ∈ ([.methodLink RX5 104 yX5_all, .instanceMethod yX5_all, .selects yX5_all.cls yX5_all yX5_all, .initialized yX5_all.cls, .code yX5_all cX5_all 3 (some .int)] : List Cond), w ∈ tb := tb_all [756, 758, 41, 59, 759] (by decide +kernel) (by decide +kernel)
theorem dX5_isSet_0 : decode cX5_isSet 0 = .ok (.iload_n 1, 1) := by decide +kernel
theorem dX5_isSet_1 : decode cX5_isSet 1 = .ok (.aload_n 0, 1) := by decide +kernel
theorem dX5_isSet_2 : decode cX5_isSet 2 = .ok (.invokevirtual 104, 3) := by decide +kernel
theorem dX5_isSet_5 : decode cX5_isSet 5 = .ok (.iconst (-1), 1) := by decide +kernel
theorem dX5_isSet_6 : decode cX5_isSet 6 = .ok (.ixor, 1) := by decide +kernel
theorem dX5_isSet_7 : decode cX5_isSet 7 = .ok (.iand, 1) := by decide +kernel
theorem dX5_isSet_8 : decode cX5_isSet 8 = .ok (.ifCond .ne 7, 3) := by decide +kernel
theorem dX5_isSet_11 : decode cX5_isSet 11 = .ok (.iconst 1, 1) := by decide +kernel
theorem dX5_isSet_12 : decode cX5_isSet 12 = .ok (.goto 4, 3) := by decide +kernel
theorem dX5_isSet_15 : decode cX5_isSet 15 = .ok (.iconst 0, 1) := by decide +kernel
theorem dX5_isSet_16 : decode cX5_isSet 16 = .ok (.ireturn, 1) := by decide +kernel
def T_X5_isSet (post : PO) : List (Nat × OP) := [(0, o_iload 1 1), (1, o_aload 0 2), (2, o_callV 5 S_X5_all 0 5), (5, o_const (-1) 6), (6, o_bin (fun x y => x ^^^ y) 7), (7, o_bin (fun x y => x &&& y) 8), (8, o_if (fun x => x = 0) 11 15), (11, o_const 1 12), (12, o_goto 16), (15, o_const 0 16), (16, o_zret post)]
theorem k_X5_isSet_0 (post : PO) : lk (T_X5_isSet post) 0 = o_iload 1 1 := rfl
theorem k_X5_isSet_1 (post : PO) : lk (T_X5_isSet post) 1 = o_aload 0 2 := rfl
theorem k_X5_isSet_2 (post : PO) : lk (T_X5_isSet post) 2 = o_callV 5 S_X5_all 0 5 := rfl
theorem k_X5_isSet_5 (post : PO) : lk (T_X5_isSet post) 5 = o_const (-1) 6 := rfl
theorem k_X5_isSet_6 (post : PO) : lk (T_X5_isSet post) 6 = o_bin (fun x y => x ^^^ y) 7 := rfl
theorem k_X5_isSet_7 (post : PO) : lk (T_X5_isSet post) 7 = o_bin (fun x y => x &&& y) 8 := rfl
theorem k_X5_isSet_8 (post : PO) : lk (T_X5_isSet post) 8 = o_if (fun x => x = 0) 11 15 := rfl
theorem k_X5_isSet_11 (post : PO) : lk (T_X5_isSet post) 11 = o_const 1 12 := rfl
theorem k_X5_isSet_12 (post : PO) : lk (T_X5_isSet post) 12 = o_goto 16 := rfl
theorem k_X5_isSet_15 (post : PO) : lk (T_X5_isSet post) 15 = o_const 0 16 := rfl
theorem k_X5_isSet_16 (post : PO) : lk (T_X5_isSet post) 16 = o_zret post := rfl
set_option maxRecDepth 100000 in
theorem t_X5_isSet {p : Program} {l : Launch} {e : Env} {s : State} {m : MethodId} {args : Array Value} {below : List Frame} {meth : Method} {c : Code} {D : va_G} {dA : Nat → ClassId} {ad : Nat → Nat} (post : PO) (C : CX p s m args meth c cX5_isSet 2 yX5_isSet.cls D dA ad (AA ad s.heap.size)) (hr : meth.sig.returnType = (some .boolean)) : SndL (WW p l e ({ frames := 1, cells := 0, slots := 0, locals := 22 } : Room) s m args below meth c 0 0 (MQ below (CQ D dA ad post (AA ad s.heap.size)) args s 0 0 (AA ad s.heap.size)) 2 D dA ad (AA ad s.heap.size)) (T_X5_isSet post) := by
  refine snd_c (s_iload_n C rfl dX5_isSet_0) ?_
  refine snd_c (s_aload_n C rfl dX5_isSet_1) ?_
  refine snd_c (s_callV C (ci := 5) c_X5_all rfl cw_RX5_104 ⟨rfl, rfl⟩ ⟨by decide +kernel, by decide +kernel, by decide +kernel⟩ ⟨by decide, by decide⟩ ⟨Nat.zero_le _, Nat.zero_le _⟩ dX5_isSet_2) ?_
  refine snd_c (s_iconst C dX5_isSet_5 rfl) ?_
  refine snd_c (s_ixor C dX5_isSet_6) ?_
  refine snd_c (s_iand C dX5_isSet_7) ?_
  refine snd_c (s_if_ne C dX5_isSet_8 (by decide)) ?_
  refine snd_c (s_iconst C dX5_isSet_11 rfl) ?_
  refine snd_c (s_goto C dX5_isSet_12 (by decide)) ?_
  refine snd_c (s_iconst C dX5_isSet_15 rfl) ?_
  refine snd_c (s_zret C hr ⟨rfl, rfl⟩ dX5_isSet_16) ?_
  exact trivial
set_option maxRecDepth 100000 in
theorem v_X5_isSet : ∀ as M post, S_X5_isSet as M post → wsum as ≤ 2 ∧ RUN (T_X5_isSet post) 0 (entL 2 as) [] M := by
  rintro as M post ⟨x, n, c, p, r, h0, lk, rfl, hX, h⟩
  refine ⟨by show 2 ≤ 2; omega, run_wp 60 ?_⟩
  dsimp only [k_X5_isSet_0, k_X5_isSet_1, k_X5_isSet_2, k_X5_isSet_5, k_X5_isSet_6, k_X5_isSet_7, k_X5_isSet_8, k_X5_isSet_11, k_X5_isSet_12, k_X5_isSet_15, k_X5_isSet_16, wp1, wp_s, cutIn, kont, Nat.reduceSub, Nat.reduceAdd, nth, o_const, o_lconst, o_ref, o_iload, o_lload, o_aload, o_istore, o_lstore, o_astore, o_iinc, o_bin, o_div, o_un, o_lbin, o_lsh, o_lcmp, o_i2l, o_l2i, o_if, o_icmp, o_goto, o_dup, o_dup2, o_pop, fav, o_getf, o_putI, o_putZ, o_putL, o_ald, o_ast, o_alen, popn, rst, o_callV, o_callT, o_callS, swx, o_sw, o_ret, o_iret, o_zret, o_cret, o_lret, o_aret, lg, lput, lput2, ls1, isL, entL, wsum, rdI1, rdI2, rdA1, rdA21, rdA22, rdL1, rdL22, rdL21, upN_at, rep, sh_0, F_0_0, F_0_1, F_0_2, F_0_3, F_0_4, F_0_5, F_0_6, F_0_7, F_0_8, sh_1, F_1_0, F_1_1, F_1_2, F_1_3, F_1_4, F_1_5, sh_3, F_3_0, F_3_1, F_3_2, F_3_3, F_3_4, F_3_5, sh_5, F_5_0, F_5_1, F_5_2, F_5_3, F_5_4, F_5_5, F_5_6, F_5_7, F_5_8, sh_12, F_12_0, F_12_1, F_12_2, F_12_3, F_12_4, F_12_5, sh_14, F_14_0, F_14_1, F_14_2, F_14_3, F_14_4, F_14_5, F_14_6, F_14_7, F_14_8, sh_21, F_21_0, F_21_1, F_21_2, F_21_3, F_21_4, F_21_5, F_21_6, F_21_7, F_21_8, sh_28, F_28_0, F_28_1, F_28_2, F_28_3, F_28_4, F_28_5, F_28_6, F_28_7, F_28_8, sh_35, F_35_0, sh_39, F_39_0, F_39_1, F_39_2, F_39_3, F_39_4, F_39_5, F_39_6, F_39_7, F_39_8, F_39_9, F_39_10, F_39_11, F_39_12, F_39_13, A_2, A_4, A_6, A_7, A_8, A_9, A_10, A_11, A_13, A_15, A_16, A_17, A_18, A_19, A_20, A_22, A_23, A_24, A_25, A_26, A_27, A_29, A_30, A_31, A_32, A_33, A_34, A_36, A_37, A_38, A_40, A_41, A_42, A_43, A_44, A_45, A_46, A_47]
  refine ⟨n, c, p, r, h0, lk, rfl, hX, ?_⟩
  dsimp only [k_X5_isSet_0, k_X5_isSet_1, k_X5_isSet_2, k_X5_isSet_5, k_X5_isSet_6, k_X5_isSet_7, k_X5_isSet_8, k_X5_isSet_11, k_X5_isSet_12, k_X5_isSet_15, k_X5_isSet_16, wp1, wp_s, cutIn, kont, Nat.reduceSub, Nat.reduceAdd, nth, o_const, o_lconst, o_ref, o_iload, o_lload, o_aload, o_istore, o_lstore, o_astore, o_iinc, o_bin, o_div, o_un, o_lbin, o_lsh, o_lcmp, o_i2l, o_l2i, o_if, o_icmp, o_goto, o_dup, o_dup2, o_pop, fav, o_getf, o_putI, o_putZ, o_putL, o_ald, o_ast, o_alen, popn, rst, o_callV, o_callT, o_callS, swx, o_sw, o_ret, o_iret, o_zret, o_cret, o_lret, o_aret, lg, lput, lput2, ls1, isL, entL, wsum, rdI1, rdI2, rdA1, rdA21, rdA22, rdL1, rdL22, rdL21, upN_at, rep, sh_0, F_0_0, F_0_1, F_0_2, F_0_3, F_0_4, F_0_5, F_0_6, F_0_7, F_0_8, sh_1, F_1_0, F_1_1, F_1_2, F_1_3, F_1_4, F_1_5, sh_3, F_3_0, F_3_1, F_3_2, F_3_3, F_3_4, F_3_5, sh_5, F_5_0, F_5_1, F_5_2, F_5_3, F_5_4, F_5_5, F_5_6, F_5_7, F_5_8, sh_12, F_12_0, F_12_1, F_12_2, F_12_3, F_12_4, F_12_5, sh_14, F_14_0, F_14_1, F_14_2, F_14_3, F_14_4, F_14_5, F_14_6, F_14_7, F_14_8, sh_21, F_21_0, F_21_1, F_21_2, F_21_3, F_21_4, F_21_5, F_21_6, F_21_7, F_21_8, sh_28, F_28_0, F_28_1, F_28_2, F_28_3, F_28_4, F_28_5, F_28_6, F_28_7, F_28_8, sh_35, F_35_0, sh_39, F_39_0, F_39_1, F_39_2, F_39_3, F_39_4, F_39_5, F_39_6, F_39_7, F_39_8, F_39_9, F_39_10, F_39_11, F_39_12, F_39_13, A_2, A_4, A_6, A_7, A_8, A_9, A_10, A_11, A_13, A_15, A_16, A_17, A_18, A_19, A_20, A_22, A_23, A_24, A_25, A_26, A_27, A_29, A_30, A_31, A_32, A_33, A_34, A_36, A_37, A_38, A_40, A_41, A_42, A_43, A_44, A_45, A_46, A_47]
  rw [In_iff]
  exact ⟨fun z => ⟨Or.inr rfl, h.1 z⟩, fun z => ⟨Or.inl rfl, h.2 z⟩⟩
theorem c_X5_isSet : Ctr yX5_isSet cX5_isSet 2 (some .boolean) ({ frames := 1, cells := 0, slots := 0, locals := 22 } : Room) S_X5_isSet := ctr_of (T := T_X5_isSet) (by decide +kernel) (fun post C hr => t_X5_isSet post C hr) v_X5_isSet
def S_X5_laid : SP := fun as M post => ∃ x n c p r h lk, as = [VR 39, VI x] ∧ MW M n c p r h lk ∧ (¬ In x (us h n) → post (some (VI (-1))) M) ∧ (∀ T, x = nI T → T &&& us h n = T → post (some (VI (nI (xrN r T n)))) M)
theorem cw_RX5_107 : ∀ w ∈ ([.methodLink RX5 107 yX5_isSet, .instanceMethod yX5_isSet, .selects yX5_isSet.cls yX5_isSet yX5_isSet, .initialized yX5_isSet.cls, .code yX5_isSet cX5_isSet 2 (some .boolean)] : List Cond), w ∈ tb := tb_all [752, 754, 40, 59, 755] (by decide +kernel) (by decide +kernel)
theorem cw_RX5_110 : ∀ w ∈ ([.methodLink RX5 110 yX5_rowOf, .instanceMethod yX5_rowOf, .selects yX5_rowOf.cls yX5_rowOf yX5_rowOf, .initialized yX5_rowOf.cls, .code yX5_rowOf cX5_rowOf 4 (some .int)] : List Cond), w ∈ tb := tb_all [760, 762, 42, 59, 763] (by decide +kernel) (by decide +kernel)
theorem dX5_laid_0 : decode cX5_laid 0 = .ok (.aload_n 0, 1) := by decide +kernel
theorem dX5_laid_1 : decode cX5_laid 1 = .ok (.iload_n 1, 1) := by decide +kernel
theorem dX5_laid_2 : decode cX5_laid 2 = .ok (.invokevirtual 107, 3) := by decide +kernel
theorem dX5_laid_5 : decode cX5_laid 5 = .ok (.ifCond .eq 11, 3) := by decide +kernel
theorem dX5_laid_8 : decode cX5_laid 8 = .ok (.aload_n 0, 1) := by decide +kernel
theorem dX5_laid_9 : decode cX5_laid 9 = .ok (.iload_n 1, 1) := by decide +kernel
theorem dX5_laid_10 : decode cX5_laid 10 = .ok (.invokevirtual 110, 3) := by decide +kernel
theorem dX5_laid_13 : decode cX5_laid 13 = .ok (.goto 4, 3) := by decide +kernel
theorem dX5_laid_16 : decode cX5_laid 16 = .ok (.iconst (-1), 1) := by decide +kernel
theorem dX5_laid_17 : decode cX5_laid 17 = .ok (.ireturn, 1) := by decide +kernel
def T_X5_laid (post : PO) : List (Nat × OP) := [(0, o_aload 0 1), (1, o_iload 1 2), (2, o_callV 5 S_X5_isSet 1 5), (5, o_if (fun x => x = 0) 16 8), (8, o_aload 0 9), (9, o_iload 1 10), (10, o_callV 5 S_X5_rowOf 1 13), (13, o_goto 17), (16, o_const (-1) 17), (17, o_iret post)]
theorem k_X5_laid_0 (post : PO) : lk (T_X5_laid post) 0 = o_aload 0 1 := rfl
theorem k_X5_laid_1 (post : PO) : lk (T_X5_laid post) 1 = o_iload 1 2 := rfl
theorem k_X5_laid_2 (post : PO) : lk (T_X5_laid post) 2 = o_callV 5 S_X5_isSet 1 5 := rfl
theorem k_X5_laid_5 (post : PO) : lk (T_X5_laid post) 5 = o_if (fun x => x = 0) 16 8 := rfl
theorem k_X5_laid_8 (post : PO) : lk (T_X5_laid post) 8 = o_aload 0 9 := rfl
theorem k_X5_laid_9 (post : PO) : lk (T_X5_laid post) 9 = o_iload 1 10 := rfl
theorem k_X5_laid_10 (post : PO) : lk (T_X5_laid post) 10 = o_callV 5 S_X5_rowOf 1 13 := rfl
theorem k_X5_laid_13 (post : PO) : lk (T_X5_laid post) 13 = o_goto 17 := rfl
theorem k_X5_laid_16 (post : PO) : lk (T_X5_laid post) 16 = o_const (-1) 17 := rfl
theorem k_X5_laid_17 (post : PO) : lk (T_X5_laid post) 17 = o_iret post := rfl
set_option maxRecDepth 100000 in
theorem t_X5_laid {p : Program} {l : Launch} {e : Env} {s : State} {m : MethodId} {args : Array Value} {below : List Frame} {meth : Method} {c : Code} {D : va_G} {dA : Nat → ClassId} {ad : Nat → Nat} (post : PO) (C : CX p s m args meth c cX5_laid 2 yX5_laid.cls D dA ad (AA ad s.heap.size)) (hr : meth.sig.returnType = (some .int)) : SndL (WW p l e ({ frames := 2, cells := 0, slots := 0, locals := 43 } : Room) s m args below meth c 0 0 (MQ below (CQ D dA ad post (AA ad s.heap.size)) args s 0 0 (AA ad s.heap.size)) 2 D dA ad (AA ad s.heap.size)) (T_X5_laid post) := by
  refine snd_c (s_aload_n C rfl dX5_laid_0) ?_
  refine snd_c (s_iload_n C rfl dX5_laid_1) ?_
  refine snd_c (s_callV C (ci := 5) c_X5_isSet rfl cw_RX5_107 ⟨rfl, rfl⟩ ⟨by decide +kernel, by decide +kernel, by decide +kernel⟩ ⟨by decide, by decide⟩ ⟨Nat.zero_le _, Nat.zero_le _⟩ dX5_laid_2) ?_
  refine snd_c (s_if_eq C dX5_laid_5 (by decide)) ?_
  refine snd_c (s_aload_n C rfl dX5_laid_8) ?_
  refine snd_c (s_iload_n C rfl dX5_laid_9) ?_
  refine snd_c (s_callV C (ci := 5) c_X5_rowOf rfl cw_RX5_110 ⟨rfl, rfl⟩ ⟨by decide +kernel, by decide +kernel, by decide +kernel⟩ ⟨by decide, by decide⟩ ⟨Nat.zero_le _, Nat.zero_le _⟩ dX5_laid_10) ?_
  refine snd_c (s_goto C dX5_laid_13 (by decide)) ?_
  refine snd_c (s_iconst C dX5_laid_16 rfl) ?_
  refine snd_c (s_iret C hr dX5_laid_17) ?_
  exact trivial
theorem us_lt2 (h : Nat → Int32) (n : Nat) : us h n < 2 ^ n := mk_lt _ n
theorem sub_lt {T a b : Nat} (h : T &&& a = T) (ha : a < b) : T < b := Nat.lt_of_le_of_lt (by rw [← h]; exact Nat.and_le_right) ha
set_option maxRecDepth 100000 in
theorem v_X5_laid : ∀ as M post, S_X5_laid as M post → wsum as ≤ 2 ∧ RUN (T_X5_laid post) 0 (entL 2 as) [] M := by
  rintro as M post ⟨x, n, c, p, r, h0, lk, rfl, hX, h1, h2⟩
  have hul := us_lt h0 hX.2.1
  refine ⟨by show 2 ≤ 2; omega, run_wp 60 ?_⟩
  dsimp only [k_X5_laid_0, k_X5_laid_1, k_X5_laid_2, k_X5_laid_5, k_X5_laid_8, k_X5_laid_9, k_X5_laid_10, k_X5_laid_13, k_X5_laid_16, k_X5_laid_17, wp1, wp_s, cutIn, kont, Nat.reduceSub, Nat.reduceAdd, nth, o_const, o_lconst, o_ref, o_iload, o_lload, o_aload, o_istore, o_lstore, o_astore, o_iinc, o_bin, o_div, o_un, o_lbin, o_lsh, o_lcmp, o_i2l, o_l2i, o_if, o_icmp, o_goto, o_dup, o_dup2, o_pop, fav, o_getf, o_putI, o_putZ, o_putL, o_ald, o_ast, o_alen, popn, rst, o_callV, o_callT, o_callS, swx, o_sw, o_ret, o_iret, o_zret, o_cret, o_lret, o_aret, lg, lput, lput2, ls1, isL, entL, wsum, rdI1, rdI2, rdA1, rdA21, rdA22, rdL1, rdL22, rdL21, upN_at, rep, sh_0, F_0_0, F_0_1, F_0_2, F_0_3, F_0_4, F_0_5, F_0_6, F_0_7, F_0_8, sh_1, F_1_0, F_1_1, F_1_2, F_1_3, F_1_4, F_1_5, sh_3, F_3_0, F_3_1, F_3_2, F_3_3, F_3_4, F_3_5, sh_5, F_5_0, F_5_1, F_5_2, F_5_3, F_5_4, F_5_5, F_5_6, F_5_7, F_5_8, sh_12, F_12_0, F_12_1, F_12_2, F_12_3, F_12_4, F_12_5, sh_14, F_14_0, F_14_1, F_14_2, F_14_3, F_14_4, F_14_5, F_14_6, F_14_7, F_14_8, sh_21, F_21_0, F_21_1, F_21_2, F_21_3, F_21_4, F_21_5, F_21_6, F_21_7, F_21_8, sh_28, F_28_0, F_28_1, F_28_2, F_28_3, F_28_4, F_28_5, F_28_6, F_28_7, F_28_8, sh_35, F_35_0, sh_39, F_39_0, F_39_1, F_39_2, F_39_3, F_39_4, F_39_5, F_39_6, F_39_7, F_39_8, F_39_9, F_39_10, F_39_11, F_39_12, F_39_13, A_2, A_4, A_6, A_7, A_8, A_9, A_10, A_11, A_13, A_15, A_16, A_17, A_18, A_19, A_20, A_22, A_23, A_24, A_25, A_26, A_27, A_29, A_30, A_31, A_32, A_33, A_34, A_36, A_37, A_38, A_40, A_41, A_42, A_43, A_44, A_45, A_46, A_47]
  refine ⟨x, n, c, p, r, h0, lk, rfl, hX, fun z => ?_, fun z => ?_⟩
  · obtain ⟨T, rfl, hT, hTl⟩ := In_at (by omega) z
    dsimp only [k_X5_laid_0, k_X5_laid_1, k_X5_laid_2, k_X5_laid_5, k_X5_laid_8, k_X5_laid_9, k_X5_laid_10, k_X5_laid_13, k_X5_laid_16, k_X5_laid_17, wp1, wp_s, cutIn, kont, Nat.reduceSub, Nat.reduceAdd, nth, o_const, o_lconst, o_ref, o_iload, o_lload, o_aload, o_istore, o_lstore, o_astore, o_iinc, o_bin, o_div, o_un, o_lbin, o_lsh, o_lcmp, o_i2l, o_l2i, o_if, o_icmp, o_goto, o_dup, o_dup2, o_pop, fav, o_getf, o_putI, o_putZ, o_putL, o_ald, o_ast, o_alen, popn, rst, o_callV, o_callT, o_callS, swx, o_sw, o_ret, o_iret, o_zret, o_cret, o_lret, o_aret, lg, lput, lput2, ls1, isL, entL, wsum, rdI1, rdI2, rdA1, rdA21, rdA22, rdL1, rdL22, rdL21, upN_at, rep, sh_0, F_0_0, F_0_1, F_0_2, F_0_3, F_0_4, F_0_5, F_0_6, F_0_7, F_0_8, sh_1, F_1_0, F_1_1, F_1_2, F_1_3, F_1_4, F_1_5, sh_3, F_3_0, F_3_1, F_3_2, F_3_3, F_3_4, F_3_5, sh_5, F_5_0, F_5_1, F_5_2, F_5_3, F_5_4, F_5_5, F_5_6, F_5_7, F_5_8, sh_12, F_12_0, F_12_1, F_12_2, F_12_3, F_12_4, F_12_5, sh_14, F_14_0, F_14_1, F_14_2, F_14_3, F_14_4, F_14_5, F_14_6, F_14_7, F_14_8, sh_21, F_21_0, F_21_1, F_21_2, F_21_3, F_21_4, F_21_5, F_21_6, F_21_7, F_21_8, sh_28, F_28_0, F_28_1, F_28_2, F_28_3, F_28_4, F_28_5, F_28_6, F_28_7, F_28_8, sh_35, F_35_0, sh_39, F_39_0, F_39_1, F_39_2, F_39_3, F_39_4, F_39_5, F_39_6, F_39_7, F_39_8, F_39_9, F_39_10, F_39_11, F_39_12, F_39_13, A_2, A_4, A_6, A_7, A_8, A_9, A_10, A_11, A_13, A_15, A_16, A_17, A_18, A_19, A_20, A_22, A_23, A_24, A_25, A_26, A_27, A_29, A_30, A_31, A_32, A_33, A_34, A_36, A_37, A_38, A_40, A_41, A_42, A_43, A_44, A_45, A_46, A_47]
    refine ⟨fun q => absurd q (by decide), fun _ => ⟨T, n, c, p, r, h0, lk, rfl, sub_lt hT (us_lt2 h0 n), hX, ?_⟩⟩
    dsimp only [k_X5_laid_0, k_X5_laid_1, k_X5_laid_2, k_X5_laid_5, k_X5_laid_8, k_X5_laid_9, k_X5_laid_10, k_X5_laid_13, k_X5_laid_16, k_X5_laid_17, wp1, wp_s, cutIn, kont, Nat.reduceSub, Nat.reduceAdd, nth, o_const, o_lconst, o_ref, o_iload, o_lload, o_aload, o_istore, o_lstore, o_astore, o_iinc, o_bin, o_div, o_un, o_lbin, o_lsh, o_lcmp, o_i2l, o_l2i, o_if, o_icmp, o_goto, o_dup, o_dup2, o_pop, fav, o_getf, o_putI, o_putZ, o_putL, o_ald, o_ast, o_alen, popn, rst, o_callV, o_callT, o_callS, swx, o_sw, o_ret, o_iret, o_zret, o_cret, o_lret, o_aret, lg, lput, lput2, ls1, isL, entL, wsum, rdI1, rdI2, rdA1, rdA21, rdA22, rdL1, rdL22, rdL21, upN_at, rep, sh_0, F_0_0, F_0_1, F_0_2, F_0_3, F_0_4, F_0_5, F_0_6, F_0_7, F_0_8, sh_1, F_1_0, F_1_1, F_1_2, F_1_3, F_1_4, F_1_5, sh_3, F_3_0, F_3_1, F_3_2, F_3_3, F_3_4, F_3_5, sh_5, F_5_0, F_5_1, F_5_2, F_5_3, F_5_4, F_5_5, F_5_6, F_5_7, F_5_8, sh_12, F_12_0, F_12_1, F_12_2, F_12_3, F_12_4, F_12_5, sh_14, F_14_0, F_14_1, F_14_2, F_14_3, F_14_4, F_14_5, F_14_6, F_14_7, F_14_8, sh_21, F_21_0, F_21_1, F_21_2, F_21_3, F_21_4, F_21_5, F_21_6, F_21_7, F_21_8, sh_28, F_28_0, F_28_1, F_28_2, F_28_3, F_28_4, F_28_5, F_28_6, F_28_7, F_28_8, sh_35, F_35_0, sh_39, F_39_0, F_39_1, F_39_2, F_39_3, F_39_4, F_39_5, F_39_6, F_39_7, F_39_8, F_39_9, F_39_10, F_39_11, F_39_12, F_39_13, A_2, A_4, A_6, A_7, A_8, A_9, A_10, A_11, A_13, A_15, A_16, A_17, A_18, A_19, A_20, A_22, A_23, A_24, A_25, A_26, A_27, A_29, A_30, A_31, A_32, A_33, A_34, A_36, A_37, A_38, A_40, A_41, A_42, A_43, A_44, A_45, A_46, A_47]
    exact h2 T rfl hT
  · dsimp only [k_X5_laid_0, k_X5_laid_1, k_X5_laid_2, k_X5_laid_5, k_X5_laid_8, k_X5_laid_9, k_X5_laid_10, k_X5_laid_13, k_X5_laid_16, k_X5_laid_17, wp1, wp_s, cutIn, kont, Nat.reduceSub, Nat.reduceAdd, nth, o_const, o_lconst, o_ref, o_iload, o_lload, o_aload, o_istore, o_lstore, o_astore, o_iinc, o_bin, o_div, o_un, o_lbin, o_lsh, o_lcmp, o_i2l, o_l2i, o_if, o_icmp, o_goto, o_dup, o_dup2, o_pop, fav, o_getf, o_putI, o_putZ, o_putL, o_ald, o_ast, o_alen, popn, rst, o_callV, o_callT, o_callS, swx, o_sw, o_ret, o_iret, o_zret, o_cret, o_lret, o_aret, lg, lput, lput2, ls1, isL, entL, wsum, rdI1, rdI2, rdA1, rdA21, rdA22, rdL1, rdL22, rdL21, upN_at, rep, sh_0, F_0_0, F_0_1, F_0_2, F_0_3, F_0_4, F_0_5, F_0_6, F_0_7, F_0_8, sh_1, F_1_0, F_1_1, F_1_2, F_1_3, F_1_4, F_1_5, sh_3, F_3_0, F_3_1, F_3_2, F_3_3, F_3_4, F_3_5, sh_5, F_5_0, F_5_1, F_5_2, F_5_3, F_5_4, F_5_5, F_5_6, F_5_7, F_5_8, sh_12, F_12_0, F_12_1, F_12_2, F_12_3, F_12_4, F_12_5, sh_14, F_14_0, F_14_1, F_14_2, F_14_3, F_14_4, F_14_5, F_14_6, F_14_7, F_14_8, sh_21, F_21_0, F_21_1, F_21_2, F_21_3, F_21_4, F_21_5, F_21_6, F_21_7, F_21_8, sh_28, F_28_0, F_28_1, F_28_2, F_28_3, F_28_4, F_28_5, F_28_6, F_28_7, F_28_8, sh_35, F_35_0, sh_39, F_39_0, F_39_1, F_39_2, F_39_3, F_39_4, F_39_5, F_39_6, F_39_7, F_39_8, F_39_9, F_39_10, F_39_11, F_39_12, F_39_13, A_2, A_4, A_6, A_7, A_8, A_9, A_10, A_11, A_13, A_15, A_16, A_17, A_18, A_19, A_20, A_22, A_23, A_24, A_25, A_26, A_27, A_29, A_30, A_31, A_32, A_33, A_34, A_36, A_37, A_38, A_40, A_41, A_42, A_43, A_44, A_45, A_46, A_47]
    exact ⟨fun _ => h1 z, fun q => absurd rfl q⟩
theorem c_X5_laid : Ctr yX5_laid cX5_laid 2 (some .int) ({ frames := 2, cells := 0, slots := 0, locals := 43 } : Room) S_X5_laid := ctr_of (T := T_X5_laid) (by decide +kernel) (fun post C hr => t_X5_laid post C hr) v_X5_laid
