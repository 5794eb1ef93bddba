/-! The model: what opens, what stands alone, what a lost key shuts, how far rows are apart. -/
def HH (h : Nat → Int32) (n p : Nat) : Prop := ∀ k, k < n → h k < 0 ∨ ∃ q, q < p ∧ h k = nI q
def S_X5_opensBy : SP := fun as M post => ∃ T n c p r h lk, as = [VR 39, VI (nI T)] ∧ T < 2 ^ n ∧ MW M n c p r h lk ∧ ∀ f, post (some (VI (nI (opn r n lk c T)))) (sA 36 f M)
theorem cw_RX5_124 : ∀ w ∈ ([.methodLink RX5 124 yX5_makes, .instanceMethod yX5_makes, .selects yX5_makes.cls yX5_makes yX5_makes, .initialized yX5_makes.cls, .code yX5_makes cX5_makes 3 none] : List Cond), w ∈ tb := tb_all [800, 802, 46, 59, 803] (by decide +kernel) (by decide +kernel)
theorem cw_RX5_128 : ∀ w ∈ ([.methodLink RX5 128 yX5_open, .instanceMethod yX5_open, .selects yX5_open.cls yX5_open yX5_open, .initialized yX5_open.cls, .code yX5_open cX5_open 3 (some .int)] : List Cond), w ∈ tb := tb_all [827, 829, 50, 59, 830] (by decide +kernel) (by decide +kernel)
theorem dX5_opensBy_0 : decode cX5_opensBy 0 = .ok (.aload_n 0, 1) := by decide +kernel
theorem dX5_opensBy_1 : decode cX5_opensBy 1 = .ok (.iload_n 1, 1) := by decide +kernel
theorem dX5_opensBy_2 : decode cX5_opensBy 2 = .ok (.invokevirtual 124, 3) := by decide +kernel
theorem dX5_opensBy_5 : decode cX5_opensBy 5 = .ok (.aload_n 0, 1) := by decide +kernel
theorem dX5_opensBy_6 : decode cX5_opensBy 6 = .ok (.invokevirtual 128, 3) := by decide +kernel
theorem dX5_opensBy_9 : decode cX5_opensBy 9 = .ok (.ireturn, 1) := by decide +kernel
def T_X5_opensBy (post : PO) : List (Nat × OP) := [(0, o_aload 0 1), (1, o_iload 1 2), (2, o_callV 5 S_X5_makes 1 5), (5, o_aload 0 6), (6, o_callV 5 S_X5_open 0 9), (9, o_iret post)]
theorem k_X5_opensBy_0 (post : PO) : lk (T_X5_opensBy post) 0 = o_aload 0 1 := rfl
theorem k_X5_opensBy_1 (post : PO) : lk (T_X5_opensBy post) 1 = o_iload 1 2 := rfl
theorem k_X5_opensBy_2 (post : PO) : lk (T_X5_opensBy post) 2 = o_callV 5 S_X5_makes 1 5 := rfl
theorem k_X5_opensBy_5 (post : PO) : lk (T_X5_opensBy post) 5 = o_aload 0 6 := rfl
theorem k_X5_opensBy_6 (post : PO) : lk (T_X5_opensBy post) 6 = o_callV 5 S_X5_open 0 9 := rfl
theorem k_X5_opensBy_9 (post : PO) : lk (T_X5_opensBy post) 9 = o_iret post := rfl
set_option maxRecDepth 100000 in
theorem t_X5_opensBy {p : Program} {l : Launch} {e : Env} {s : State} {m : MethodId} {args : Array Value} {below : List Frame} {meth : Method} {c : Code} {D : va_G} {dA : Nat → ClassId} {ad : Nat → Nat} (post : PO) (C : CX p s m args meth c cX5_opensBy 2 yX5_opensBy.cls D dA ad (AA ad s.heap.size)) (hr : meth.sig.returnType = (some .int)) : SndL (WW p l e ({ frames := 2, cells := 0, slots := 0, locals := 45 } : Room) s m args below meth c 0 0 (MQ below (CQ D dA ad post (AA ad s.heap.size)) args s 0 0 (AA ad s.heap.size)) 2 D dA ad (AA ad s.heap.size)) (T_X5_opensBy post) := by
  refine snd_c (s_aload_n C rfl dX5_opensBy_0) ?_
  refine snd_c (s_iload_n C rfl dX5_opensBy_1) ?_
  refine snd_c (s_callV C (ci := 5) c_X5_makes rfl cw_RX5_124 ⟨rfl, rfl⟩ ⟨by decide +kernel, by decide +kernel, by decide +kernel⟩ ⟨by decide, by decide⟩ ⟨Nat.zero_le _, Nat.zero_le _⟩ dX5_opensBy_2) ?_
  refine snd_c (s_aload_n C rfl dX5_opensBy_5) ?_
  refine snd_c (s_callV C (ci := 5) c_X5_open rfl cw_RX5_128 ⟨rfl, rfl⟩ ⟨by decide +kernel, by decide +kernel, by decide +kernel⟩ ⟨by decide, by decide⟩ ⟨Nat.zero_le _, Nat.zero_le _⟩ dX5_opensBy_6) ?_
  refine snd_c (s_iret C hr dX5_opensBy_9) ?_
  exact trivial
set_option maxRecDepth 100000 in
theorem v_X5_opensBy : ∀ as M post, S_X5_opensBy as M post → wsum as ≤ 2 ∧ RUN (T_X5_opensBy post) 0 (entL 2 as) [] M := by
  rintro as M post ⟨T, n, c, p, r, h0, lk, rfl, hT, hX, h⟩
  refine ⟨by show 2 ≤ 2; omega, run_wp 60 ?_⟩
  dsimp only [k_X5_opensBy_0, k_X5_opensBy_1, k_X5_opensBy_2, k_X5_opensBy_5, k_X5_opensBy_6, k_X5_opensBy_9, wp1, wp_s, cutIn, kont, Nat.reduceSub, Nat.reduceAdd, nth, o_const, o_lconst, o_ref, o_iload, o_lload, o_aload, o_istore, o_lstore, o_astore, o_iinc, o_bin, o_div, o_un, o_lbin, o_lsh, o_lcmp, o_i2l, o_l2i, o_if, o_icmp, o_goto, o_dup, o_dup2, o_pop, fav, o_getf, o_putI, o_putZ, o_putL, o_ald, o_ast, o_alen, popn, rst, o_callV, o_callT, o_callS, swx, o_sw, o_ret, o_iret, o_zret, o_cret, o_lret, o_aret, lg, lput, lput2, ls1, isL, entL, wsum, rdI1, rdI2, rdA1, rdA21, rdA22, rdL1, rdL22, rdL21, upN_at, rep, sh_0, F_0_0, F_0_1, F_0_2, F_0_3, F_0_4, F_0_5, F_0_6, F_0_7, F_0_8, sh_1, F_1_0, F_1_1, F_1_2, F_1_3, F_1_4, F_1_5, sh_3, F_3_0, F_3_1, F_3_2, F_3_3, F_3_4, F_3_5, sh_5, F_5_0, F_5_1, F_5_2, F_5_3, F_5_4, F_5_5, F_5_6, F_5_7, F_5_8, sh_12, F_12_0, F_12_1, F_12_2, F_12_3, F_12_4, F_12_5, sh_14, F_14_0, F_14_1, F_14_2, F_14_3, F_14_4, F_14_5, F_14_6, F_14_7, F_14_8, sh_21, F_21_0, F_21_1, F_21_2, F_21_3, F_21_4, F_21_5, F_21_6, F_21_7, F_21_8, sh_28, F_28_0, F_28_1, F_28_2, F_28_3, F_28_4, F_28_5, F_28_6, F_28_7, F_28_8, sh_35, F_35_0, sh_39, F_39_0, F_39_1, F_39_2, F_39_3, F_39_4, F_39_5, F_39_6, F_39_7, F_39_8, F_39_9, F_39_10, F_39_11, F_39_12, F_39_13, A_2, A_4, A_6, A_7, A_8, A_9, A_10, A_11, A_13, A_15, A_16, A_17, A_18, A_19, A_20, A_22, A_23, A_24, A_25, A_26, A_27, A_29, A_30, A_31, A_32, A_33, A_34, A_36, A_37, A_38, A_40, A_41, A_42, A_43, A_44, A_45, A_46, A_47]
  refine ⟨T, n, c, p, r, h0, lk, rfl, hT, hX, fun f hf => ?_⟩
  dsimp only [k_X5_opensBy_0, k_X5_opensBy_1, k_X5_opensBy_2, k_X5_opensBy_5, k_X5_opensBy_6, k_X5_opensBy_9, wp1, wp_s, cutIn, kont, Nat.reduceSub, Nat.reduceAdd, nth, o_const, o_lconst, o_ref, o_iload, o_lload, o_aload, o_istore, o_lstore, o_astore, o_iinc, o_bin, o_div, o_un, o_lbin, o_lsh, o_lcmp, o_i2l, o_l2i, o_if, o_icmp, o_goto, o_dup, o_dup2, o_pop, fav, o_getf, o_putI, o_putZ, o_putL, o_ald, o_ast, o_alen, popn, rst, o_callV, o_callT, o_callS, swx, o_sw, o_ret, o_iret, o_zret, o_cret, o_lret, o_aret, lg, lput, lput2, ls1, isL, entL, wsum, rdI1, rdI2, rdA1, rdA21, rdA22, rdL1, rdL22, rdL21, upN_at, rep, sh_0, F_0_0, F_0_1, F_0_2, F_0_3, F_0_4, F_0_5, F_0_6, F_0_7, F_0_8, sh_1, F_1_0, F_1_1, F_1_2, F_1_3, F_1_4, F_1_5, sh_3, F_3_0, F_3_1, F_3_2, F_3_3, F_3_4, F_3_5, sh_5, F_5_0, F_5_1, F_5_2, F_5_3, F_5_4, F_5_5, F_5_6, F_5_7, F_5_8, sh_12, F_12_0, F_12_1, F_12_2, F_12_3, F_12_4, F_12_5, sh_14, F_14_0, F_14_1, F_14_2, F_14_3, F_14_4, F_14_5, F_14_6, F_14_7, F_14_8, sh_21, F_21_0, F_21_1, F_21_2, F_21_3, F_21_4, F_21_5, F_21_6, F_21_7, F_21_8, sh_28, F_28_0, F_28_1, F_28_2, F_28_3, F_28_4, F_28_5, F_28_6, F_28_7, F_28_8, sh_35, F_35_0, sh_39, F_39_0, F_39_1, F_39_2, F_39_3, F_39_4, F_39_5, F_39_6, F_39_7, F_39_8, F_39_9, F_39_10, F_39_11, F_39_12, F_39_13, A_2, A_4, A_6, A_7, A_8, A_9, A_10, A_11, A_13, A_15, A_16, A_17, A_18, A_19, A_20, A_22, A_23, A_24, A_25, A_26, A_27, A_29, A_30, A_31, A_32, A_33, A_34, A_36, A_37, A_38, A_40, A_41, A_42, A_43, A_44, A_45, A_46, A_47]
  refine ⟨T, n, c, p, r, h0, lk, rfl, MW_36 hX f, hf, ?_⟩
  dsimp only [k_X5_opensBy_0, k_X5_opensBy_1, k_X5_opensBy_2, k_X5_opensBy_5, k_X5_opensBy_6, k_X5_opensBy_9, wp1, wp_s, cutIn, kont, Nat.reduceSub, Nat.reduceAdd, nth, o_const, o_lconst, o_ref, o_iload, o_lload, o_aload, o_istore, o_lstore, o_astore, o_iinc, o_bin, o_div, o_un, o_lbin, o_lsh, o_lcmp, o_i2l, o_l2i, o_if, o_icmp, o_goto, o_dup, o_dup2, o_pop, fav, o_getf, o_putI, o_putZ, o_putL, o_ald, o_ast, o_alen, popn, rst, o_callV, o_callT, o_callS, swx, o_sw, o_ret, o_iret, o_zret, o_cret, o_lret, o_aret, lg, lput, lput2, ls1, isL, entL, wsum, rdI1, rdI2, rdA1, rdA21, rdA22, rdL1, rdL22, rdL21, upN_at, rep, sh_0, F_0_0, F_0_1, F_0_2, F_0_3, F_0_4, F_0_5, F_0_6, F_0_7, F_0_8, sh_1, F_1_0, F_1_1, F_1_2, F_1_3, F_1_4, F_1_5, sh_3, F_3_0, F_3_1, F_3_2, F_3_3, F_3_4, F_3_5, sh_5, F_5_0, F_5_1, F_5_2, F_5_3, F_5_4, F_5_5, F_5_6, F_5_7, F_5_8, sh_12, F_12_0, F_12_1, F_12_2, F_12_3, F_12_4, F_12_5, sh_14, F_14_0, F_14_1, F_14_2, F_14_3, F_14_4, F_14_5, F_14_6, F_14_7, F_14_8, sh_21, F_21_0, F_21_1, F_21_2, F_21_3, F_21_4, F_21_5, F_21_6, F_21_7, F_21_8, sh_28, F_28_0, F_28_1, F_28_2, F_28_3, F_28_4, F_28_5, F_28_6, F_28_7, F_28_8, sh_35, F_35_0, sh_39, F_39_0, F_39_1, F_39_2, F_39_3, F_39_4, F_39_5, F_39_6, F_39_7, F_39_8, F_39_9, F_39_10, F_39_11, F_39_12, F_39_13, A_2, A_4, A_6, A_7, A_8, A_9, A_10, A_11, A_13, A_15, A_16, A_17, A_18, A_19, A_20, A_22, A_23, A_24, A_25, A_26, A_27, A_29, A_30, A_31, A_32, A_33, A_34, A_36, A_37, A_38, A_40, A_41, A_42, A_43, A_44, A_45, A_46, A_47]
  exact h f
theorem c_X5_opensBy : Ctr yX5_opensBy cX5_opensBy 2 (some .int) ({ frames := 2, cells := 0, slots := 0, locals := 45 } : Room) S_X5_opensBy := ctr_of (T := T_X5_opensBy) (by decide +kernel) (fun post C hr => t_X5_opensBy post C hr) v_X5_opensBy
def S_X5_opens : SP := fun as M post => ∃ x n c p r h lk, as = [VR 39, VI x] ∧ MW M n c p r h lk ∧ HH h n p ∧ (¬ (0 ≤ x ∧ x < nI (2 ^ p)) → post (some (VI (-1))) M) ∧ (∀ g, x = nI g → g < 2 ^ p → ∀ f, post (some (VI (nI (opn r n lk c (hd h g p n))))) (sA 36 f M))
def S_X5_shut : SP := fun as M post => ∃ x n c p r h lk, as = [VR 39, VI x] ∧ MW M n c p r h lk ∧ ((∀ k, x = nI k → k < n → h k = -3) → post (some (VI (-1))) M) ∧ (∀ k, x = nI k → k < n → ¬ h k = -3 → ∀ f, post (some (VI (nI (opn r n lk c (us h n)) &&& (nI (opn r n lk c (us h n ^^^ 2 ^ k)) ^^^ -1)))) (sA 36 f M))
def S_X5_apart : SP := fun as M post => ∃ n c p r h lk, as = [VR 39] ∧ MW M n c p r h lk ∧ ∀ f, post (some (VI (wI (mnf (apP r h n) (fun T => cn T 9) 512) (fun T => cn T 9)))) (sA 36 f M)
def S_X5_alone : SP := fun as M post => ∃ n c p r h lk, as = [VR 39] ∧ MW M n c p r h lk ∧ ∀ f, post (some (VI (nI (alF r h n n)))) (sA 36 f M)
def S_X5_rob : SP := fun as M post => ∃ x n c p r h lk, as = [VR 39, VI x] ∧ MW M n c p r h lk ∧ HH h n p ∧ (¬ (0 ≤ x ∧ x < nI (2 ^ c)) → post (some (VI (-1))) M) ∧ (∀ lo, x = nI lo → lo < 2 ^ c → ∀ f, post (some (VI (bsI (mnf (rbP r h n p lk c lo) (fun g => cn g 9) (2 ^ p))))) (sA 36 f M))
theorem cw_RX5_134 : ∀ w ∈ ([.methodLink RX5 134 yX5_isGroup, .instanceMethod yX5_isGroup, .selects yX5_isGroup.cls yX5_isGroup yX5_isGroup, .initialized yX5_isGroup.cls, .code yX5_isGroup cX5_isGroup 2 (some .boolean)] : List Cond), w ∈ tb := tb_all [815, 817, 47, 59, 818] (by decide +kernel) (by decide +kernel)
theorem cw_RX5_137 : ∀ w ∈ ([.methodLink RX5 137 yX5_heldBy, .instanceMethod yX5_heldBy, .selects yX5_heldBy.cls yX5_heldBy yX5_heldBy, .initialized yX5_heldBy.cls, .code yX5_heldBy cX5_heldBy 4 (some .int)] : List Cond), w ∈ tb := tb_all [819, 821, 48, 59, 822] (by decide +kernel) (by decide +kernel)
theorem cw_RX5_140 : ∀ w ∈ ([.methodLink RX5 140 yX5_opensBy, .instanceMethod yX5_opensBy, .selects yX5_opensBy.cls yX5_opensBy yX5_opensBy, .initialized yX5_opensBy.cls, .code yX5_opensBy cX5_opensBy 2 (some .int)] : List Cond), w ∈ tb := tb_all [823, 825, 49, 59, 826] (by decide +kernel) (by decide +kernel)
theorem dX5_opens_0 : decode cX5_opens 0 = .ok (.aload_n 0, 1) := by decide +kernel
theorem dX5_opens_1 : decode cX5_opens 1 = .ok (.iload_n 1, 1) := by decide +kernel
theorem dX5_opens_2 : decode cX5_opens 2 = .ok (.invokevirtual 134, 3) := by decide +kernel
theorem dX5_opens_5 : decode cX5_opens 5 = .ok (.ifCond .eq 15, 3) := by decide +kernel
theorem dX5_opens_8 : decode cX5_opens 8 = .ok (.aload_n 0, 1) := by decide +kernel
theorem dX5_opens_9 : decode cX5_opens 9 = .ok (.aload_n 0, 1) := by decide +kernel
theorem dX5_opens_10 : decode cX5_opens 10 = .ok (.iload_n 1, 1) := by decide +kernel
theorem dX5_opens_11 : decode cX5_opens 11 = .ok (.invokevirtual 137, 3) := by decide +kernel
theorem dX5_opens_14 : decode cX5_opens 14 = .ok (.invokevirtual 140, 3) := by decide +kernel
theorem dX5_opens_17 : decode cX5_opens 17 = .ok (.goto 4, 3) := by decide +kernel
theorem dX5_opens_20 : decode cX5_opens 20 = .ok (.iconst (-1), 1) := by decide +kernel
theorem dX5_opens_21 : decode cX5_opens 21 = .ok (.ireturn, 1) := by decide +kernel
def T_X5_opens (post : PO) : List (Nat × OP) := [(0, o_aload 0 1), (1, o_iload 1 2), (2, o_callV 5 S_X5_isGroup 1 5), (5, o_if (fun x => x = 0) 20 8), (8, o_aload 0 9), (9, o_aload 0 10), (10, o_iload 1 11), (11, o_callV 5 S_X5_heldBy 1 14), (14, o_callV 5 S_X5_opensBy 1 17), (17, o_goto 21), (20, o_const (-1) 21), (21, o_iret post)]
theorem k_X5_opens_0 (post : PO) : lk (T_X5_opens post) 0 = o_aload 0 1 := rfl
theorem k_X5_opens_1 (post : PO) : lk (T_X5_opens post) 1 = o_iload 1 2 := rfl
theorem k_X5_opens_2 (post : PO) : lk (T_X5_opens post) 2 = o_callV 5 S_X5_isGroup 1 5 := rfl
theorem k_X5_opens_5 (post : PO) : lk (T_X5_opens post) 5 = o_if (fun x => x = 0) 20 8 := rfl
theorem k_X5_opens_8 (post : PO) : lk (T_X5_opens post) 8 = o_aload 0 9 := rfl
theorem k_X5_opens_9 (post : PO) : lk (T_X5_opens post) 9 = o_aload 0 10 := rfl
theorem k_X5_opens_10 (post : PO) : lk (T_X5_opens post) 10 = o_iload 1 11 := rfl
theorem k_X5_opens_11 (post : PO) : lk (T_X5_opens post) 11 = o_callV 5 S_X5_heldBy 1 14 := rfl
theorem k_X5_opens_14 (post : PO) : lk (T_X5_opens post) 14 = o_callV 5 S_X5_opensBy 1 17 := rfl
theorem k_X5_opens_17 (post : PO) : lk (T_X5_opens post) 17 = o_goto 21 := rfl
theorem k_X5_opens_20 (post : PO) : lk (T_X5_opens post) 20 = o_const (-1) 21 := rfl
theorem k_X5_opens_21 (post : PO) : lk (T_X5_opens post) 21 = o_iret post := rfl
set_option maxRecDepth 100000 in
theorem t_X5_opens {p : Program} {l : Launch} {e : Env} {s : State} {m : MethodId} {args : Array Value} {below : List Frame} {meth : Method} {c : Code} {D : va_G} {dA : Nat → ClassId} {ad : Nat → Nat} (post : PO) (C : CX p s m args meth c cX5_opens 2 yX5_opens.cls D dA ad (AA ad s.heap.size)) (hr : meth.sig.returnType = (some .int)) : SndL (WW p l e ({ frames := 3, cells := 0, slots := 0, locals := 66 } : Room) s m args below meth c 0 0 (MQ below (CQ D dA ad post (AA ad s.heap.size)) args s 0 0 (AA ad s.heap.size)) 2 D dA ad (AA ad s.heap.size)) (T_X5_opens post) := by
  refine snd_c (s_aload_n C rfl dX5_opens_0) ?_
  refine snd_c (s_iload_n C rfl dX5_opens_1) ?_
  refine snd_c (s_callV C (ci := 5) c_X5_isGroup rfl cw_RX5_134 ⟨rfl, rfl⟩ ⟨by decide +kernel, by decide +kernel, by decide +kernel⟩ ⟨by decide, by decide⟩ ⟨Nat.zero_le _, Nat.zero_le _⟩ dX5_opens_2) ?_
  refine snd_c (s_if_eq C dX5_opens_5 (by decide)) ?_
  refine snd_c (s_aload_n C rfl dX5_opens_8) ?_
  refine snd_c (s_aload_n C rfl dX5_opens_9) ?_
  refine snd_c (s_iload_n C rfl dX5_opens_10) ?_
  refine snd_c (s_callV C (ci := 5) c_X5_heldBy rfl cw_RX5_137 ⟨rfl, rfl⟩ ⟨by decide +kernel, by decide +kernel, by decide +kernel⟩ ⟨by decide, by decide⟩ ⟨Nat.zero_le _, Nat.zero_le _⟩ dX5_opens_11) ?_
  refine snd_c (s_callV C (ci := 5) c_X5_opensBy rfl cw_RX5_140 ⟨rfl, rfl⟩ ⟨by decide +kernel, by decide +kernel, by decide +kernel⟩ ⟨by decide, by decide⟩ ⟨Nat.zero_le _, Nat.zero_le _⟩ dX5_opens_14) ?_
  refine snd_c (s_goto C dX5_opens_17 (by decide)) ?_
  refine snd_c (s_iconst C dX5_opens_20 rfl) ?_
  refine snd_c (s_iret C hr dX5_opens_21) ?_
  exact trivial
theorem dX5_shut_0 : decode cX5_shut 0 = .ok (.aload_n 0, 1) := by decide +kernel
theorem dX5_shut_1 : decode cX5_shut 1 = .ok (.iload_n 1, 1) := by decide +kernel
theorem dX5_shut_2 : decode cX5_shut 2 = .ok (.invokevirtual 98, 3) := by decide +kernel
theorem dX5_shut_5 : decode cX5_shut 5 = .ok (.ifCond .eq 17, 3) := by decide +kernel
theorem dX5_shut_8 : decode cX5_shut 8 = .ok (.aload_n 0, 1) := by decide +kernel
theorem dX5_shut_9 : decode cX5_shut 9 = .ok (.getfield 19, 3) := by decide +kernel
theorem dX5_shut_12 : decode cX5_shut 12 = .ok (.bipush 9, 2) := by decide +kernel
theorem dX5_shut_14 : decode cX5_shut 14 = .ok (.iload_n 1, 1) := by decide +kernel
theorem dX5_shut_15 : decode cX5_shut 15 = .ok (.iadd, 1) := by decide +kernel
theorem dX5_shut_16 : decode cX5_shut 16 = .ok (.iaload, 1) := by decide +kernel
theorem dX5_shut_17 : decode cX5_shut 17 = .ok (.bipush (-3), 2) := by decide +kernel
theorem dX5_shut_19 : decode cX5_shut 19 = .ok (.if_icmp .ne 5, 3) := by decide +kernel
theorem dX5_shut_22 : decode cX5_shut 22 = .ok (.iconst (-1), 1) := by decide +kernel
theorem dX5_shut_23 : decode cX5_shut 23 = .ok (.ireturn, 1) := by decide +kernel
theorem dX5_shut_24 : decode cX5_shut 24 = .ok (.aload_n 0, 1) := by decide +kernel
theorem dX5_shut_25 : decode cX5_shut 25 = .ok (.aload_n 0, 1) := by decide +kernel
theorem dX5_shut_26 : decode cX5_shut 26 = .ok (.invokevirtual 104, 3) := by decide +kernel
theorem dX5_shut_29 : decode cX5_shut 29 = .ok (.invokevirtual 140, 3) := by decide +kernel
theorem dX5_shut_32 : decode cX5_shut 32 = .ok (.aload_n 0, 1) := by decide +kernel
theorem dX5_shut_33 : decode cX5_shut 33 = .ok (.aload_n 0, 1) := by decide +kernel
theorem dX5_shut_34 : decode cX5_shut 34 = .ok (.invokevirtual 104, 3) := by decide +kernel
theorem dX5_shut_37 : decode cX5_shut 37 = .ok (.iconst 1, 1) := by decide +kernel
theorem dX5_shut_38 : decode cX5_shut 38 = .ok (.iload_n 1, 1) := by decide +kernel
theorem dX5_shut_39 : decode cX5_shut 39 = .ok (.ishl, 1) := by decide +kernel
theorem dX5_shut_40 : decode cX5_shut 40 = .ok (.iconst (-1), 1) := by decide +kernel
theorem dX5_shut_41 : decode cX5_shut 41 = .ok (.ixor, 1) := by decide +kernel
theorem dX5_shut_42 : decode cX5_shut 42 = .ok (.iand, 1) := by decide +kernel
theorem dX5_shut_43 : decode cX5_shut 43 = .ok (.invokevirtual 140, 3) := by decide +kernel
theorem dX5_shut_46 : decode cX5_shut 46 = .ok (.iconst (-1), 1) := by decide +kernel
theorem dX5_shut_47 : decode cX5_shut 47 = .ok (.ixor, 1) := by decide +kernel
theorem dX5_shut_48 : decode cX5_shut 48 = .ok (.iand, 1) := by decide +kernel
theorem dX5_shut_49 : decode cX5_shut 49 = .ok (.ireturn, 1) := by decide +kernel
def T_X5_shut (post : PO) : List (Nat × OP) := [(0, o_aload 0 1), (1, o_iload 1 2), (2, o_callV 5 S_X5_isKey 1 5), (5, o_if (fun x => x = 0) 22 8), (8, o_aload 0 9), (9, o_getf 5 5 12), (12, o_const 9 14), (14, o_iload 1 15), (15, o_bin (fun x y => x + y) 16), (16, o_ald 0 17), (17, o_const (-3) 19), (19, o_icmp (fun x y => x = y) 22 24), (22, o_const (-1) 23), (23, o_iret post), (24, o_aload 0 25), (25, o_aload 0 26), (26, o_callV 5 S_X5_all 0 29), (29, o_callV 5 S_X5_opensBy 1 32), (32, o_aload 0 33), (33, o_aload 0 34), (34, o_callV 5 S_X5_all 0 37), (37, o_const 1 38), (38, o_iload 1 39), (39, o_bin (fun x y => x <<< (y &&& 31)) 40), (40, o_const (-1) 41), (41, o_bin (fun x y => x ^^^ y) 42), (42, o_bin (fun x y => x &&& y) 43), (43, o_callV 5 S_X5_opensBy 1 46), (46, o_const (-1) 47), (47, o_bin (fun x y => x ^^^ y) 48), (48, o_bin (fun x y => x &&& y) 49), (49, o_iret post)]
theorem k_X5_shut_0 (post : PO) : lk (T_X5_shut post) 0 = o_aload 0 1 := rfl
theorem k_X5_shut_1 (post : PO) : lk (T_X5_shut post) 1 = o_iload 1 2 := rfl
theorem k_X5_shut_2 (post : PO) : lk (T_X5_shut post) 2 = o_callV 5 S_X5_isKey 1 5 := rfl
theorem k_X5_shut_5 (post : PO) : lk (T_X5_shut post) 5 = o_if (fun x => x = 0) 22 8 := rfl
theorem k_X5_shut_8 (post : PO) : lk (T_X5_shut post) 8 = o_aload 0 9 := rfl
theorem k_X5_shut_9 (post : PO) : lk (T_X5_shut post) 9 = o_getf 5 5 12 := rfl
theorem k_X5_shut_12 (post : PO) : lk (T_X5_shut post) 12 = o_const 9 14 := rfl
theorem k_X5_shut_14 (post : PO) : lk (T_X5_shut post) 14 = o_iload 1 15 := rfl
theorem k_X5_shut_15 (post : PO) : lk (T_X5_shut post) 15 = o_bin (fun x y => x + y) 16 := rfl
theorem k_X5_shut_16 (post : PO) : lk (T_X5_shut post) 16 = o_ald 0 17 := rfl
theorem k_X5_shut_17 (post : PO) : lk (T_X5_shut post) 17 = o_const (-3) 19 := rfl
theorem k_X5_shut_19 (post : PO) : lk (T_X5_shut post) 19 = o_icmp (fun x y => x = y) 22 24 := rfl
theorem k_X5_shut_22 (post : PO) : lk (T_X5_shut post) 22 = o_const (-1) 23 := rfl
theorem k_X5_shut_23 (post : PO) : lk (T_X5_shut post) 23 = o_iret post := rfl
theorem k_X5_shut_24 (post : PO) : lk (T_X5_shut post) 24 = o_aload 0 25 := rfl
theorem k_X5_shut_25 (post : PO) : lk (T_X5_shut post) 25 = o_aload 0 26 := rfl
theorem k_X5_shut_26 (post : PO) : lk (T_X5_shut post) 26 = o_callV 5 S_X5_all 0 29 := rfl
theorem k_X5_shut_29 (post : PO) : lk (T_X5_shut post) 29 = o_callV 5 S_X5_opensBy 1 32 := rfl
theorem k_X5_shut_32 (post : PO) : lk (T_X5_shut post) 32 = o_aload 0 33 := rfl
theorem k_X5_shut_33 (post : PO) : lk (T_X5_shut post) 33 = o_aload 0 34 := rfl
theorem k_X5_shut_34 (post : PO) : lk (T_X5_shut post) 34 = o_callV 5 S_X5_all 0 37 := rfl
theorem k_X5_shut_37 (post : PO) : lk (T_X5_shut post) 37 = o_const 1 38 := rfl
theorem k_X5_shut_38 (post : PO) : lk (T_X5_shut post) 38 = o_iload 1 39 := rfl
theorem k_X5_shut_39 (post : PO) : lk (T_X5_shut post) 39 = o_bin (fun x y => x <<< (y &&& 31)) 40 := rfl
theorem k_X5_shut_40 (post : PO) : lk (T_X5_shut post) 40 = o_const (-1) 41 := rfl
theorem k_X5_shut_41 (post : PO) : lk (T_X5_shut post) 41 = o_bin (fun x y => x ^^^ y) 42 := rfl
theorem k_X5_shut_42 (post : PO) : lk (T_X5_shut post) 42 = o_bin (fun x y => x &&& y) 43 := rfl
theorem k_X5_shut_43 (post : PO) : lk (T_X5_shut post) 43 = o_callV 5 S_X5_opensBy 1 46 := rfl
theorem k_X5_shut_46 (post : PO) : lk (T_X5_shut post) 46 = o_const (-1) 47 := rfl
theorem k_X5_shut_47 (post : PO) : lk (T_X5_shut post) 47 = o_bin (fun x y => x ^^^ y) 48 := rfl
theorem k_X5_shut_48 (post : PO) : lk (T_X5_shut post) 48 = o_bin (fun x y => x &&& y) 49 := rfl
theorem k_X5_shut_49 (post : PO) : lk (T_X5_shut post) 49 = o_iret post := rfl
set_option maxRecDepth 100000 in
theorem t_X5_shut {p : Program} {l : Launch} {e : Env} {s : State} {m : MethodId} {args : Array Value} {below : List Frame} {meth : Method} {c : Code} {D : va_G} {dA : Nat → ClassId} {ad : Nat → Nat} (post : PO) (C : CX p s m args meth c cX5_shut 2 yX5_shut.cls D dA ad (AA ad s.heap.size)) (hr : meth.sig.returnType = (some .int)) : SndL (WW p l e ({ frames := 3, cells := 0, slots := 0, locals := 66 } : Room) s m args below meth c 0 0 (MQ below (CQ D dA ad post (AA ad s.heap.size)) args s 0 0 (AA ad s.heap.size)) 2 D dA ad (AA ad s.heap.size)) (T_X5_shut post) := by
  refine snd_c (s_aload_n C rfl dX5_shut_0) ?_
  refine snd_c (s_iload_n C rfl dX5_shut_1) ?_
  refine snd_c (s_callV C (ci := 5) c_X5_isKey rfl cw_RX5_98 ⟨rfl, rfl⟩ ⟨by decide +kernel, by decide +kernel, by decide +kernel⟩ ⟨by decide, by decide⟩ ⟨Nat.zero_le _, Nat.zero_le _⟩ dX5_shut_2) ?_
  refine snd_c (s_if_eq C dX5_shut_5 (by decide)) ?_
  refine snd_c (s_aload_n C rfl dX5_shut_8) ?_
  refine snd_c (s_getf C (ci := 5) (j := 5) (T := TX5) rfl inX5 (by decide) fl_RX5_19 dX5_shut_9) ?_
  refine snd_c (s_bipush C dX5_shut_12 rfl) ?_
  refine snd_c (s_iload_n C rfl dX5_shut_14) ?_
  refine snd_c (s_iadd C dX5_shut_15) ?_
  refine snd_c (s_iald C dX5_shut_16) ?_
  refine snd_c (s_bipush C dX5_shut_17 rfl) ?_
  refine snd_c (s_icmp_ne C dX5_shut_19 (by decide)) ?_
  refine snd_c (s_iconst C dX5_shut_22 rfl) ?_
  refine snd_c (s_iret C hr dX5_shut_23) ?_
  refine snd_c (s_aload_n C rfl dX5_shut_24) ?_
  refine snd_c (s_aload_n C rfl dX5_shut_25) ?_
  refine snd_c (s_callV C (ci := 5) c_X5_all rfl cw_RX5_104 ⟨rfl, rfl⟩ ⟨by decide +kernel, by decide +kernel, by decide +kernel⟩ ⟨by decide, by decide⟩ ⟨Nat.zero_le _, Nat.zero_le _⟩ dX5_shut_26) ?_
  refine snd_c (s_callV C (ci := 5) c_X5_opensBy rfl cw_RX5_140 ⟨rfl, rfl⟩ ⟨by decide +kernel, by decide +kernel, by decide +kernel⟩ ⟨by decide, by decide⟩ ⟨Nat.zero_le _, Nat.zero_le _⟩ dX5_shut_29) ?_
  refine snd_c (s_aload_n C rfl dX5_shut_32) ?_
  refine snd_c (s_aload_n C rfl dX5_shut_33) ?_
  refine snd_c (s_callV C (ci := 5) c_X5_all rfl cw_RX5_104 ⟨rfl, rfl⟩ ⟨by decide +kernel, by decide +kernel, by decide +kernel⟩ ⟨by decide, by decide⟩ ⟨Nat.zero_le _, Nat.zero_le _⟩ dX5_shut_34) ?_
  refine snd_c (s_iconst C dX5_shut_37 rfl) ?_
  refine snd_c (s_iload_n C rfl dX5_shut_38) ?_
  refine snd_c (s_ishl C dX5_shut_39) ?_
  refine snd_c (s_iconst C dX5_shut_40 rfl) ?_
  refine snd_c (s_ixor C dX5_shut_41) ?_
  refine snd_c (s_iand C dX5_shut_42) ?_
  refine snd_c (s_callV C (ci := 5) c_X5_opensBy rfl cw_RX5_140 ⟨rfl, rfl⟩ ⟨by decide +kernel, by decide +kernel, by decide +kernel⟩ ⟨by decide, by decide⟩ ⟨Nat.zero_le _, Nat.zero_le _⟩ dX5_shut_43) ?_
  refine snd_c (s_iconst C dX5_shut_46 rfl) ?_
  refine snd_c (s_ixor C dX5_shut_47) ?_
  refine snd_c (s_iand C dX5_shut_48) ?_
  refine snd_c (s_iret C hr dX5_shut_49) ?_
  exact trivial
theorem cw_RX5_131 : ∀ w ∈ ([.methodLink RX5 131 yX5_ones, .static yX5_ones, .initialized yX5_ones.cls, .code yX5_ones cX5_ones 3 (some .int)] : List Cond), w ∈ tb := tb_all [808, 809, 59, 810] (by decide +kernel) (by decide +kernel)
theorem dX5_apart_0 : decode cX5_apart 0 = .ok (.aload_n 0, 1) := by decide +kernel
theorem dX5_apart_1 : decode cX5_apart 1 = .ok (.aload_n 0, 1) := by decide +kernel
theorem dX5_apart_2 : decode cX5_apart 2 = .ok (.invokevirtual 104, 3) := by decide +kernel
theorem dX5_apart_5 : decode cX5_apart 5 = .ok (.invokevirtual 124, 3) := by decide +kernel
theorem dX5_apart_8 : decode cX5_apart 8 = .ok (.bipush (-9), 2) := by decide +kernel
theorem dX5_apart_10 : decode cX5_apart 10 = .ok (.istore_n 1, 1) := by decide +kernel
theorem dX5_apart_11 : decode cX5_apart 11 = .ok (.iconst 1, 1) := by decide +kernel
theorem dX5_apart_12 : decode cX5_apart 12 = .ok (.istore_n 2, 1) := by decide +kernel
theorem dX5_apart_13 : decode cX5_apart 13 = .ok (.iload_n 2, 1) := by decide +kernel
theorem dX5_apart_14 : decode cX5_apart 14 = .ok (.sipush 512, 3) := by decide +kernel
theorem dX5_apart_17 : decode cX5_apart 17 = .ok (.if_icmp .ge 41, 3) := by decide +kernel
theorem dX5_apart_20 : decode cX5_apart 20 = .ok (.aload_n 0, 1) := by decide +kernel
theorem dX5_apart_21 : decode cX5_apart 21 = .ok (.getfield 29, 3) := by decide +kernel
theorem dX5_apart_24 : decode cX5_apart 24 = .ok (.iload_n 2, 1) := by decide +kernel
theorem dX5_apart_25 : decode cX5_apart 25 = .ok (.baload, 1) := by decide +kernel
theorem dX5_apart_26 : decode cX5_apart 26 = .ok (.ifCond .eq 24, 3) := by decide +kernel
theorem dX5_apart_29 : decode cX5_apart 29 = .ok (.iload_n 1, 1) := by decide +kernel
theorem dX5_apart_30 : decode cX5_apart 30 = .ok (.bipush (-9), 2) := by decide +kernel
theorem dX5_apart_32 : decode cX5_apart 32 = .ok (.if_icmp .eq 11, 3) := by decide +kernel
theorem dX5_apart_35 : decode cX5_apart 35 = .ok (.iload_n 2, 1) := by decide +kernel
theorem dX5_apart_36 : decode cX5_apart 36 = .ok (.invokestatic 131, 3) := by decide +kernel
theorem dX5_apart_39 : decode cX5_apart 39 = .ok (.iload_n 1, 1) := by decide +kernel
theorem dX5_apart_40 : decode cX5_apart 40 = .ok (.if_icmp .ge 10, 3) := by decide +kernel
theorem dX5_apart_43 : decode cX5_apart 43 = .ok (.iload_n 2, 1) := by decide +kernel
theorem dX5_apart_44 : decode cX5_apart 44 = .ok (.invokestatic 131, 3) := by decide +kernel
theorem dX5_apart_47 : decode cX5_apart 47 = .ok (.goto 4, 3) := by decide +kernel
theorem dX5_apart_50 : decode cX5_apart 50 = .ok (.iload_n 1, 1) := by decide +kernel
theorem dX5_apart_51 : decode cX5_apart 51 = .ok (.istore_n 1, 1) := by decide +kernel
theorem dX5_apart_52 : decode cX5_apart 52 = .ok (.iinc 2 1, 3) := by decide +kernel
theorem dX5_apart_55 : decode cX5_apart 55 = .ok (.goto (-42), 3) := by decide +kernel
theorem dX5_apart_58 : decode cX5_apart 58 = .ok (.iload_n 1, 1) := by decide +kernel
theorem dX5_apart_59 : decode cX5_apart 59 = .ok (.ireturn, 1) := by decide +kernel
def T_X5_apart (post : PO) : List (Nat × OP) := [(0, o_aload 0 1), (1, o_aload 0 2), (2, o_callV 5 S_X5_all 0 5), (5, o_callV 5 S_X5_makes 1 8), (8, o_const (-9) 10), (10, o_istore 1 11), (11, o_const 1 12), (12, o_istore 2 13), (13, o_iload 2 14), (14, o_const 512 17), (17, o_icmp (fun x y => y ≤ x) 58 20), (20, o_aload 0 21), (21, o_getf 5 12 24), (24, o_iload 2 25), (25, o_ald 2 26), (26, o_if (fun x => x = 0) 50 29), (29, o_iload 1 30), (30, o_const (-9) 32), (32, o_icmp (fun x y => x = y) 43 35), (35, o_iload 2 36), (36, o_callS S_X5_ones 1 39), (39, o_iload 1 40), (40, o_icmp (fun x y => y ≤ x) 50 43), (43, o_iload 2 44), (44, o_callS S_X5_ones 1 47), (47, o_goto 51), (50, o_iload 1 51), (51, o_istore 1 52), (52, o_iinc 2 1 55), (55, o_goto 13), (58, o_iload 1 59), (59, o_iret post)]
theorem k_X5_apart_0 (post : PO) : lk (T_X5_apart post) 0 = o_aload 0 1 := rfl
theorem k_X5_apart_1 (post : PO) : lk (T_X5_apart post) 1 = o_aload 0 2 := rfl
theorem k_X5_apart_2 (post : PO) : lk (T_X5_apart post) 2 = o_callV 5 S_X5_all 0 5 := rfl
theorem k_X5_apart_5 (post : PO) : lk (T_X5_apart post) 5 = o_callV 5 S_X5_makes 1 8 := rfl
theorem k_X5_apart_8 (post : PO) : lk (T_X5_apart post) 8 = o_const (-9) 10 := rfl
theorem k_X5_apart_10 (post : PO) : lk (T_X5_apart post) 10 = o_istore 1 11 := rfl
theorem k_X5_apart_11 (post : PO) : lk (T_X5_apart post) 11 = o_const 1 12 := rfl
theorem k_X5_apart_12 (post : PO) : lk (T_X5_apart post) 12 = o_istore 2 13 := rfl
theorem k_X5_apart_13 (post : PO) : lk (T_X5_apart post) 13 = o_iload 2 14 := rfl
theorem k_X5_apart_14 (post : PO) : lk (T_X5_apart post) 14 = o_const 512 17 := rfl
theorem k_X5_apart_17 (post : PO) : lk (T_X5_apart post) 17 = o_icmp (fun x y => y ≤ x) 58 20 := rfl
theorem k_X5_apart_20 (post : PO) : lk (T_X5_apart post) 20 = o_aload 0 21 := rfl
theorem k_X5_apart_21 (post : PO) : lk (T_X5_apart post) 21 = o_getf 5 12 24 := rfl
theorem k_X5_apart_24 (post : PO) : lk (T_X5_apart post) 24 = o_iload 2 25 := rfl
theorem k_X5_apart_25 (post : PO) : lk (T_X5_apart post) 25 = o_ald 2 26 := rfl
theorem k_X5_apart_26 (post : PO) : lk (T_X5_apart post) 26 = o_if (fun x => x = 0) 50 29 := rfl
theorem k_X5_apart_29 (post : PO) : lk (T_X5_apart post) 29 = o_iload 1 30 := rfl
theorem k_X5_apart_30 (post : PO) : lk (T_X5_apart post) 30 = o_const (-9) 32 := rfl
theorem k_X5_apart_32 (post : PO) : lk (T_X5_apart post) 32 = o_icmp (fun x y => x = y) 43 35 := rfl
theorem k_X5_apart_35 (post : PO) : lk (T_X5_apart post) 35 = o_iload 2 36 := rfl
theorem k_X5_apart_36 (post : PO) : lk (T_X5_apart post) 36 = o_callS S_X5_ones 1 39 := rfl
theorem k_X5_apart_39 (post : PO) : lk (T_X5_apart post) 39 = o_iload 1 40 := rfl
theorem k_X5_apart_40 (post : PO) : lk (T_X5_apart post) 40 = o_icmp (fun x y => y ≤ x) 50 43 := rfl
theorem k_X5_apart_43 (post : PO) : lk (T_X5_apart post) 43 = o_iload 2 44 := rfl
theorem k_X5_apart_44 (post : PO) : lk (T_X5_apart post) 44 = o_callS S_X5_ones 1 47 := rfl
theorem k_X5_apart_47 (post : PO) : lk (T_X5_apart post) 47 = o_goto 51 := rfl
theorem k_X5_apart_50 (post : PO) : lk (T_X5_apart post) 50 = o_iload 1 51 := rfl
theorem k_X5_apart_51 (post : PO) : lk (T_X5_apart post) 51 = o_istore 1 52 := rfl
theorem k_X5_apart_52 (post : PO) : lk (T_X5_apart post) 52 = o_iinc 2 1 55 := rfl
theorem k_X5_apart_55 (post : PO) : lk (T_X5_apart post) 55 = o_goto 13 := rfl
theorem k_X5_apart_58 (post : PO) : lk (T_X5_apart post) 58 = o_iload 1 59 := rfl
theorem k_X5_apart_59 (post : PO) : lk (T_X5_apart post) 59 = o_iret post := rfl
set_option maxRecDepth 100000 in
theorem t_X5_apart {p : Program} {l : Launch} {e : Env} {s : State} {m : MethodId} {args : Array Value} {below : List Frame} {meth : Method} {c : Code} {D : va_G} {dA : Nat → ClassId} {ad : Nat → Nat} (post : PO) (C : CX p s m args meth c cX5_apart 3 yX5_apart.cls D dA ad (AA ad s.heap.size)) (hr : meth.sig.returnType = (some .int)) : SndL (WW p l e ({ frames := 2, cells := 0, slots := 0, locals := 45 } : Room) s m args below meth c 0 0 (MQ below (CQ D dA ad post (AA ad s.heap.size)) args s 0 0 (AA ad s.heap.size)) 3 D dA ad (AA ad s.heap.size)) (T_X5_apart post) := by
  refine snd_c (s_aload_n C rfl dX5_apart_0) ?_
  refine snd_c (s_aload_n C rfl dX5_apart_1) ?_
  refine snd_c (s_callV C (ci := 5) c_X5_all rfl cw_RX5_104 ⟨rfl, rfl⟩ ⟨by decide +kernel, by decide +kernel, by decide +kernel⟩ ⟨by decide, by decide⟩ ⟨Nat.zero_le _, Nat.zero_le _⟩ dX5_apart_2) ?_
  refine snd_c (s_callV C (ci := 5) c_X5_makes rfl cw_RX5_124 ⟨rfl, rfl⟩ ⟨by decide +kernel, by decide +kernel, by decide +kernel⟩ ⟨by decide, by decide⟩ ⟨Nat.zero_le _, Nat.zero_le _⟩ dX5_apart_5) ?_
  refine snd_c (s_bipush C dX5_apart_8 rfl) ?_
  refine snd_c (s_istore_n C rfl (by decide) dX5_apart_10) ?_
  refine snd_c (s_iconst C dX5_apart_11 rfl) ?_
  refine snd_c (s_istore_n C rfl (by decide) dX5_apart_12) ?_
  refine snd_c (s_iload_n C rfl dX5_apart_13) ?_
  refine snd_c (s_sipush C dX5_apart_14 rfl) ?_
  refine snd_c (s_icmp_ge C dX5_apart_17 (by decide)) ?_
  refine snd_c (s_aload_n C rfl dX5_apart_20) ?_
  refine snd_c (s_getf C (ci := 5) (j := 12) (T := TX5) rfl inX5 (by decide) fl_RX5_29 dX5_apart_21) ?_
  refine snd_c (s_iload_n C rfl dX5_apart_24) ?_
  refine snd_c (s_bald2 C dX5_apart_25) ?_
  refine snd_c (s_if_eq C dX5_apart_26 (by decide)) ?_
  refine snd_c (s_iload_n C rfl dX5_apart_29) ?_
  refine snd_c (s_bipush C dX5_apart_30 rfl) ?_
  refine snd_c (s_icmp_eq C dX5_apart_32 (by decide)) ?_
  refine snd_c (s_iload_n C rfl dX5_apart_35) ?_
  refine snd_c (s_callS C c_X5_ones cw_RX5_131 ⟨rfl, rfl⟩ ⟨by decide +kernel, by decide +kernel, by decide +kernel⟩ ⟨by decide, by decide⟩ ⟨Nat.zero_le _, Nat.zero_le _⟩ dX5_apart_36) ?_
  refine snd_c (s_iload_n C rfl dX5_apart_39) ?_
  refine snd_c (s_icmp_ge C dX5_apart_40 (by decide)) ?_
  refine snd_c (s_iload_n C rfl dX5_apart_43) ?_
  refine snd_c (s_callS C c_X5_ones cw_RX5_131 ⟨rfl, rfl⟩ ⟨by decide +kernel, by decide +kernel, by decide +kernel⟩ ⟨by decide, by decide⟩ ⟨Nat.zero_le _, Nat.zero_le _⟩ dX5_apart_44) ?_
  refine snd_c (s_goto C dX5_apart_47 (by decide)) ?_
  refine snd_c (s_iload_n C rfl dX5_apart_50) ?_
  refine snd_c (s_istore_n C rfl (by decide) dX5_apart_51) ?_
  refine snd_c (s_iinc C (by decide) rfl dX5_apart_52) ?_
  refine snd_c (s_goto C dX5_apart_55 (by decide)) ?_
  refine snd_c (s_iload_n C rfl dX5_apart_58) ?_
  refine snd_c (s_iret C hr dX5_apart_59) ?_
  exact trivial
theorem dX5_alone_0 : decode cX5_alone 0 = .ok (.iconst 0, 1) := by decide +kernel
theorem dX5_alone_1 : decode cX5_alone 1 = .ok (.istore_n 1, 1) := by decide +kernel
theorem dX5_alone_2 : decode cX5_alone 2 = .ok (.iconst 0, 1) := by decide +kernel
theorem dX5_alone_3 : decode cX5_alone 3 = .ok (.istore_n 2, 1) := by decide +kernel
theorem dX5_alone_4 : decode cX5_alone 4 = .ok (.iload_n 2, 1) := by decide +kernel
theorem dX5_alone_5 : decode cX5_alone 5 = .ok (.aload_n 0, 1) := by decide +kernel
theorem dX5_alone_6 : decode cX5_alone 6 = .ok (.getfield 19, 3) := by decide +kernel
theorem dX5_alone_9 : decode cX5_alone 9 = .ok (.iconst 0, 1) := by decide +kernel
theorem dX5_alone_10 : decode cX5_alone 10 = .ok (.iaload, 1) := by decide +kernel
theorem dX5_alone_11 : decode cX5_alone 11 = .ok (.if_icmp .ge 61, 3) := by decide +kernel
theorem dX5_alone_14 : decode cX5_alone 14 = .ok (.aload_n 0, 1) := by decide +kernel
theorem dX5_alone_15 : decode cX5_alone 15 = .ok (.aload_n 0, 1) := by decide +kernel
theorem dX5_alone_16 : decode cX5_alone 16 = .ok (.invokevirtual 104, 3) := by decide +kernel
theorem dX5_alone_19 : decode cX5_alone 19 = .ok (.iconst 1, 1) := by decide +kernel
theorem dX5_alone_20 : decode cX5_alone 20 = .ok (.iload_n 2, 1) := by decide +kernel
theorem dX5_alone_21 : decode cX5_alone 21 = .ok (.ishl, 1) := by decide +kernel
theorem dX5_alone_22 : decode cX5_alone 22 = .ok (.iconst 1, 1) := by decide +kernel
theorem dX5_alone_23 : decode cX5_alone 23 = .ok (.isub, 1) := by decide +kernel
theorem dX5_alone_24 : decode cX5_alone 24 = .ok (.iand, 1) := by decide +kernel
theorem dX5_alone_25 : decode cX5_alone 25 = .ok (.invokevirtual 124, 3) := by decide +kernel
theorem dX5_alone_28 : decode cX5_alone 28 = .ok (.iload_n 1, 1) := by decide +kernel
theorem dX5_alone_29 : decode cX5_alone 29 = .ok (.aload_n 0, 1) := by decide +kernel
theorem dX5_alone_30 : decode cX5_alone 30 = .ok (.invokevirtual 104, 3) := by decide +kernel
theorem dX5_alone_33 : decode cX5_alone 33 = .ok (.iload_n 2, 1) := by decide +kernel
theorem dX5_alone_34 : decode cX5_alone 34 = .ok (.ishr, 1) := by decide +kernel
theorem dX5_alone_35 : decode cX5_alone 35 = .ok (.iconst 1, 1) := by decide +kernel
theorem dX5_alone_36 : decode cX5_alone 36 = .ok (.iand, 1) := by decide +kernel
theorem dX5_alone_37 : decode cX5_alone 37 = .ok (.iconst 1, 1) := by decide +kernel
theorem dX5_alone_38 : decode cX5_alone 38 = .ok (.if_icmp .ne 25, 3) := by decide +kernel
theorem dX5_alone_41 : decode cX5_alone 41 = .ok (.aload_n 0, 1) := by decide +kernel
theorem dX5_alone_42 : decode cX5_alone 42 = .ok (.getfield 29, 3) := by decide +kernel
theorem dX5_alone_45 : decode cX5_alone 45 = .ok (.aload_n 0, 1) := by decide +kernel
theorem dX5_alone_46 : decode cX5_alone 46 = .ok (.getfield 19, 3) := by decide +kernel
theorem dX5_alone_49 : decode cX5_alone 49 = .ok (.iconst 1, 1) := by decide +kernel
theorem dX5_alone_50 : decode cX5_alone 50 = .ok (.iload_n 2, 1) := by decide +kernel
theorem dX5_alone_51 : decode cX5_alone 51 = .ok (.iadd, 1) := by decide +kernel
theorem dX5_alone_52 : decode cX5_alone 52 = .ok (.iaload, 1) := by decide +kernel
theorem dX5_alone_53 : decode cX5_alone 53 = .ok (.baload, 1) := by decide +kernel
theorem dX5_alone_54 : decode cX5_alone 54 = .ok (.ifCond .ne 9, 3) := by decide +kernel
theorem dX5_alone_57 : decode cX5_alone 57 = .ok (.iconst 1, 1) := by decide +kernel
theorem dX5_alone_58 : decode cX5_alone 58 = .ok (.iload_n 2, 1) := by decide +kernel
theorem dX5_alone_59 : decode cX5_alone 59 = .ok (.ishl, 1) := by decide +kernel
theorem dX5_alone_60 : decode cX5_alone 60 = .ok (.goto 4, 3) := by decide +kernel
theorem dX5_alone_63 : decode cX5_alone 63 = .ok (.iconst 0, 1) := by decide +kernel
theorem dX5_alone_64 : decode cX5_alone 64 = .ok (.ior, 1) := by decide +kernel
theorem dX5_alone_65 : decode cX5_alone 65 = .ok (.istore_n 1, 1) := by decide +kernel
theorem dX5_alone_66 : decode cX5_alone 66 = .ok (.iinc 2 1, 3) := by decide +kernel
theorem dX5_alone_69 : decode cX5_alone 69 = .ok (.goto (-65), 3) := by decide +kernel
theorem dX5_alone_72 : decode cX5_alone 72 = .ok (.iload_n 1, 1) := by decide +kernel
theorem dX5_alone_73 : decode cX5_alone 73 = .ok (.ireturn, 1) := by decide +kernel
def T_X5_alone (post : PO) : List (Nat × OP) := [(0, o_const 0 1), (1, o_istore 1 2), (2, o_const 0 3), (3, o_istore 2 4), (4, o_iload 2 5), (5, o_aload 0 6), (6, o_getf 5 5 9), (9, o_const 0 10), (10, o_ald 0 11), (11, o_icmp (fun x y => y ≤ x) 72 14), (14, o_aload 0 15), (15, o_aload 0 16), (16, o_callV 5 S_X5_all 0 19), (19, o_const 1 20), (20, o_iload 2 21), (21, o_bin (fun x y => x <<< (y &&& 31)) 22), (22, o_const 1 23), (23, o_bin (fun x y => x - y) 24), (24, o_bin (fun x y => x &&& y) 25), (25, o_callV 5 S_X5_makes 1 28), (28, o_iload 1 29), (29, o_aload 0 30), (30, o_callV 5 S_X5_all 0 33), (33, o_iload 2 34), (34, o_bin (fun x y => x >>> (y &&& 31)) 35), (35, o_const 1 36), (36, o_bin (fun x y => x &&& y) 37), (37, o_const 1 38), (38, o_icmp (fun x y => x = y) 41 63), (41, o_aload 0 42), (42, o_getf 5 12 45), (45, o_aload 0 46), (46, o_getf 5 5 49), (49, o_const 1 50), (50, o_iload 2 51), (51, o_bin (fun x y => x + y) 52), (52, o_ald 0 53), (53, o_ald 2 54), (54, o_if (fun x => x = 0) 57 63), (57, o_const 1 58), (58, o_iload 2 59), (59, o_bin (fun x y => x <<< (y &&& 31)) 60), (60, o_goto 64), (63, o_const 0 64), (64, o_bin (fun x y => x ||| y) 65), (65, o_istore 1 66), (66, o_iinc 2 1 69), (69, o_goto 4), (72, o_iload 1 73), (73, o_iret post)]
theorem k_X5_alone_0 (post : PO) : lk (T_X5_alone post) 0 = o_const 0 1 := rfl
theorem k_X5_alone_1 (post : PO) : lk (T_X5_alone post) 1 = o_istore 1 2 := rfl
theorem k_X5_alone_2 (post : PO) : lk (T_X5_alone post) 2 = o_const 0 3 := rfl
theorem k_X5_alone_3 (post : PO) : lk (T_X5_alone post) 3 = o_istore 2 4 := rfl
theorem k_X5_alone_4 (post : PO) : lk (T_X5_alone post) 4 = o_iload 2 5 := rfl
theorem k_X5_alone_5 (post : PO) : lk (T_X5_alone post) 5 = o_aload 0 6 := rfl
theorem k_X5_alone_6 (post : PO) : lk (T_X5_alone post) 6 = o_getf 5 5 9 := rfl
theorem k_X5_alone_9 (post : PO) : lk (T_X5_alone post) 9 = o_const 0 10 := rfl
theorem k_X5_alone_10 (post : PO) : lk (T_X5_alone post) 10 = o_ald 0 11 := rfl
theorem k_X5_alone_11 (post : PO) : lk (T_X5_alone post) 11 = o_icmp (fun x y => y ≤ x) 72 14 := rfl
theorem k_X5_alone_14 (post : PO) : lk (T_X5_alone post) 14 = o_aload 0 15 := rfl
theorem k_X5_alone_15 (post : PO) : lk (T_X5_alone post) 15 = o_aload 0 16 := rfl
theorem k_X5_alone_16 (post : PO) : lk (T_X5_alone post) 16 = o_callV 5 S_X5_all 0 19 := rfl
theorem k_X5_alone_19 (post : PO) : lk (T_X5_alone post) 19 = o_const 1 20 := rfl
theorem k_X5_alone_20 (post : PO) : lk (T_X5_alone post) 20 = o_iload 2 21 := rfl
theorem k_X5_alone_21 (post : PO) : lk (T_X5_alone post) 21 = o_bin (fun x y => x <<< (y &&& 31)) 22 := rfl
theorem k_X5_alone_22 (post : PO) : lk (T_X5_alone post) 22 = o_const 1 23 := rfl
theorem k_X5_alone_23 (post : PO) : lk (T_X5_alone post) 23 = o_bin (fun x y => x - y) 24 := rfl
theorem k_X5_alone_24 (post : PO) : lk (T_X5_alone post) 24 = o_bin (fun x y => x &&& y) 25 := rfl
theorem k_X5_alone_25 (post : PO) : lk (T_X5_alone post) 25 = o_callV 5 S_X5_makes 1 28 := rfl
theorem k_X5_alone_28 (post : PO) : lk (T_X5_alone post) 28 = o_iload 1 29 := rfl
theorem k_X5_alone_29 (post : PO) : lk (T_X5_alone post) 29 = o_aload 0 30 := rfl
theorem k_X5_alone_30 (post : PO) : lk (T_X5_alone post) 30 = o_callV 5 S_X5_all 0 33 := rfl
theorem k_X5_alone_33 (post : PO) : lk (T_X5_alone post) 33 = o_iload 2 34 := rfl
theorem k_X5_alone_34 (post : PO) : lk (T_X5_alone post) 34 = o_bin (fun x y => x >>> (y &&& 31)) 35 := rfl
theorem k_X5_alone_35 (post : PO) : lk (T_X5_alone post) 35 = o_const 1 36 := rfl
theorem k_X5_alone_36 (post : PO) : lk (T_X5_alone post) 36 = o_bin (fun x y => x &&& y) 37 := rfl
theorem k_X5_alone_37 (post : PO) : lk (T_X5_alone post) 37 = o_const 1 38 := rfl
theorem k_X5_alone_38 (post : PO) : lk (T_X5_alone post) 38 = o_icmp (fun x y => x = y) 41 63 := rfl
theorem k_X5_alone_41 (post : PO) : lk (T_X5_alone post) 41 = o_aload 0 42 := rfl
theorem k_X5_alone_42 (post : PO) : lk (T_X5_alone post) 42 = o_getf 5 12 45 := rfl
theorem k_X5_alone_45 (post : PO) : lk (T_X5_alone post) 45 = o_aload 0 46 := rfl
theorem k_X5_alone_46 (post : PO) : lk (T_X5_alone post) 46 = o_getf 5 5 49 := rfl
theorem k_X5_alone_49 (post : PO) : lk (T_X5_alone post) 49 = o_const 1 50 := rfl
theorem k_X5_alone_50 (post : PO) : lk (T_X5_alone post) 50 = o_iload 2 51 := rfl
theorem k_X5_alone_51 (post : PO) : lk (T_X5_alone post) 51 = o_bin (fun x y => x + y) 52 := rfl
theorem k_X5_alone_52 (post : PO) : lk (T_X5_alone post) 52 = o_ald 0 53 := rfl
theorem k_X5_alone_53 (post : PO) : lk (T_X5_alone post) 53 = o_ald 2 54 := rfl
theorem k_X5_alone_54 (post : PO) : lk (T_X5_alone post) 54 = o_if (fun x => x = 0) 57 63 := rfl
theorem k_X5_alone_57 (post : PO) : lk (T_X5_alone post) 57 = o_const 1 58 := rfl
theorem k_X5_alone_58 (post : PO) : lk (T_X5_alone post) 58 = o_iload 2 59 := rfl
theorem k_X5_alone_59 (post : PO) : lk (T_X5_alone post) 59 = o_bin (fun x y => x <<< (y &&& 31)) 60 := rfl
theorem k_X5_alone_60 (post : PO) : lk (T_X5_alone post) 60 = o_goto 64 := rfl
theorem k_X5_alone_63 (post : PO) : lk (T_X5_alone post) 63 = o_const 0 64 := rfl
theorem k_X5_alone_64 (post : PO) : lk (T_X5_alone post) 64 = o_bin (fun x y => x ||| y) 65 := rfl
theorem k_X5_alone_65 (post : PO) : lk (T_X5_alone post) 65 = o_istore 1 66 := rfl
theorem k_X5_alone_66 (post : PO) : lk (T_X5_alone post) 66 = o_iinc 2 1 69 := rfl
theorem k_X5_alone_69 (post : PO) : lk (T_X5_alone post) 69 = o_goto 4 := rfl
theorem k_X5_alone_72 (post : PO) : lk (T_X5_alone post) 72 = o_iload 1 73 := rfl
theorem k_X5_alone_73 (post : PO) : lk (T_X5_alone post) 73 = o_iret post := rfl
set_option maxRecDepth 100000 in
theorem t_X5_alone {p : Program} {l : Launch} {e : Env} {s : State} {m : MethodId} {args : Array Value} {below : List Frame} {meth : Method} {c : Code} {D : va_G} {dA : Nat → ClassId} {ad : Nat → Nat} (post : PO) (C : CX p s m args meth c cX5_alone 3 yX5_alone.cls D dA ad (AA ad s.heap.size)) (hr : meth.sig.returnType = (some .int)) : SndL (WW p l e ({ frames := 2, cells := 0, slots := 0, locals := 45 } : Room) s m args below meth c 0 0 (MQ below (CQ D dA ad post (AA ad s.heap.size)) args s 0 0 (AA ad s.heap.size)) 3 D dA ad (AA ad s.heap.size)) (T_X5_alone post) := by
  refine snd_c (s_iconst C dX5_alone_0 rfl) ?_
  refine snd_c (s_istore_n C rfl (by decide) dX5_alone_1) ?_
  refine snd_c (s_iconst C dX5_alone_2 rfl) ?_
  refine snd_c (s_istore_n C rfl (by decide) dX5_alone_3) ?_
  refine snd_c (s_iload_n C rfl dX5_alone_4) ?_
  refine snd_c (s_aload_n C rfl dX5_alone_5) ?_
  refine snd_c (s_getf C (ci := 5) (j := 5) (T := TX5) rfl inX5 (by decide) fl_RX5_19 dX5_alone_6) ?_
  refine snd_c (s_iconst C dX5_alone_9 rfl) ?_
  refine snd_c (s_iald C dX5_alone_10) ?_
  refine snd_c (s_icmp_ge C dX5_alone_11 (by decide)) ?_
  refine snd_c (s_aload_n C rfl dX5_alone_14) ?_
  refine snd_c (s_aload_n C rfl dX5_alone_15) ?_
  refine snd_c (s_callV C (ci := 5) c_X5_all rfl cw_RX5_104 ⟨rfl, rfl⟩ ⟨by decide +kernel, by decide +kernel, by decide +kernel⟩ ⟨by decide, by decide⟩ ⟨Nat.zero_le _, Nat.zero_le _⟩ dX5_alone_16) ?_
  refine snd_c (s_iconst C dX5_alone_19 rfl) ?_
  refine snd_c (s_iload_n C rfl dX5_alone_20) ?_
  refine snd_c (s_ishl C dX5_alone_21) ?_
  refine snd_c (s_iconst C dX5_alone_22 rfl) ?_
  refine snd_c (s_isub C dX5_alone_23) ?_
  refine snd_c (s_iand C dX5_alone_24) ?_
  refine snd_c (s_callV C (ci := 5) c_X5_makes rfl cw_RX5_124 ⟨rfl, rfl⟩ ⟨by decide +kernel, by decide +kernel, by decide +kernel⟩ ⟨by decide, by decide⟩ ⟨Nat.zero_le _, Nat.zero_le _⟩ dX5_alone_25) ?_
  refine snd_c (s_iload_n C rfl dX5_alone_28) ?_
  refine snd_c (s_aload_n C rfl dX5_alone_29) ?_
  refine snd_c (s_callV C (ci := 5) c_X5_all rfl cw_RX5_104 ⟨rfl, rfl⟩ ⟨by decide +kernel, by decide +kernel, by decide +kernel⟩ ⟨by decide, by decide⟩ ⟨Nat.zero_le _, Nat.zero_le _⟩ dX5_alone_30) ?_
  refine snd_c (s_iload_n C rfl dX5_alone_33) ?_
  refine snd_c (s_ishr C dX5_alone_34) ?_
  refine snd_c (s_iconst C dX5_alone_35 rfl) ?_
  refine snd_c (s_iand C dX5_alone_36) ?_
  refine snd_c (s_iconst C dX5_alone_37 rfl) ?_
  refine snd_c (s_icmp_ne C dX5_alone_38 (by decide)) ?_
  refine snd_c (s_aload_n C rfl dX5_alone_41) ?_
  refine snd_c (s_getf C (ci := 5) (j := 12) (T := TX5) rfl inX5 (by decide) fl_RX5_29 dX5_alone_42) ?_
  refine snd_c (s_aload_n C rfl dX5_alone_45) ?_
  refine snd_c (s_getf C (ci := 5) (j := 5) (T := TX5) rfl inX5 (by decide) fl_RX5_19 dX5_alone_46) ?_
  refine snd_c (s_iconst C dX5_alone_49 rfl) ?_
  refine snd_c (s_iload_n C rfl dX5_alone_50) ?_
  refine snd_c (s_iadd C dX5_alone_51) ?_
  refine snd_c (s_iald C dX5_alone_52) ?_
  refine snd_c (s_bald2 C dX5_alone_53) ?_
  refine snd_c (s_if_ne C dX5_alone_54 (by decide)) ?_
  refine snd_c (s_iconst C dX5_alone_57 rfl) ?_
  refine snd_c (s_iload_n C rfl dX5_alone_58) ?_
  refine snd_c (s_ishl C dX5_alone_59) ?_
  refine snd_c (s_goto C dX5_alone_60 (by decide)) ?_
  refine snd_c (s_iconst C dX5_alone_63 rfl) ?_
  refine snd_c (s_ior C dX5_alone_64) ?_
  refine snd_c (s_istore_n C rfl (by decide) dX5_alone_65) ?_
  refine snd_c (s_iinc C (by decide) rfl dX5_alone_66) ?_
  refine snd_c (s_goto C dX5_alone_69 (by decide)) ?_
  refine snd_c (s_iload_n C rfl dX5_alone_72) ?_
  refine snd_c (s_iret C hr dX5_alone_73) ?_
  exact trivial
theorem cw_RX5_147 : ∀ w ∈ ([.methodLink RX5 147 yX5_box, .instanceMethod yX5_box, .selects yX5_box.cls yX5_box yX5_box, .initialized yX5_box.cls, .code yX5_box cX5_box 3 (some .int)] : List Cond), w ∈ tb := tb_all [855, 857, 52, 59, 858] (by decide +kernel) (by decide +kernel)
theorem dX5_rob_0 : decode cX5_rob 0 = .ok (.iload_n 1, 1) := by decide +kernel
theorem dX5_rob_1 : decode cX5_rob 1 = .ok (.iconst 0, 1) := by decide +kernel
theorem dX5_rob_2 : decode cX5_rob 2 = .ok (.iconst 1, 1) := by decide +kernel
theorem dX5_rob_3 : decode cX5_rob 3 = .ok (.aload_n 0, 1) := by decide +kernel
theorem dX5_rob_4 : decode cX5_rob 4 = .ok (.getfield 13, 3) := by decide +kernel
theorem dX5_rob_7 : decode cX5_rob 7 = .ok (.iconst 0, 1) := by decide +kernel
theorem dX5_rob_8 : decode cX5_rob 8 = .ok (.iaload, 1) := by decide +kernel
theorem dX5_rob_9 : decode cX5_rob 9 = .ok (.ishl, 1) := by decide +kernel
theorem dX5_rob_10 : decode cX5_rob 10 = .ok (.iconst 1, 1) := by decide +kernel
theorem dX5_rob_11 : decode cX5_rob 11 = .ok (.isub, 1) := by decide +kernel
theorem dX5_rob_12 : decode cX5_rob 12 = .ok (.invokestatic 35, 3) := by decide +kernel
theorem dX5_rob_15 : decode cX5_rob 15 = .ok (.ifCond .ne 5, 3) := by decide +kernel
theorem dX5_rob_18 : decode cX5_rob 18 = .ok (.iconst (-1), 1) := by decide +kernel
theorem dX5_rob_19 : decode cX5_rob 19 = .ok (.ireturn, 1) := by decide +kernel
theorem dX5_rob_20 : decode cX5_rob 20 = .ok (.bipush (-9), 2) := by decide +kernel
theorem dX5_rob_22 : decode cX5_rob 22 = .ok (.istore_n 2, 1) := by decide +kernel
theorem dX5_rob_23 : decode cX5_rob 23 = .ok (.iconst 0, 1) := by decide +kernel
theorem dX5_rob_24 : decode cX5_rob 24 = .ok (.istore_n 3, 1) := by decide +kernel
theorem dX5_rob_25 : decode cX5_rob 25 = .ok (.aload_n 0, 1) := by decide +kernel
theorem dX5_rob_26 : decode cX5_rob 26 = .ok (.iload_n 3, 1) := by decide +kernel
theorem dX5_rob_27 : decode cX5_rob 27 = .ok (.invokevirtual 134, 3) := by decide +kernel
theorem dX5_rob_30 : decode cX5_rob 30 = .ok (.ifCond .eq 65, 3) := by decide +kernel
theorem dX5_rob_33 : decode cX5_rob 33 = .ok (.iload_n 1, 1) := by decide +kernel
theorem dX5_rob_34 : decode cX5_rob 34 = .ok (.aload_n 0, 1) := by decide +kernel
theorem dX5_rob_35 : decode cX5_rob 35 = .ok (.aload_n 0, 1) := by decide +kernel
theorem dX5_rob_36 : decode cX5_rob 36 = .ok (.iload_n 3, 1) := by decide +kernel
theorem dX5_rob_37 : decode cX5_rob 37 = .ok (.invokevirtual 137, 3) := by decide +kernel
theorem dX5_rob_40 : decode cX5_rob 40 = .ok (.aload_n 0, 1) := by decide +kernel
theorem dX5_rob_41 : decode cX5_rob 41 = .ok (.invokevirtual 147, 3) := by decide +kernel
theorem dX5_rob_44 : decode cX5_rob 44 = .ok (.ior, 1) := by decide +kernel
theorem dX5_rob_45 : decode cX5_rob 45 = .ok (.invokevirtual 140, 3) := by decide +kernel
theorem dX5_rob_48 : decode cX5_rob 48 = .ok (.iconst (-1), 1) := by decide +kernel
theorem dX5_rob_49 : decode cX5_rob 49 = .ok (.ixor, 1) := by decide +kernel
theorem dX5_rob_50 : decode cX5_rob 50 = .ok (.iand, 1) := by decide +kernel
theorem dX5_rob_51 : decode cX5_rob 51 = .ok (.ifCond .ne 7, 3) := by decide +kernel
theorem dX5_rob_54 : decode cX5_rob 54 = .ok (.iconst 1, 1) := by decide +kernel
theorem dX5_rob_55 : decode cX5_rob 55 = .ok (.goto 4, 3) := by decide +kernel
theorem dX5_rob_58 : decode cX5_rob 58 = .ok (.iconst 0, 1) := by decide +kernel
theorem dX5_rob_59 : decode cX5_rob 59 = .ok (.istore 4, 2) := by decide +kernel
theorem dX5_rob_61 : decode cX5_rob 61 = .ok (.iload 4, 2) := by decide +kernel
theorem dX5_rob_63 : decode cX5_rob 63 = .ok (.ifCond .eq 24, 3) := by decide +kernel
theorem dX5_rob_66 : decode cX5_rob 66 = .ok (.iload_n 2, 1) := by decide +kernel
theorem dX5_rob_67 : decode cX5_rob 67 = .ok (.bipush (-9), 2) := by decide +kernel
theorem dX5_rob_69 : decode cX5_rob 69 = .ok (.if_icmp .eq 14, 3) := by decide +kernel
theorem dX5_rob_72 : decode cX5_rob 72 = .ok (.iload_n 3, 1) := by decide +kernel
theorem dX5_rob_73 : decode cX5_rob 73 = .ok (.invokestatic 131, 3) := by decide +kernel
theorem dX5_rob_76 : decode cX5_rob 76 = .ok (.iload_n 2, 1) := by decide +kernel
theorem dX5_rob_77 : decode cX5_rob 77 = .ok (.invokestatic 131, 3) := by decide +kernel
theorem dX5_rob_80 : decode cX5_rob 80 = .ok (.if_icmp .ge 7, 3) := by decide +kernel
theorem dX5_rob_83 : decode cX5_rob 83 = .ok (.iload_n 3, 1) := by decide +kernel
theorem dX5_rob_84 : decode cX5_rob 84 = .ok (.goto 4, 3) := by decide +kernel
theorem dX5_rob_87 : decode cX5_rob 87 = .ok (.iload_n 2, 1) := by decide +kernel
theorem dX5_rob_88 : decode cX5_rob 88 = .ok (.istore_n 2, 1) := by decide +kernel
theorem dX5_rob_89 : decode cX5_rob 89 = .ok (.iinc 3 1, 3) := by decide +kernel
theorem dX5_rob_92 : decode cX5_rob 92 = .ok (.goto (-67), 3) := by decide +kernel
theorem dX5_rob_95 : decode cX5_rob 95 = .ok (.iload_n 2, 1) := by decide +kernel
theorem dX5_rob_96 : decode cX5_rob 96 = .ok (.ireturn, 1) := by decide +kernel
def T_X5_rob (post : PO) : List (Nat × OP) := [(0, o_iload 1 1), (1, o_const 0 2), (2, o_const 1 3), (3, o_aload 0 4), (4, o_getf 5 3 7), (7, o_const 0 8), (8, o_ald 0 9), (9, o_bin (fun x y => x <<< (y &&& 31)) 10), (10, o_const 1 11), (11, o_bin (fun x y => x - y) 12), (12, o_callS S_X5_in 3 15), (15, o_if (fun x => x = 0) 18 20), (18, o_const (-1) 19), (19, o_iret post), (20, o_const (-9) 22), (22, o_istore 2 23), (23, o_const 0 24), (24, o_istore 3 25), (25, o_aload 0 26), (26, o_iload 3 27), (27, o_callV 5 S_X5_isGroup 1 30), (30, o_if (fun x => x = 0) 95 33), (33, o_iload 1 34), (34, o_aload 0 35), (35, o_aload 0 36), (36, o_iload 3 37), (37, o_callV 5 S_X5_heldBy 1 40), (40, o_aload 0 41), (41, o_callV 5 S_X5_box 0 44), (44, o_bin (fun x y => x ||| y) 45), (45, o_callV 5 S_X5_opensBy 1 48), (48, o_const (-1) 49), (49, o_bin (fun x y => x ^^^ y) 50), (50, o_bin (fun x y => x &&& y) 51), (51, o_if (fun x => x = 0) 54 58), (54, o_const 1 55), (55, o_goto 59), (58, o_const 0 59), (59, o_istore 4 61), (61, o_iload 4 63), (63, o_if (fun x => x = 0) 87 66), (66, o_iload 2 67), (67, o_const (-9) 69), (69, o_icmp (fun x y => x = y) 83 72), (72, o_iload 3 73), (73, o_callS S_X5_ones 1 76), (76, o_iload 2 77), (77, o_callS S_X5_ones 1 80), (80, o_icmp (fun x y => y ≤ x) 87 83), (83, o_iload 3 84), (84, o_goto 88), (87, o_iload 2 88), (88, o_istore 2 89), (89, o_iinc 3 1 92), (92, o_goto 25), (95, o_iload 2 96), (96, o_iret post)]
theorem k_X5_rob_0 (post : PO) : lk (T_X5_rob post) 0 = o_iload 1 1 := rfl
theorem k_X5_rob_1 (post : PO) : lk (T_X5_rob post) 1 = o_const 0 2 := rfl
theorem k_X5_rob_2 (post : PO) : lk (T_X5_rob post) 2 = o_const 1 3 := rfl
theorem k_X5_rob_3 (post : PO) : lk (T_X5_rob post) 3 = o_aload 0 4 := rfl
theorem k_X5_rob_4 (post : PO) : lk (T_X5_rob post) 4 = o_getf 5 3 7 := rfl
theorem k_X5_rob_7 (post : PO) : lk (T_X5_rob post) 7 = o_const 0 8 := rfl
theorem k_X5_rob_8 (post : PO) : lk (T_X5_rob post) 8 = o_ald 0 9 := rfl
theorem k_X5_rob_9 (post : PO) : lk (T_X5_rob post) 9 = o_bin (fun x y => x <<< (y &&& 31)) 10 := rfl
theorem k_X5_rob_10 (post : PO) : lk (T_X5_rob post) 10 = o_const 1 11 := rfl
theorem k_X5_rob_11 (post : PO) : lk (T_X5_rob post) 11 = o_bin (fun x y => x - y) 12 := rfl
theorem k_X5_rob_12 (post : PO) : lk (T_X5_rob post) 12 = o_callS S_X5_in 3 15 := rfl
theorem k_X5_rob_15 (post : PO) : lk (T_X5_rob post) 15 = o_if (fun x => x = 0) 18 20 := rfl
theorem k_X5_rob_18 (post : PO) : lk (T_X5_rob post) 18 = o_const (-1) 19 := rfl
theorem k_X5_rob_19 (post : PO) : lk (T_X5_rob post) 19 = o_iret post := rfl
theorem k_X5_rob_20 (post : PO) : lk (T_X5_rob post) 20 = o_const (-9) 22 := rfl
theorem k_X5_rob_22 (post : PO) : lk (T_X5_rob post) 22 = o_istore 2 23 := rfl
theorem k_X5_rob_23 (post : PO) : lk (T_X5_rob post) 23 = o_const 0 24 := rfl
theorem k_X5_rob_24 (post : PO) : lk (T_X5_rob post) 24 = o_istore 3 25 := rfl
theorem k_X5_rob_25 (post : PO) : lk (T_X5_rob post) 25 = o_aload 0 26 := rfl
theorem k_X5_rob_26 (post : PO) : lk (T_X5_rob post) 26 = o_iload 3 27 := rfl
theorem k_X5_rob_27 (post : PO) : lk (T_X5_rob post) 27 = o_callV 5 S_X5_isGroup 1 30 := rfl
theorem k_X5_rob_30 (post : PO) : lk (T_X5_rob post) 30 = o_if (fun x => x = 0) 95 33 := rfl
theorem k_X5_rob_33 (post : PO) : lk (T_X5_rob post) 33 = o_iload 1 34 := rfl
theorem k_X5_rob_34 (post : PO) : lk (T_X5_rob post) 34 = o_aload 0 35 := rfl
theorem k_X5_rob_35 (post : PO) : lk (T_X5_rob post) 35 = o_aload 0 36 := rfl
theorem k_X5_rob_36 (post : PO) : lk (T_X5_rob post) 36 = o_iload 3 37 := rfl
theorem k_X5_rob_37 (post : PO) : lk (T_X5_rob post) 37 = o_callV 5 S_X5_heldBy 1 40 := rfl
theorem k_X5_rob_40 (post : PO) : lk (T_X5_rob post) 40 = o_aload 0 41 := rfl
theorem k_X5_rob_41 (post : PO) : lk (T_X5_rob post) 41 = o_callV 5 S_X5_box 0 44 := rfl
theorem k_X5_rob_44 (post : PO) : lk (T_X5_rob post) 44 = o_bin (fun x y => x ||| y) 45 := rfl
theorem k_X5_rob_45 (post : PO) : lk (T_X5_rob post) 45 = o_callV 5 S_X5_opensBy 1 48 := rfl
theorem k_X5_rob_48 (post : PO) : lk (T_X5_rob post) 48 = o_const (-1) 49 := rfl
theorem k_X5_rob_49 (post : PO) : lk (T_X5_rob post) 49 = o_bin (fun x y => x ^^^ y) 50 := rfl
theorem k_X5_rob_50 (post : PO) : lk (T_X5_rob post) 50 = o_bin (fun x y => x &&& y) 51 := rfl
theorem k_X5_rob_51 (post : PO) : lk (T_X5_rob post) 51 = o_if (fun x => x = 0) 54 58 := rfl
theorem k_X5_rob_54 (post : PO) : lk (T_X5_rob post) 54 = o_const 1 55 := rfl
theorem k_X5_rob_55 (post : PO) : lk (T_X5_rob post) 55 = o_goto 59 := rfl
theorem k_X5_rob_58 (post : PO) : lk (T_X5_rob post) 58 = o_const 0 59 := rfl
theorem k_X5_rob_59 (post : PO) : lk (T_X5_rob post) 59 = o_istore 4 61 := rfl
theorem k_X5_rob_61 (post : PO) : lk (T_X5_rob post) 61 = o_iload 4 63 := rfl
theorem k_X5_rob_63 (post : PO) : lk (T_X5_rob post) 63 = o_if (fun x => x = 0) 87 66 := rfl
theorem k_X5_rob_66 (post : PO) : lk (T_X5_rob post) 66 = o_iload 2 67 := rfl
theorem k_X5_rob_67 (post : PO) : lk (T_X5_rob post) 67 = o_const (-9) 69 := rfl
theorem k_X5_rob_69 (post : PO) : lk (T_X5_rob post) 69 = o_icmp (fun x y => x = y) 83 72 := rfl
theorem k_X5_rob_72 (post : PO) : lk (T_X5_rob post) 72 = o_iload 3 73 := rfl
theorem k_X5_rob_73 (post : PO) : lk (T_X5_rob post) 73 = o_callS S_X5_ones 1 76 := rfl
theorem k_X5_rob_76 (post : PO) : lk (T_X5_rob post) 76 = o_iload 2 77 := rfl
theorem k_X5_rob_77 (post : PO) : lk (T_X5_rob post) 77 = o_callS S_X5_ones 1 80 := rfl
theorem k_X5_rob_80 (post : PO) : lk (T_X5_rob post) 80 = o_icmp (fun x y => y ≤ x) 87 83 := rfl
theorem k_X5_rob_83 (post : PO) : lk (T_X5_rob post) 83 = o_iload 3 84 := rfl
theorem k_X5_rob_84 (post : PO) : lk (T_X5_rob post) 84 = o_goto 88 := rfl
theorem k_X5_rob_87 (post : PO) : lk (T_X5_rob post) 87 = o_iload 2 88 := rfl
theorem k_X5_rob_88 (post : PO) : lk (T_X5_rob post) 88 = o_istore 2 89 := rfl
theorem k_X5_rob_89 (post : PO) : lk (T_X5_rob post) 89 = o_iinc 3 1 92 := rfl
theorem k_X5_rob_92 (post : PO) : lk (T_X5_rob post) 92 = o_goto 25 := rfl
theorem k_X5_rob_95 (post : PO) : lk (T_X5_rob post) 95 = o_iload 2 96 := rfl
theorem k_X5_rob_96 (post : PO) : lk (T_X5_rob post) 96 = o_iret post := rfl
set_option maxRecDepth 100000 in
theorem t_X5_rob {p : Program} {l : Launch} {e : Env} {s : State} {m : MethodId} {args : Array Value} {below : List Frame} {meth : Method} {c : Code} {D : va_G} {dA : Nat → ClassId} {ad : Nat → Nat} (post : PO) (C : CX p s m args meth c cX5_rob 5 yX5_rob.cls D dA ad (AA ad s.heap.size)) (hr : meth.sig.returnType = (some .int)) : SndL (WW p l e ({ frames := 3, cells := 0, slots := 0, locals := 66 } : Room) s m args below meth c 0 0 (MQ below (CQ D dA ad post (AA ad s.heap.size)) args s 0 0 (AA ad s.heap.size)) 5 D dA ad (AA ad s.heap.size)) (T_X5_rob post) := by
  refine snd_c (s_iload_n C rfl dX5_rob_0) ?_
  refine snd_c (s_iconst C dX5_rob_1 rfl) ?_
  refine snd_c (s_iconst C dX5_rob_2 rfl) ?_
  refine snd_c (s_aload_n C rfl dX5_rob_3) ?_
  refine snd_c (s_getf C (ci := 5) (j := 3) (T := TX5) rfl inX5 (by decide) fl_RX5_13 dX5_rob_4) ?_
  refine snd_c (s_iconst C dX5_rob_7 rfl) ?_
  refine snd_c (s_iald C dX5_rob_8) ?_
  refine snd_c (s_ishl C dX5_rob_9) ?_
  refine snd_c (s_iconst C dX5_rob_10 rfl) ?_
  refine snd_c (s_isub C dX5_rob_11) ?_
  refine snd_c (s_callS C c_X5_in cw_RX5_35 ⟨rfl, rfl⟩ ⟨by decide +kernel, by decide +kernel, by decide +kernel⟩ ⟨by decide, by decide⟩ ⟨Nat.zero_le _, Nat.zero_le _⟩ dX5_rob_12) ?_
  refine snd_c (s_if_ne C dX5_rob_15 (by decide)) ?_
  refine snd_c (s_iconst C dX5_rob_18 rfl) ?_
  refine snd_c (s_iret C hr dX5_rob_19) ?_
  refine snd_c (s_bipush C dX5_rob_20 rfl) ?_
  refine snd_c (s_istore_n C rfl (by decide) dX5_rob_22) ?_
  refine snd_c (s_iconst C dX5_rob_23 rfl) ?_
  refine snd_c (s_istore_n C rfl (by decide) dX5_rob_24) ?_
  refine snd_c (s_aload_n C rfl dX5_rob_25) ?_
  refine snd_c (s_iload_n C rfl dX5_rob_26) ?_
  refine snd_c (s_callV C (ci := 5) c_X5_isGroup rfl cw_RX5_134 ⟨rfl, rfl⟩ ⟨by decide +kernel, by decide +kernel, by decide +kernel⟩ ⟨by decide, by decide⟩ ⟨Nat.zero_le _, Nat.zero_le _⟩ dX5_rob_27) ?_
  refine snd_c (s_if_eq C dX5_rob_30 (by decide)) ?_
  refine snd_c (s_iload_n C rfl dX5_rob_33) ?_
  refine snd_c (s_aload_n C rfl dX5_rob_34) ?_
  refine snd_c (s_aload_n C rfl dX5_rob_35) ?_
  refine snd_c (s_iload_n C rfl dX5_rob_36) ?_
  refine snd_c (s_callV C (ci := 5) c_X5_heldBy rfl cw_RX5_137 ⟨rfl, rfl⟩ ⟨by decide +kernel, by decide +kernel, by decide +kernel⟩ ⟨by decide, by decide⟩ ⟨Nat.zero_le _, Nat.zero_le _⟩ dX5_rob_37) ?_
  refine snd_c (s_aload_n C rfl dX5_rob_40) ?_
  refine snd_c (s_callV C (ci := 5) c_X5_box rfl cw_RX5_147 ⟨rfl, rfl⟩ ⟨by decide +kernel, by decide +kernel, by decide +kernel⟩ ⟨by decide, by decide⟩ ⟨Nat.zero_le _, Nat.zero_le _⟩ dX5_rob_41) ?_
  refine snd_c (s_ior C dX5_rob_44) ?_
  refine snd_c (s_callV C (ci := 5) c_X5_opensBy rfl cw_RX5_140 ⟨rfl, rfl⟩ ⟨by decide +kernel, by decide +kernel, by decide +kernel⟩ ⟨by decide, by decide⟩ ⟨Nat.zero_le _, Nat.zero_le _⟩ dX5_rob_45) ?_
  refine snd_c (s_iconst C dX5_rob_48 rfl) ?_
  refine snd_c (s_ixor C dX5_rob_49) ?_
  refine snd_c (s_iand C dX5_rob_50) ?_
  refine snd_c (s_if_ne C dX5_rob_51 (by decide)) ?_
  refine snd_c (s_iconst C dX5_rob_54 rfl) ?_
  refine snd_c (s_goto C dX5_rob_55 (by decide)) ?_
  refine snd_c (s_iconst C dX5_rob_58 rfl) ?_
  refine snd_c (s_istore C (by decide) dX5_rob_59) ?_
  refine snd_c (s_iload C dX5_rob_61) ?_
  refine snd_c (s_if_eq C dX5_rob_63 (by decide)) ?_
  refine snd_c (s_iload_n C rfl dX5_rob_66) ?_
  refine snd_c (s_bipush C dX5_rob_67 rfl) ?_
  refine snd_c (s_icmp_eq C dX5_rob_69 (by decide)) ?_
  refine snd_c (s_iload_n C rfl dX5_rob_72) ?_
  refine snd_c (s_callS C c_X5_ones cw_RX5_131 ⟨rfl, rfl⟩ ⟨by decide +kernel, by decide +kernel, by decide +kernel⟩ ⟨by decide, by decide⟩ ⟨Nat.zero_le _, Nat.zero_le _⟩ dX5_rob_73) ?_
  refine snd_c (s_iload_n C rfl dX5_rob_76) ?_
  refine snd_c (s_callS C c_X5_ones cw_RX5_131 ⟨rfl, rfl⟩ ⟨by decide +kernel, by decide +kernel, by decide +kernel⟩ ⟨by decide, by decide⟩ ⟨Nat.zero_le _, Nat.zero_le _⟩ dX5_rob_77) ?_
  refine snd_c (s_icmp_ge C dX5_rob_80 (by decide)) ?_
  refine snd_c (s_iload_n C rfl dX5_rob_83) ?_
  refine snd_c (s_goto C dX5_rob_84 (by decide)) ?_
  refine snd_c (s_iload_n C rfl dX5_rob_87) ?_
  refine snd_c (s_istore_n C rfl (by decide) dX5_rob_88) ?_
  refine snd_c (s_iinc C (by decide) rfl dX5_rob_89) ?_
  refine snd_c (s_goto C dX5_rob_92 (by decide)) ?_
  refine snd_c (s_iload_n C rfl dX5_rob_95) ?_
  refine snd_c (s_iret C hr dX5_rob_96) ?_
  exact trivial
set_option maxRecDepth 100000 in
theorem v_X5_opens : ∀ as M post, S_X5_opens as M post → wsum as ≤ 2 ∧ RUN (T_X5_opens post) 0 (entL 2 as) [] M := by
  rintro as M post ⟨x, n, c, p, r, h0, lk, rfl, hX, hH, h1, h2⟩
  have hpp := ev_lt hX.2.2.2.2.2.1
  have hp1 := Nat.one_le_two_pow (n := p)
  refine ⟨by show 2 ≤ 2; omega, run_wp 60 ?_⟩
  dsimp only [k_X5_opens_0, k_X5_opens_1, k_X5_opens_2, k_X5_opens_5, k_X5_opens_8, k_X5_opens_9, k_X5_opens_10, k_X5_opens_11, k_X5_opens_14, k_X5_opens_17, k_X5_opens_20, k_X5_opens_21, wp1, wp_s, cutIn, kont, Nat.reduceSub, Nat.reduceAdd, nth, o_const, o_lconst, o_ref, o_iload, o_lload, o_aload, o_istore, o_lstore, o_astore, o_iinc, o_bin, o_div, o_un, o_lbin, o_lsh, o_lcmp, o_i2l, o_l2i, o_if, o_icmp, o_goto, o_dup, o_dup2, o_pop, fav, o_getf, o_putI, o_putZ, o_putL, o_ald, o_ast, o_alen, popn, rst, o_callV, o_callT, o_callS, swx, o_sw, o_ret, o_iret, o_zret, o_cret, o_lret, o_aret, lg, lput, lput2, ls1, isL, entL, wsum, rdI1, rdI2, rdA1, rdA21, rdA22, rdL1, rdL22, rdL21, upN_at, rep, sh_0, F_0_0, F_0_1, F_0_2, F_0_3, F_0_4, F_0_5, F_0_6, F_0_7, F_0_8, sh_1, F_1_0, F_1_1, F_1_2, F_1_3, F_1_4, F_1_5, sh_3, F_3_0, F_3_1, F_3_2, F_3_3, F_3_4, F_3_5, sh_5, F_5_0, F_5_1, F_5_2, F_5_3, F_5_4, F_5_5, F_5_6, F_5_7, F_5_8, sh_12, F_12_0, F_12_1, F_12_2, F_12_3, F_12_4, F_12_5, sh_14, F_14_0, F_14_1, F_14_2, F_14_3, F_14_4, F_14_5, F_14_6, F_14_7, F_14_8, sh_21, F_21_0, F_21_1, F_21_2, F_21_3, F_21_4, F_21_5, F_21_6, F_21_7, F_21_8, sh_28, F_28_0, F_28_1, F_28_2, F_28_3, F_28_4, F_28_5, F_28_6, F_28_7, F_28_8, sh_35, F_35_0, sh_39, F_39_0, F_39_1, F_39_2, F_39_3, F_39_4, F_39_5, F_39_6, F_39_7, F_39_8, F_39_9, F_39_10, F_39_11, F_39_12, F_39_13, A_2, A_4, A_6, A_7, A_8, A_9, A_10, A_11, A_13, A_15, A_16, A_17, A_18, A_19, A_20, A_22, A_23, A_24, A_25, A_26, A_27, A_29, A_30, A_31, A_32, A_33, A_34, A_36, A_37, A_38, A_40, A_41, A_42, A_43, A_44, A_45, A_46, A_47]
  refine ⟨x, n, c, p, r, h0, lk, rfl, hX, fun z => ?_, fun z => ?_⟩
  · obtain ⟨g, rfl, hg⟩ := rg (by omega) z
    dsimp only [k_X5_opens_0, k_X5_opens_1, k_X5_opens_2, k_X5_opens_5, k_X5_opens_8, k_X5_opens_9, k_X5_opens_10, k_X5_opens_11, k_X5_opens_14, k_X5_opens_17, k_X5_opens_20, k_X5_opens_21, wp1, wp_s, cutIn, kont, Nat.reduceSub, Nat.reduceAdd, nth, o_const, o_lconst, o_ref, o_iload, o_lload, o_aload, o_istore, o_lstore, o_astore, o_iinc, o_bin, o_div, o_un, o_lbin, o_lsh, o_lcmp, o_i2l, o_l2i, o_if, o_icmp, o_goto, o_dup, o_dup2, o_pop, fav, o_getf, o_putI, o_putZ, o_putL, o_ald, o_ast, o_alen, popn, rst, o_callV, o_callT, o_callS, swx, o_sw, o_ret, o_iret, o_zret, o_cret, o_lret, o_aret, lg, lput, lput2, ls1, isL, entL, wsum, rdI1, rdI2, rdA1, rdA21, rdA22, rdL1, rdL22, rdL21, upN_at, rep, sh_0, F_0_0, F_0_1, F_0_2, F_0_3, F_0_4, F_0_5, F_0_6, F_0_7, F_0_8, sh_1, F_1_0, F_1_1, F_1_2, F_1_3, F_1_4, F_1_5, sh_3, F_3_0, F_3_1, F_3_2, F_3_3, F_3_4, F_3_5, sh_5, F_5_0, F_5_1, F_5_2, F_5_3, F_5_4, F_5_5, F_5_6, F_5_7, F_5_8, sh_12, F_12_0, F_12_1, F_12_2, F_12_3, F_12_4, F_12_5, sh_14, F_14_0, F_14_1, F_14_2, F_14_3, F_14_4, F_14_5, F_14_6, F_14_7, F_14_8, sh_21, F_21_0, F_21_1, F_21_2, F_21_3, F_21_4, F_21_5, F_21_6, F_21_7, F_21_8, sh_28, F_28_0, F_28_1, F_28_2, F_28_3, F_28_4, F_28_5, F_28_6, F_28_7, F_28_8, sh_35, F_35_0, sh_39, F_39_0, F_39_1, F_39_2, F_39_3, F_39_4, F_39_5, F_39_6, F_39_7, F_39_8, F_39_9, F_39_10, F_39_11, F_39_12, F_39_13, A_2, A_4, A_6, A_7, A_8, A_9, A_10, A_11, A_13, A_15, A_16, A_17, A_18, A_19, A_20, A_22, A_23, A_24, A_25, A_26, A_27, A_29, A_30, A_31, A_32, A_33, A_34, A_36, A_37, A_38, A_40, A_41, A_42, A_43, A_44, A_45, A_46, A_47]
    refine ⟨fun q => absurd q (by decide), fun _ => ⟨g, n, c, p, r, h0, lk, rfl, hX, hH, by omega, ?_⟩⟩
    dsimp only [k_X5_opens_0, k_X5_opens_1, k_X5_opens_2, k_X5_opens_5, k_X5_opens_8, k_X5_opens_9, k_X5_opens_10, k_X5_opens_11, k_X5_opens_14, k_X5_opens_17, k_X5_opens_20, k_X5_opens_21, wp1, wp_s, cutIn, kont, Nat.reduceSub, Nat.reduceAdd, nth, o_const, o_lconst, o_ref, o_iload, o_lload, o_aload, o_istore, o_lstore, o_astore, o_iinc, o_bin, o_div, o_un, o_lbin, o_lsh, o_lcmp, o_i2l, o_l2i, o_if, o_icmp, o_goto, o_dup, o_dup2, o_pop, fav, o_getf, o_putI, o_putZ, o_putL, o_ald, o_ast, o_alen, popn, rst, o_callV, o_callT, o_callS, swx, o_sw, o_ret, o_iret, o_zret, o_cret, o_lret, o_aret, lg, lput, lput2, ls1, isL, entL, wsum, rdI1, rdI2, rdA1, rdA21, rdA22, rdL1, rdL22, rdL21, upN_at, rep, sh_0, F_0_0, F_0_1, F_0_2, F_0_3, F_0_4, F_0_5, F_0_6, F_0_7, F_0_8, sh_1, F_1_0, F_1_1, F_1_2, F_1_3, F_1_4, F_1_5, sh_3, F_3_0, F_3_1, F_3_2, F_3_3, F_3_4, F_3_5, sh_5, F_5_0, F_5_1, F_5_2, F_5_3, F_5_4, F_5_5, F_5_6, F_5_7, F_5_8, sh_12, F_12_0, F_12_1, F_12_2, F_12_3, F_12_4, F_12_5, sh_14, F_14_0, F_14_1, F_14_2, F_14_3, F_14_4, F_14_5, F_14_6, F_14_7, F_14_8, sh_21, F_21_0, F_21_1, F_21_2, F_21_3, F_21_4, F_21_5, F_21_6, F_21_7, F_21_8, sh_28, F_28_0, F_28_1, F_28_2, F_28_3, F_28_4, F_28_5, F_28_6, F_28_7, F_28_8, sh_35, F_35_0, sh_39, F_39_0, F_39_1, F_39_2, F_39_3, F_39_4, F_39_5, F_39_6, F_39_7, F_39_8, F_39_9, F_39_10, F_39_11, F_39_12, F_39_13, A_2, A_4, A_6, A_7, A_8, A_9, A_10, A_11, A_13, A_15, A_16, A_17, A_18, A_19, A_20, A_22, A_23, A_24, A_25, A_26, A_27, A_29, A_30, A_31, A_32, A_33, A_34, A_36, A_37, A_38, A_40, A_41, A_42, A_43, A_44, A_45, A_46, A_47]
    refine ⟨_, n, c, p, r, h0, lk, rfl, mk_lt _ n, hX, fun f => ?_⟩
    dsimp only [k_X5_opens_0, k_X5_opens_1, k_X5_opens_2, k_X5_opens_5, k_X5_opens_8, k_X5_opens_9, k_X5_opens_10, k_X5_opens_11, k_X5_opens_14, k_X5_opens_17, k_X5_opens_20, k_X5_opens_21, wp1, wp_s, cutIn, kont, Nat.reduceSub, Nat.reduceAdd, nth, o_const, o_lconst, o_ref, o_iload, o_lload, o_aload, o_istore, o_lstore, o_astore, o_iinc, o_bin, o_div, o_un, o_lbin, o_lsh, o_lcmp, o_i2l, o_l2i, o_if, o_icmp, o_goto, o_dup, o_dup2, o_pop, fav, o_getf, o_putI, o_putZ, o_putL, o_ald, o_ast, o_alen, popn, rst, o_callV, o_callT, o_callS, swx, o_sw, o_ret, o_iret, o_zret, o_cret, o_lret, o_aret, lg, lput, lput2, ls1, isL, entL, wsum, rdI1, rdI2, rdA1, rdA21, rdA22, rdL1, rdL22, rdL21, upN_at, rep, sh_0, F_0_0, F_0_1, F_0_2, F_0_3, F_0_4, F_0_5, F_0_6, F_0_7, F_0_8, sh_1, F_1_0, F_1_1, F_1_2, F_1_3, F_1_4, F_1_5, sh_3, F_3_0, F_3_1, F_3_2, F_3_3, F_3_4, F_3_5, sh_5, F_5_0, F_5_1, F_5_2, F_5_3, F_5_4, F_5_5, F_5_6, F_5_7, F_5_8, sh_12, F_12_0, F_12_1, F_12_2, F_12_3, F_12_4, F_12_5, sh_14, F_14_0, F_14_1, F_14_2, F_14_3, F_14_4, F_14_5, F_14_6, F_14_7, F_14_8, sh_21, F_21_0, F_21_1, F_21_2, F_21_3, F_21_4, F_21_5, F_21_6, F_21_7, F_21_8, sh_28, F_28_0, F_28_1, F_28_2, F_28_3, F_28_4, F_28_5, F_28_6, F_28_7, F_28_8, sh_35, F_35_0, sh_39, F_39_0, F_39_1, F_39_2, F_39_3, F_39_4, F_39_5, F_39_6, F_39_7, F_39_8, F_39_9, F_39_10, F_39_11, F_39_12, F_39_13, A_2, A_4, A_6, A_7, A_8, A_9, A_10, A_11, A_13, A_15, A_16, A_17, A_18, A_19, A_20, A_22, A_23, A_24, A_25, A_26, A_27, A_29, A_30, A_31, A_32, A_33, A_34, A_36, A_37, A_38, A_40, A_41, A_42, A_43, A_44, A_45, A_46, A_47]
    exact h2 g rfl hg f
  · dsimp only [k_X5_opens_0, k_X5_opens_1, k_X5_opens_2, k_X5_opens_5, k_X5_opens_8, k_X5_opens_9, k_X5_opens_10, k_X5_opens_11, k_X5_opens_14, k_X5_opens_17, k_X5_opens_20, k_X5_opens_21, wp1, wp_s, cutIn, kont, Nat.reduceSub, Nat.reduceAdd, nth, o_const, o_lconst, o_ref, o_iload, o_lload, o_aload, o_istore, o_lstore, o_astore, o_iinc, o_bin, o_div, o_un, o_lbin, o_lsh, o_lcmp, o_i2l, o_l2i, o_if, o_icmp, o_goto, o_dup, o_dup2, o_pop, fav, o_getf, o_putI, o_putZ, o_putL, o_ald, o_ast, o_alen, popn, rst, o_callV, o_callT, o_callS, swx, o_sw, o_ret, o_iret, o_zret, o_cret, o_lret, o_aret, lg, lput, lput2, ls1, isL, entL, wsum, rdI1, rdI2, rdA1, rdA21, rdA22, rdL1, rdL22, rdL21, upN_at, rep, sh_0, F_0_0, F_0_1, F_0_2, F_0_3, F_0_4, F_0_5, F_0_6, F_0_7, F_0_8, sh_1, F_1_0, F_1_1, F_1_2, F_1_3, F_1_4, F_1_5, sh_3, F_3_0, F_3_1, F_3_2, F_3_3, F_3_4, F_3_5, sh_5, F_5_0, F_5_1, F_5_2, F_5_3, F_5_4, F_5_5, F_5_6, F_5_7, F_5_8, sh_12, F_12_0, F_12_1, F_12_2, F_12_3, F_12_4, F_12_5, sh_14, F_14_0, F_14_1, F_14_2, F_14_3, F_14_4, F_14_5, F_14_6, F_14_7, F_14_8, sh_21, F_21_0, F_21_1, F_21_2, F_21_3, F_21_4, F_21_5, F_21_6, F_21_7, F_21_8, sh_28, F_28_0, F_28_1, F_28_2, F_28_3, F_28_4, F_28_5, F_28_6, F_28_7, F_28_8, sh_35, F_35_0, sh_39, F_39_0, F_39_1, F_39_2, F_39_3, F_39_4, F_39_5, F_39_6, F_39_7, F_39_8, F_39_9, F_39_10, F_39_11, F_39_12, F_39_13, A_2, A_4, A_6, A_7, A_8, A_9, A_10, A_11, A_13, A_15, A_16, A_17, A_18, A_19, A_20, A_22, A_23, A_24, A_25, A_26, A_27, A_29, A_30, A_31, A_32, A_33, A_34, A_36, A_37, A_38, A_40, A_41, A_42, A_43, A_44, A_45, A_46, A_47]
    exact ⟨fun _ => h1 z, fun q => absurd rfl q⟩
theorem sub_us {h : Nat → Int32} {n k : Nat} (hk : k < n) (hz : ¬ h k = -3) : us h n ^^^ 2 ^ k < 2 ^ n := Nat.xor_lt_two_pow (us_lt2 h n) (Nat.pow_lt_pow_right (by omega) hk)
set_option maxRecDepth 100000 in
theorem v_X5_shut : ∀ as M post, S_X5_shut as M post → wsum as ≤ 2 ∧ RUN (T_X5_shut post) 0 (entL 2 as) [] M := by
  rintro as M post ⟨x, n, c, p, r, h0, lk, rfl, hX, h1, h2⟩
  have hX0 := hX
  obtain ⟨hn, hn8, hc, hc6, hp, hp4, hr, hhk, hl⟩ := hX
  have hul := us_lt h0 hn8
  refine ⟨by show 2 ≤ 2; omega, run_wp 60 ?_⟩
  dsimp only [k_X5_shut_0, k_X5_shut_1, k_X5_shut_2, k_X5_shut_5, k_X5_shut_8, k_X5_shut_9, k_X5_shut_12, k_X5_shut_14, k_X5_shut_15, k_X5_shut_16, k_X5_shut_17, k_X5_shut_19, k_X5_shut_22, k_X5_shut_23, k_X5_shut_24, k_X5_shut_25, k_X5_shut_26, k_X5_shut_29, k_X5_shut_32, k_X5_shut_33, k_X5_shut_34, k_X5_shut_37, k_X5_shut_38, k_X5_shut_39, k_X5_shut_40, k_X5_shut_41, k_X5_shut_42, k_X5_shut_43, k_X5_shut_46, k_X5_shut_47, k_X5_shut_48, k_X5_shut_49, wp1, wp_s, cutIn, kont, Nat.reduceSub, Nat.reduceAdd, nth, o_const, o_lconst, o_ref, o_iload, o_lload, o_aload, o_istore, o_lstore, o_astore, o_iinc, o_bin, o_div, o_un, o_lbin, o_lsh, o_lcmp, o_i2l, o_l2i, o_if, o_icmp, o_goto, o_dup, o_dup2, o_pop, fav, o_getf, o_putI, o_putZ, o_putL, o_ald, o_ast, o_alen, popn, rst, o_callV, o_callT, o_callS, swx, o_sw, o_ret, o_iret, o_zret, o_cret, o_lret, o_aret, lg, lput, lput2, ls1, isL, entL, wsum, rdI1, rdI2, rdA1, rdA21, rdA22, rdL1, rdL22, rdL21, upN_at, rep, sh_0, F_0_0, F_0_1, F_0_2, F_0_3, F_0_4, F_0_5, F_0_6, F_0_7, F_0_8, sh_1, F_1_0, F_1_1, F_1_2, F_1_3, F_1_4, F_1_5, sh_3, F_3_0, F_3_1, F_3_2, F_3_3, F_3_4, F_3_5, sh_5, F_5_0, F_5_1, F_5_2, F_5_3, F_5_4, F_5_5, F_5_6, F_5_7, F_5_8, sh_12, F_12_0, F_12_1, F_12_2, F_12_3, F_12_4, F_12_5, sh_14, F_14_0, F_14_1, F_14_2, F_14_3, F_14_4, F_14_5, F_14_6, F_14_7, F_14_8, sh_21, F_21_0, F_21_1, F_21_2, F_21_3, F_21_4, F_21_5, F_21_6, F_21_7, F_21_8, sh_28, F_28_0, F_28_1, F_28_2, F_28_3, F_28_4, F_28_5, F_28_6, F_28_7, F_28_8, sh_35, F_35_0, sh_39, F_39_0, F_39_1, F_39_2, F_39_3, F_39_4, F_39_5, F_39_6, F_39_7, F_39_8, F_39_9, F_39_10, F_39_11, F_39_12, F_39_13, A_2, A_4, A_6, A_7, A_8, A_9, A_10, A_11, A_13, A_15, A_16, A_17, A_18, A_19, A_20, A_22, A_23, A_24, A_25, A_26, A_27, A_29, A_30, A_31, A_32, A_33, A_34, A_36, A_37, A_38, A_40, A_41, A_42, A_43, A_44, A_45, A_46, A_47]
  refine ⟨x, n, c, p, r, h0, lk, rfl, hX0, fun z => ?_, fun z => ?_⟩
  · obtain ⟨k, rfl, hk⟩ := rg (by omega) z
    dsimp only [k_X5_shut_0, k_X5_shut_1, k_X5_shut_2, k_X5_shut_5, k_X5_shut_8, k_X5_shut_9, k_X5_shut_12, k_X5_shut_14, k_X5_shut_15, k_X5_shut_16, k_X5_shut_17, k_X5_shut_19, k_X5_shut_22, k_X5_shut_23, k_X5_shut_24, k_X5_shut_25, k_X5_shut_26, k_X5_shut_29, k_X5_shut_32, k_X5_shut_33, k_X5_shut_34, k_X5_shut_37, k_X5_shut_38, k_X5_shut_39, k_X5_shut_40, k_X5_shut_41, k_X5_shut_42, k_X5_shut_43, k_X5_shut_46, k_X5_shut_47, k_X5_shut_48, k_X5_shut_49, wp1, wp_s, cutIn, kont, Nat.reduceSub, Nat.reduceAdd, nth, o_const, o_lconst, o_ref, o_iload, o_lload, o_aload, o_istore, o_lstore, o_astore, o_iinc, o_bin, o_div, o_un, o_lbin, o_lsh, o_lcmp, o_i2l, o_l2i, o_if, o_icmp, o_goto, o_dup, o_dup2, o_pop, fav, o_getf, o_putI, o_putZ, o_putL, o_ald, o_ast, o_alen, popn, rst, o_callV, o_callT, o_callS, swx, o_sw, o_ret, o_iret, o_zret, o_cret, o_lret, o_aret, lg, lput, lput2, ls1, isL, entL, wsum, rdI1, rdI2, rdA1, rdA21, rdA22, rdL1, rdL22, rdL21, upN_at, rep, sh_0, F_0_0, F_0_1, F_0_2, F_0_3, F_0_4, F_0_5, F_0_6, F_0_7, F_0_8, sh_1, F_1_0, F_1_1, F_1_2, F_1_3, F_1_4, F_1_5, sh_3, F_3_0, F_3_1, F_3_2, F_3_3, F_3_4, F_3_5, sh_5, F_5_0, F_5_1, F_5_2, F_5_3, F_5_4, F_5_5, F_5_6, F_5_7, F_5_8, sh_12, F_12_0, F_12_1, F_12_2, F_12_3, F_12_4, F_12_5, sh_14, F_14_0, F_14_1, F_14_2, F_14_3, F_14_4, F_14_5, F_14_6, F_14_7, F_14_8, sh_21, F_21_0, F_21_1, F_21_2, F_21_3, F_21_4, F_21_5, F_21_6, F_21_7, F_21_8, sh_28, F_28_0, F_28_1, F_28_2, F_28_3, F_28_4, F_28_5, F_28_6, F_28_7, F_28_8, sh_35, F_35_0, sh_39, F_39_0, F_39_1, F_39_2, F_39_3, F_39_4, F_39_5, F_39_6, F_39_7, F_39_8, F_39_9, F_39_10, F_39_11, F_39_12, F_39_13, A_2, A_4, A_6, A_7, A_8, A_9, A_10, A_11, A_13, A_15, A_16, A_17, A_18, A_19, A_20, A_22, A_23, A_24, A_25, A_26, A_27, A_29, A_30, A_31, A_32, A_33, A_34, A_36, A_37, A_38, A_40, A_41, A_42, A_43, A_44, A_45, A_46, A_47]
    refine ⟨fun q => absurd q (by decide), fun _ => ⟨9 + k, by omega, nI_add 9 k, ?_⟩⟩
    rw [hhk k hk]
    refine ⟨fun q => h1 fun k' e1 e2 => ?_, fun q => ?_⟩
    · rw [← nI_inj (by omega) (by omega) e1]; exact q
    · refine ⟨n, c, p, r, h0, lk, rfl, hX0, ?_⟩
      dsimp only [k_X5_shut_0, k_X5_shut_1, k_X5_shut_2, k_X5_shut_5, k_X5_shut_8, k_X5_shut_9, k_X5_shut_12, k_X5_shut_14, k_X5_shut_15, k_X5_shut_16, k_X5_shut_17, k_X5_shut_19, k_X5_shut_22, k_X5_shut_23, k_X5_shut_24, k_X5_shut_25, k_X5_shut_26, k_X5_shut_29, k_X5_shut_32, k_X5_shut_33, k_X5_shut_34, k_X5_shut_37, k_X5_shut_38, k_X5_shut_39, k_X5_shut_40, k_X5_shut_41, k_X5_shut_42, k_X5_shut_43, k_X5_shut_46, k_X5_shut_47, k_X5_shut_48, k_X5_shut_49, wp1, wp_s, cutIn, kont, Nat.reduceSub, Nat.reduceAdd, nth, o_const, o_lconst, o_ref, o_iload, o_lload, o_aload, o_istore, o_lstore, o_astore, o_iinc, o_bin, o_div, o_un, o_lbin, o_lsh, o_lcmp, o_i2l, o_l2i, o_if, o_icmp, o_goto, o_dup, o_dup2, o_pop, fav, o_getf, o_putI, o_putZ, o_putL, o_ald, o_ast, o_alen, popn, rst, o_callV, o_callT, o_callS, swx, o_sw, o_ret, o_iret, o_zret, o_cret, o_lret, o_aret, lg, lput, lput2, ls1, isL, entL, wsum, rdI1, rdI2, rdA1, rdA21, rdA22, rdL1, rdL22, rdL21, upN_at, rep, sh_0, F_0_0, F_0_1, F_0_2, F_0_3, F_0_4, F_0_5, F_0_6, F_0_7, F_0_8, sh_1, F_1_0, F_1_1, F_1_2, F_1_3, F_1_4, F_1_5, sh_3, F_3_0, F_3_1, F_3_2, F_3_3, F_3_4, F_3_5, sh_5, F_5_0, F_5_1, F_5_2, F_5_3, F_5_4, F_5_5, F_5_6, F_5_7, F_5_8, sh_12, F_12_0, F_12_1, F_12_2, F_12_3, F_12_4, F_12_5, sh_14, F_14_0, F_14_1, F_14_2, F_14_3, F_14_4, F_14_5, F_14_6, F_14_7, F_14_8, sh_21, F_21_0, F_21_1, F_21_2, F_21_3, F_21_4, F_21_5, F_21_6, F_21_7, F_21_8, sh_28, F_28_0, F_28_1, F_28_2, F_28_3, F_28_4, F_28_5, F_28_6, F_28_7, F_28_8, sh_35, F_35_0, sh_39, F_39_0, F_39_1, F_39_2, F_39_3, F_39_4, F_39_5, F_39_6, F_39_7, F_39_8, F_39_9, F_39_10, F_39_11, F_39_12, F_39_13, A_2, A_4, A_6, A_7, A_8, A_9, A_10, A_11, A_13, A_15, A_16, A_17, A_18, A_19, A_20, A_22, A_23, A_24, A_25, A_26, A_27, A_29, A_30, A_31, A_32, A_33, A_34, A_36, A_37, A_38, A_40, A_41, A_42, A_43, A_44, A_45, A_46, A_47]
      refine ⟨_, n, c, p, r, h0, lk, rfl, us_lt2 h0 n, hX0, fun f => ?_⟩
      dsimp only [k_X5_shut_0, k_X5_shut_1, k_X5_shut_2, k_X5_shut_5, k_X5_shut_8, k_X5_shut_9, k_X5_shut_12, k_X5_shut_14, k_X5_shut_15, k_X5_shut_16, k_X5_shut_17, k_X5_shut_19, k_X5_shut_22, k_X5_shut_23, k_X5_shut_24, k_X5_shut_25, k_X5_shut_26, k_X5_shut_29, k_X5_shut_32, k_X5_shut_33, k_X5_shut_34, k_X5_shut_37, k_X5_shut_38, k_X5_shut_39, k_X5_shut_40, k_X5_shut_41, k_X5_shut_42, k_X5_shut_43, k_X5_shut_46, k_X5_shut_47, k_X5_shut_48, k_X5_shut_49, wp1, wp_s, cutIn, kont, Nat.reduceSub, Nat.reduceAdd, nth, o_const, o_lconst, o_ref, o_iload, o_lload, o_aload, o_istore, o_lstore, o_astore, o_iinc, o_bin, o_div, o_un, o_lbin, o_lsh, o_lcmp, o_i2l, o_l2i, o_if, o_icmp, o_goto, o_dup, o_dup2, o_pop, fav, o_getf, o_putI, o_putZ, o_putL, o_ald, o_ast, o_alen, popn, rst, o_callV, o_callT, o_callS, swx, o_sw, o_ret, o_iret, o_zret, o_cret, o_lret, o_aret, lg, lput, lput2, ls1, isL, entL, wsum, rdI1, rdI2, rdA1, rdA21, rdA22, rdL1, rdL22, rdL21, upN_at, rep, sh_0, F_0_0, F_0_1, F_0_2, F_0_3, F_0_4, F_0_5, F_0_6, F_0_7, F_0_8, sh_1, F_1_0, F_1_1, F_1_2, F_1_3, F_1_4, F_1_5, sh_3, F_3_0, F_3_1, F_3_2, F_3_3, F_3_4, F_3_5, sh_5, F_5_0, F_5_1, F_5_2, F_5_3, F_5_4, F_5_5, F_5_6, F_5_7, F_5_8, sh_12, F_12_0, F_12_1, F_12_2, F_12_3, F_12_4, F_12_5, sh_14, F_14_0, F_14_1, F_14_2, F_14_3, F_14_4, F_14_5, F_14_6, F_14_7, F_14_8, sh_21, F_21_0, F_21_1, F_21_2, F_21_3, F_21_4, F_21_5, F_21_6, F_21_7, F_21_8, sh_28, F_28_0, F_28_1, F_28_2, F_28_3, F_28_4, F_28_5, F_28_6, F_28_7, F_28_8, sh_35, F_35_0, sh_39, F_39_0, F_39_1, F_39_2, F_39_3, F_39_4, F_39_5, F_39_6, F_39_7, F_39_8, F_39_9, F_39_10, F_39_11, F_39_12, F_39_13, A_2, A_4, A_6, A_7, A_8, A_9, A_10, A_11, A_13, A_15, A_16, A_17, A_18, A_19, A_20, A_22, A_23, A_24, A_25, A_26, A_27, A_29, A_30, A_31, A_32, A_33, A_34, A_36, A_37, A_38, A_40, A_41, A_42, A_43, A_44, A_45, A_46, A_47]
      refine ⟨n, c, p, r, h0, lk, rfl, MW_36 hX0 f, ?_⟩
      dsimp only [k_X5_shut_0, k_X5_shut_1, k_X5_shut_2, k_X5_shut_5, k_X5_shut_8, k_X5_shut_9, k_X5_shut_12, k_X5_shut_14, k_X5_shut_15, k_X5_shut_16, k_X5_shut_17, k_X5_shut_19, k_X5_shut_22, k_X5_shut_23, k_X5_shut_24, k_X5_shut_25, k_X5_shut_26, k_X5_shut_29, k_X5_shut_32, k_X5_shut_33, k_X5_shut_34, k_X5_shut_37, k_X5_shut_38, k_X5_shut_39, k_X5_shut_40, k_X5_shut_41, k_X5_shut_42, k_X5_shut_43, k_X5_shut_46, k_X5_shut_47, k_X5_shut_48, k_X5_shut_49, wp1, wp_s, cutIn, kont, Nat.reduceSub, Nat.reduceAdd, nth, o_const, o_lconst, o_ref, o_iload, o_lload, o_aload, o_istore, o_lstore, o_astore, o_iinc, o_bin, o_div, o_un, o_lbin, o_lsh, o_lcmp, o_i2l, o_l2i, o_if, o_icmp, o_goto, o_dup, o_dup2, o_pop, fav, o_getf, o_putI, o_putZ, o_putL, o_ald, o_ast, o_alen, popn, rst, o_callV, o_callT, o_callS, swx, o_sw, o_ret, o_iret, o_zret, o_cret, o_lret, o_aret, lg, lput, lput2, ls1, isL, entL, wsum, rdI1, rdI2, rdA1, rdA21, rdA22, rdL1, rdL22, rdL21, upN_at, rep, sh_0, F_0_0, F_0_1, F_0_2, F_0_3, F_0_4, F_0_5, F_0_6, F_0_7, F_0_8, sh_1, F_1_0, F_1_1, F_1_2, F_1_3, F_1_4, F_1_5, sh_3, F_3_0, F_3_1, F_3_2, F_3_3, F_3_4, F_3_5, sh_5, F_5_0, F_5_1, F_5_2, F_5_3, F_5_4, F_5_5, F_5_6, F_5_7, F_5_8, sh_12, F_12_0, F_12_1, F_12_2, F_12_3, F_12_4, F_12_5, sh_14, F_14_0, F_14_1, F_14_2, F_14_3, F_14_4, F_14_5, F_14_6, F_14_7, F_14_8, sh_21, F_21_0, F_21_1, F_21_2, F_21_3, F_21_4, F_21_5, F_21_6, F_21_7, F_21_8, sh_28, F_28_0, F_28_1, F_28_2, F_28_3, F_28_4, F_28_5, F_28_6, F_28_7, F_28_8, sh_35, F_35_0, sh_39, F_39_0, F_39_1, F_39_2, F_39_3, F_39_4, F_39_5, F_39_6, F_39_7, F_39_8, F_39_9, F_39_10, F_39_11, F_39_12, F_39_13, A_2, A_4, A_6, A_7, A_8, A_9, A_10, A_11, A_13, A_15, A_16, A_17, A_18, A_19, A_20, A_22, A_23, A_24, A_25, A_26, A_27, A_29, A_30, A_31, A_32, A_33, A_34, A_36, A_37, A_38, A_40, A_41, A_42, A_43, A_44, A_45, A_46, A_47]
      rw [one_shl (by omega), clr (by omega) (by omega) (by rw [us_bit]; simp [q]; exact hk)]
      refine ⟨_, n, c, p, r, h0, lk, rfl, sub_us hk q, MW_36 hX0 f, fun f2 => ?_⟩
      dsimp only [k_X5_shut_0, k_X5_shut_1, k_X5_shut_2, k_X5_shut_5, k_X5_shut_8, k_X5_shut_9, k_X5_shut_12, k_X5_shut_14, k_X5_shut_15, k_X5_shut_16, k_X5_shut_17, k_X5_shut_19, k_X5_shut_22, k_X5_shut_23, k_X5_shut_24, k_X5_shut_25, k_X5_shut_26, k_X5_shut_29, k_X5_shut_32, k_X5_shut_33, k_X5_shut_34, k_X5_shut_37, k_X5_shut_38, k_X5_shut_39, k_X5_shut_40, k_X5_shut_41, k_X5_shut_42, k_X5_shut_43, k_X5_shut_46, k_X5_shut_47, k_X5_shut_48, k_X5_shut_49, wp1, wp_s, cutIn, kont, Nat.reduceSub, Nat.reduceAdd, nth, o_const, o_lconst, o_ref, o_iload, o_lload, o_aload, o_istore, o_lstore, o_astore, o_iinc, o_bin, o_div, o_un, o_lbin, o_lsh, o_lcmp, o_i2l, o_l2i, o_if, o_icmp, o_goto, o_dup, o_dup2, o_pop, fav, o_getf, o_putI, o_putZ, o_putL, o_ald, o_ast, o_alen, popn, rst, o_callV, o_callT, o_callS, swx, o_sw, o_ret, o_iret, o_zret, o_cret, o_lret, o_aret, lg, lput, lput2, ls1, isL, entL, wsum, rdI1, rdI2, rdA1, rdA21, rdA22, rdL1, rdL22, rdL21, upN_at, rep, sh_0, F_0_0, F_0_1, F_0_2, F_0_3, F_0_4, F_0_5, F_0_6, F_0_7, F_0_8, sh_1, F_1_0, F_1_1, F_1_2, F_1_3, F_1_4, F_1_5, sh_3, F_3_0, F_3_1, F_3_2, F_3_3, F_3_4, F_3_5, sh_5, F_5_0, F_5_1, F_5_2, F_5_3, F_5_4, F_5_5, F_5_6, F_5_7, F_5_8, sh_12, F_12_0, F_12_1, F_12_2, F_12_3, F_12_4, F_12_5, sh_14, F_14_0, F_14_1, F_14_2, F_14_3, F_14_4, F_14_5, F_14_6, F_14_7, F_14_8, sh_21, F_21_0, F_21_1, F_21_2, F_21_3, F_21_4, F_21_5, F_21_6, F_21_7, F_21_8, sh_28, F_28_0, F_28_1, F_28_2, F_28_3, F_28_4, F_28_5, F_28_6, F_28_7, F_28_8, sh_35, F_35_0, sh_39, F_39_0, F_39_1, F_39_2, F_39_3, F_39_4, F_39_5, F_39_6, F_39_7, F_39_8, F_39_9, F_39_10, F_39_11, F_39_12, F_39_13, A_2, A_4, A_6, A_7, A_8, A_9, A_10, A_11, A_13, A_15, A_16, A_17, A_18, A_19, A_20, A_22, A_23, A_24, A_25, A_26, A_27, A_29, A_30, A_31, A_32, A_33, A_34, A_36, A_37, A_38, A_40, A_41, A_42, A_43, A_44, A_45, A_46, A_47]
      rw [sA_sA]
      exact h2 k rfl hk q f2
  · dsimp only [k_X5_shut_0, k_X5_shut_1, k_X5_shut_2, k_X5_shut_5, k_X5_shut_8, k_X5_shut_9, k_X5_shut_12, k_X5_shut_14, k_X5_shut_15, k_X5_shut_16, k_X5_shut_17, k_X5_shut_19, k_X5_shut_22, k_X5_shut_23, k_X5_shut_24, k_X5_shut_25, k_X5_shut_26, k_X5_shut_29, k_X5_shut_32, k_X5_shut_33, k_X5_shut_34, k_X5_shut_37, k_X5_shut_38, k_X5_shut_39, k_X5_shut_40, k_X5_shut_41, k_X5_shut_42, k_X5_shut_43, k_X5_shut_46, k_X5_shut_47, k_X5_shut_48, k_X5_shut_49, wp1, wp_s, cutIn, kont, Nat.reduceSub, Nat.reduceAdd, nth, o_const, o_lconst, o_ref, o_iload, o_lload, o_aload, o_istore, o_lstore, o_astore, o_iinc, o_bin, o_div, o_un, o_lbin, o_lsh, o_lcmp, o_i2l, o_l2i, o_if, o_icmp, o_goto, o_dup, o_dup2, o_pop, fav, o_getf, o_putI, o_putZ, o_putL, o_ald, o_ast, o_alen, popn, rst, o_callV, o_callT, o_callS, swx, o_sw, o_ret, o_iret, o_zret, o_cret, o_lret, o_aret, lg, lput, lput2, ls1, isL, entL, wsum, rdI1, rdI2, rdA1, rdA21, rdA22, rdL1, rdL22, rdL21, upN_at, rep, sh_0, F_0_0, F_0_1, F_0_2, F_0_3, F_0_4, F_0_5, F_0_6, F_0_7, F_0_8, sh_1, F_1_0, F_1_1, F_1_2, F_1_3, F_1_4, F_1_5, sh_3, F_3_0, F_3_1, F_3_2, F_3_3, F_3_4, F_3_5, sh_5, F_5_0, F_5_1, F_5_2, F_5_3, F_5_4, F_5_5, F_5_6, F_5_7, F_5_8, sh_12, F_12_0, F_12_1, F_12_2, F_12_3, F_12_4, F_12_5, sh_14, F_14_0, F_14_1, F_14_2, F_14_3, F_14_4, F_14_5, F_14_6, F_14_7, F_14_8, sh_21, F_21_0, F_21_1, F_21_2, F_21_3, F_21_4, F_21_5, F_21_6, F_21_7, F_21_8, sh_28, F_28_0, F_28_1, F_28_2, F_28_3, F_28_4, F_28_5, F_28_6, F_28_7, F_28_8, sh_35, F_35_0, sh_39, F_39_0, F_39_1, F_39_2, F_39_3, F_39_4, F_39_5, F_39_6, F_39_7, F_39_8, F_39_9, F_39_10, F_39_11, F_39_12, F_39_13, A_2, A_4, A_6, A_7, A_8, A_9, A_10, A_11, A_13, A_15, A_16, A_17, A_18, A_19, A_20, A_22, A_23, A_24, A_25, A_26, A_27, A_29, A_30, A_31, A_32, A_33, A_34, A_36, A_37, A_38, A_40, A_41, A_42, A_43, A_44, A_45, A_46, A_47]
    exact ⟨fun _ => h1 fun k e1 e2 => absurd ⟨by rw [e1]; exact nI_pos' (by omega), by rw [e1, nI_ltI (by omega) (by omega)]; exact e2⟩ z, fun q => absurd rfl q⟩
theorem cov_n {r : Nat → Nat} {S k : Nat} (hS : S < 2 ^ k) : ∀ d v, cov r S (k + d) v ↔ cov r S k v := by
  intro d
  induction d with
  | zero => intro v; exact Iff.rfl
  | succ d ih =>
    intro v
    rw [← Nat.add_assoc, cov_s, ih]
    have : S.testBit (k + d) = false := Nat.testBit_lt_two_pow (Nat.lt_of_lt_of_le hS (Nat.pow_le_pow_right (by omega) (by omega)))
    rw [this]; simp
theorem cov_m {r : Nat → Nat} {S k v : Nat} : cov r (S % 2 ^ k) k v ↔ cov r S k v := by
  constructor
  · rintro ⟨T, hT, e⟩
    refine ⟨T, sb_iff.mpr fun j hj => ?_, e⟩
    have := sb_iff.mp hT j hj
    rw [Nat.testBit_mod_two_pow] at this
    simp at this; exact this.2
  · rintro ⟨T, hT, e⟩
    refine ⟨T % 2 ^ k, sb_iff.mpr fun j hj => ?_, ?_⟩
    · rw [Nat.testBit_mod_two_pow] at hj ⊢
      simp at hj
      simp [hj.1]; exact sb_iff.mp hT j hj.2
    · rw [← e]; exact xr_cg k fun j hj => by rw [Nat.testBit_mod_two_pow]; simp [hj]
theorem alo {r : Nat → Nat} {S n k v : Nat} (hk : k ≤ n) (hr : ∀ j, j < n → r j < 512) : rs (fsp r (S % 2 ^ k) n) v 9 = 0 ↔ rs (fsp r S k) v 9 = 0 := by
  obtain ⟨d, rfl⟩ := Nat.exists_eq_add_of_le hk
  rw [span _ hr, span _ fun j hj => hr j (by omega), cov_n (Nat.mod_lt _ (Nat.two_pow_pos k)), cov_m]
theorem us_m (h : Nat → Int32) {n i : Nat} (hi : i ≤ n) : us h n &&& (2 ^ i - 1) = us h n % 2 ^ i := Nat.and_two_pow_sub_one_eq_mod _ _
set_option maxRecDepth 100000 in
theorem v_X5_alone : ∀ as M post, S_X5_alone as M post → wsum as ≤ 3 ∧ RUN (T_X5_alone post) 0 (entL 3 as) [] M := by
  rintro as M post ⟨n, c, p, r, h0, lk, rfl, hX, h⟩
  have hX0 := hX
  obtain ⟨hn, hn8, hc, hc6, hp, hp4, hr, hhk, hl⟩ := hX
  have hul := us_lt h0 hn8
  refine ⟨by show 1 ≤ 3; omega, run_of [4] (fun μ pc lv st M' => pc = 4 ∧ st = [] ∧ ∃ i f, i ≤ n ∧ M' = sA 36 f M ∧ 10 - i = μ ∧ lv = [some (VR 39), some (VI (nI (alF r h0 n i))), some (VI (nI i))]) 60 20 ?_ ?_⟩
  · rintro μ pc lv st M' ⟨rfl, rfl, i, f, hi, rfl, rfl, rfl⟩
    dsimp only [k_X5_alone_0, k_X5_alone_1, k_X5_alone_2, k_X5_alone_3, k_X5_alone_4, k_X5_alone_5, k_X5_alone_6, k_X5_alone_9, k_X5_alone_10, k_X5_alone_11, k_X5_alone_14, k_X5_alone_15, k_X5_alone_16, k_X5_alone_19, k_X5_alone_20, k_X5_alone_21, k_X5_alone_22, k_X5_alone_23, k_X5_alone_24, k_X5_alone_25, k_X5_alone_28, k_X5_alone_29, k_X5_alone_30, k_X5_alone_33, k_X5_alone_34, k_X5_alone_35, k_X5_alone_36, k_X5_alone_37, k_X5_alone_38, k_X5_alone_41, k_X5_alone_42, k_X5_alone_45, k_X5_alone_46, k_X5_alone_49, k_X5_alone_50, k_X5_alone_51, k_X5_alone_52, k_X5_alone_53, k_X5_alone_54, k_X5_alone_57, k_X5_alone_58, k_X5_alone_59, k_X5_alone_60, k_X5_alone_63, k_X5_alone_64, k_X5_alone_65, k_X5_alone_66, k_X5_alone_69, k_X5_alone_72, k_X5_alone_73, wp1, wp_s, cutIn, kont, Nat.reduceSub, Nat.reduceAdd, nth, o_const, o_lconst, o_ref, o_iload, o_lload, o_aload, o_istore, o_lstore, o_astore, o_iinc, o_bin, o_div, o_un, o_lbin, o_lsh, o_lcmp, o_i2l, o_l2i, o_if, o_icmp, o_goto, o_dup, o_dup2, o_pop, fav, o_getf, o_putI, o_putZ, o_putL, o_ald, o_ast, o_alen, popn, rst, o_callV, o_callT, o_callS, swx, o_sw, o_ret, o_iret, o_zret, o_cret, o_lret, o_aret, lg, lput, lput2, ls1, isL, entL, wsum, rdI1, rdI2, rdA1, rdA21, rdA22, rdL1, rdL22, rdL21, upN_at, rep, sh_0, F_0_0, F_0_1, F_0_2, F_0_3, F_0_4, F_0_5, F_0_6, F_0_7, F_0_8, sh_1, F_1_0, F_1_1, F_1_2, F_1_3, F_1_4, F_1_5, sh_3, F_3_0, F_3_1, F_3_2, F_3_3, F_3_4, F_3_5, sh_5, F_5_0, F_5_1, F_5_2, F_5_3, F_5_4, F_5_5, F_5_6, F_5_7, F_5_8, sh_12, F_12_0, F_12_1, F_12_2, F_12_3, F_12_4, F_12_5, sh_14, F_14_0, F_14_1, F_14_2, F_14_3, F_14_4, F_14_5, F_14_6, F_14_7, F_14_8, sh_21, F_21_0, F_21_1, F_21_2, F_21_3, F_21_4, F_21_5, F_21_6, F_21_7, F_21_8, sh_28, F_28_0, F_28_1, F_28_2, F_28_3, F_28_4, F_28_5, F_28_6, F_28_7, F_28_8, sh_35, F_35_0, sh_39, F_39_0, F_39_1, F_39_2, F_39_3, F_39_4, F_39_5, F_39_6, F_39_7, F_39_8, F_39_9, F_39_10, F_39_11, F_39_12, F_39_13, A_2, A_4, A_6, A_7, A_8, A_9, A_10, A_11, A_13, A_15, A_16, A_17, A_18, A_19, A_20, A_22, A_23, A_24, A_25, A_26, A_27, A_29, A_30, A_31, A_32, A_33, A_34, A_36, A_37, A_38, A_40, A_41, A_42, A_43, A_44, A_45, A_46, A_47]
    refine ⟨0, by omega, rfl, ?_⟩
    rw [hn]
    simp (disch := omega) only [nI_leI, nI_ltI, nI_eq, nI_1, nI_add, one_shl, nI_or, nI_xor, nI_and, bit_0, bit_1, true_or, or_true, true_and, and_true, eq_self, not_true_eq_false, not_false_eq_true, forall_const]
    refine ⟨fun z => ?_, fun z => ⟨n, c, p, r, h0, lk, rfl, MW_36 hX0 f, ?_⟩⟩
    · rw [show n = i by omega] at h ⊢; exact h f
    · dsimp only [k_X5_alone_0, k_X5_alone_1, k_X5_alone_2, k_X5_alone_3, k_X5_alone_4, k_X5_alone_5, k_X5_alone_6, k_X5_alone_9, k_X5_alone_10, k_X5_alone_11, k_X5_alone_14, k_X5_alone_15, k_X5_alone_16, k_X5_alone_19, k_X5_alone_20, k_X5_alone_21, k_X5_alone_22, k_X5_alone_23, k_X5_alone_24, k_X5_alone_25, k_X5_alone_28, k_X5_alone_29, k_X5_alone_30, k_X5_alone_33, k_X5_alone_34, k_X5_alone_35, k_X5_alone_36, k_X5_alone_37, k_X5_alone_38, k_X5_alone_41, k_X5_alone_42, k_X5_alone_45, k_X5_alone_46, k_X5_alone_49, k_X5_alone_50, k_X5_alone_51, k_X5_alone_52, k_X5_alone_53, k_X5_alone_54, k_X5_alone_57, k_X5_alone_58, k_X5_alone_59, k_X5_alone_60, k_X5_alone_63, k_X5_alone_64, k_X5_alone_65, k_X5_alone_66, k_X5_alone_69, k_X5_alone_72, k_X5_alone_73, wp1, wp_s, cutIn, kont, Nat.reduceSub, Nat.reduceAdd, nth, o_const, o_lconst, o_ref, o_iload, o_lload, o_aload, o_istore, o_lstore, o_astore, o_iinc, o_bin, o_div, o_un, o_lbin, o_lsh, o_lcmp, o_i2l, o_l2i, o_if, o_icmp, o_goto, o_dup, o_dup2, o_pop, fav, o_getf, o_putI, o_putZ, o_putL, o_ald, o_ast, o_alen, popn, rst, o_callV, o_callT, o_callS, swx, o_sw, o_ret, o_iret, o_zret, o_cret, o_lret, o_aret, lg, lput, lput2, ls1, isL, entL, wsum, rdI1, rdI2, rdA1, rdA21, rdA22, rdL1, rdL22, rdL21, upN_at, rep, sh_0, F_0_0, F_0_1, F_0_2, F_0_3, F_0_4, F_0_5, F_0_6, F_0_7, F_0_8, sh_1, F_1_0, F_1_1, F_1_2, F_1_3, F_1_4, F_1_5, sh_3, F_3_0, F_3_1, F_3_2, F_3_3, F_3_4, F_3_5, sh_5, F_5_0, F_5_1, F_5_2, F_5_3, F_5_4, F_5_5, F_5_6, F_5_7, F_5_8, sh_12, F_12_0, F_12_1, F_12_2, F_12_3, F_12_4, F_12_5, sh_14, F_14_0, F_14_1, F_14_2, F_14_3, F_14_4, F_14_5, F_14_6, F_14_7, F_14_8, sh_21, F_21_0, F_21_1, F_21_2, F_21_3, F_21_4, F_21_5, F_21_6, F_21_7, F_21_8, sh_28, F_28_0, F_28_1, F_28_2, F_28_3, F_28_4, F_28_5, F_28_6, F_28_7, F_28_8, sh_35, F_35_0, sh_39, F_39_0, F_39_1, F_39_2, F_39_3, F_39_4, F_39_5, F_39_6, F_39_7, F_39_8, F_39_9, F_39_10, F_39_11, F_39_12, F_39_13, A_2, A_4, A_6, A_7, A_8, A_9, A_10, A_11, A_13, A_15, A_16, A_17, A_18, A_19, A_20, A_22, A_23, A_24, A_25, A_26, A_27, A_29, A_30, A_31, A_32, A_33, A_34, A_36, A_37, A_38, A_40, A_41, A_42, A_43, A_44, A_45, A_46, A_47]
      rw [shl1 (by omega), nI_and, us_m h0 hi]
      refine ⟨_, n, c, p, r, h0, lk, rfl, Nat.lt_of_le_of_lt (Nat.mod_le _ _) (us_lt2 h0 n), MW_36 hX0 f, fun f2 hf2 => ?_⟩
      dsimp only [k_X5_alone_0, k_X5_alone_1, k_X5_alone_2, k_X5_alone_3, k_X5_alone_4, k_X5_alone_5, k_X5_alone_6, k_X5_alone_9, k_X5_alone_10, k_X5_alone_11, k_X5_alone_14, k_X5_alone_15, k_X5_alone_16, k_X5_alone_19, k_X5_alone_20, k_X5_alone_21, k_X5_alone_22, k_X5_alone_23, k_X5_alone_24, k_X5_alone_25, k_X5_alone_28, k_X5_alone_29, k_X5_alone_30, k_X5_alone_33, k_X5_alone_34, k_X5_alone_35, k_X5_alone_36, k_X5_alone_37, k_X5_alone_38, k_X5_alone_41, k_X5_alone_42, k_X5_alone_45, k_X5_alone_46, k_X5_alone_49, k_X5_alone_50, k_X5_alone_51, k_X5_alone_52, k_X5_alone_53, k_X5_alone_54, k_X5_alone_57, k_X5_alone_58, k_X5_alone_59, k_X5_alone_60, k_X5_alone_63, k_X5_alone_64, k_X5_alone_65, k_X5_alone_66, k_X5_alone_69, k_X5_alone_72, k_X5_alone_73, wp1, wp_s, cutIn, kont, Nat.reduceSub, Nat.reduceAdd, nth, o_const, o_lconst, o_ref, o_iload, o_lload, o_aload, o_istore, o_lstore, o_astore, o_iinc, o_bin, o_div, o_un, o_lbin, o_lsh, o_lcmp, o_i2l, o_l2i, o_if, o_icmp, o_goto, o_dup, o_dup2, o_pop, fav, o_getf, o_putI, o_putZ, o_putL, o_ald, o_ast, o_alen, popn, rst, o_callV, o_callT, o_callS, swx, o_sw, o_ret, o_iret, o_zret, o_cret, o_lret, o_aret, lg, lput, lput2, ls1, isL, entL, wsum, rdI1, rdI2, rdA1, rdA21, rdA22, rdL1, rdL22, rdL21, upN_at, rep, sh_0, F_0_0, F_0_1, F_0_2, F_0_3, F_0_4, F_0_5, F_0_6, F_0_7, F_0_8, sh_1, F_1_0, F_1_1, F_1_2, F_1_3, F_1_4, F_1_5, sh_3, F_3_0, F_3_1, F_3_2, F_3_3, F_3_4, F_3_5, sh_5, F_5_0, F_5_1, F_5_2, F_5_3, F_5_4, F_5_5, F_5_6, F_5_7, F_5_8, sh_12, F_12_0, F_12_1, F_12_2, F_12_3, F_12_4, F_12_5, sh_14, F_14_0, F_14_1, F_14_2, F_14_3, F_14_4, F_14_5, F_14_6, F_14_7, F_14_8, sh_21, F_21_0, F_21_1, F_21_2, F_21_3, F_21_4, F_21_5, F_21_6, F_21_7, F_21_8, sh_28, F_28_0, F_28_1, F_28_2, F_28_3, F_28_4, F_28_5, F_28_6, F_28_7, F_28_8, sh_35, F_35_0, sh_39, F_39_0, F_39_1, F_39_2, F_39_3, F_39_4, F_39_5, F_39_6, F_39_7, F_39_8, F_39_9, F_39_10, F_39_11, F_39_12, F_39_13, A_2, A_4, A_6, A_7, A_8, A_9, A_10, A_11, A_13, A_15, A_16, A_17, A_18, A_19, A_20, A_22, A_23, A_24, A_25, A_26, A_27, A_29, A_30, A_31, A_32, A_33, A_34, A_36, A_37, A_38, A_40, A_41, A_42, A_43, A_44, A_45, A_46, A_47]
      refine ⟨n, c, p, r, h0, lk, rfl, MW_36 (MW_36 hX0 f) f2, ?_⟩
      dsimp only [k_X5_alone_0, k_X5_alone_1, k_X5_alone_2, k_X5_alone_3, k_X5_alone_4, k_X5_alone_5, k_X5_alone_6, k_X5_alone_9, k_X5_alone_10, k_X5_alone_11, k_X5_alone_14, k_X5_alone_15, k_X5_alone_16, k_X5_alone_19, k_X5_alone_20, k_X5_alone_21, k_X5_alone_22, k_X5_alone_23, k_X5_alone_24, k_X5_alone_25, k_X5_alone_28, k_X5_alone_29, k_X5_alone_30, k_X5_alone_33, k_X5_alone_34, k_X5_alone_35, k_X5_alone_36, k_X5_alone_37, k_X5_alone_38, k_X5_alone_41, k_X5_alone_42, k_X5_alone_45, k_X5_alone_46, k_X5_alone_49, k_X5_alone_50, k_X5_alone_51, k_X5_alone_52, k_X5_alone_53, k_X5_alone_54, k_X5_alone_57, k_X5_alone_58, k_X5_alone_59, k_X5_alone_60, k_X5_alone_63, k_X5_alone_64, k_X5_alone_65, k_X5_alone_66, k_X5_alone_69, k_X5_alone_72, k_X5_alone_73, wp1, wp_s, cutIn, kont, Nat.reduceSub, Nat.reduceAdd, nth, o_const, o_lconst, o_ref, o_iload, o_lload, o_aload, o_istore, o_lstore, o_astore, o_iinc, o_bin, o_div, o_un, o_lbin, o_lsh, o_lcmp, o_i2l, o_l2i, o_if, o_icmp, o_goto, o_dup, o_dup2, o_pop, fav, o_getf, o_putI, o_putZ, o_putL, o_ald, o_ast, o_alen, popn, rst, o_callV, o_callT, o_callS, swx, o_sw, o_ret, o_iret, o_zret, o_cret, o_lret, o_aret, lg, lput, lput2, ls1, isL, entL, wsum, rdI1, rdI2, rdA1, rdA21, rdA22, rdL1, rdL22, rdL21, upN_at, rep, sh_0, F_0_0, F_0_1, F_0_2, F_0_3, F_0_4, F_0_5, F_0_6, F_0_7, F_0_8, sh_1, F_1_0, F_1_1, F_1_2, F_1_3, F_1_4, F_1_5, sh_3, F_3_0, F_3_1, F_3_2, F_3_3, F_3_4, F_3_5, sh_5, F_5_0, F_5_1, F_5_2, F_5_3, F_5_4, F_5_5, F_5_6, F_5_7, F_5_8, sh_12, F_12_0, F_12_1, F_12_2, F_12_3, F_12_4, F_12_5, sh_14, F_14_0, F_14_1, F_14_2, F_14_3, F_14_4, F_14_5, F_14_6, F_14_7, F_14_8, sh_21, F_21_0, F_21_1, F_21_2, F_21_3, F_21_4, F_21_5, F_21_6, F_21_7, F_21_8, sh_28, F_28_0, F_28_1, F_28_2, F_28_3, F_28_4, F_28_5, F_28_6, F_28_7, F_28_8, sh_35, F_35_0, sh_39, F_39_0, F_39_1, F_39_2, F_39_3, F_39_4, F_39_5, F_39_6, F_39_7, F_39_8, F_39_9, F_39_10, F_39_11, F_39_12, F_39_13, A_2, A_4, A_6, A_7, A_8, A_9, A_10, A_11, A_13, A_15, A_16, A_17, A_18, A_19, A_20, A_22, A_23, A_24, A_25, A_26, A_27, A_29, A_30, A_31, A_32, A_33, A_34, A_36, A_37, A_38, A_40, A_41, A_42, A_43, A_44, A_45, A_46, A_47]
      simp (disch := omega) only [nI_leI, nI_ltI, nI_eq, nI_1, nI_add, one_shl, nI_or, nI_xor, nI_and, bit_0, bit_1, true_or, or_true, true_and, and_true, eq_self, not_true_eq_false, not_false_eq_true, forall_const]
      have hub : (us h0 n).testBit i = !(h0 i == -3) := by rw [us_bit]; simp; intro; omega
      obtain ⟨m1, m2⟩ := hf2 (r i) (hr i (by omega)).2
      rw [show ((rs (fsp r (us h0 n % 2 ^ i) n) (r i) 9 = 0) ↔ (rs (fsp r (us h0 n) i) (r i) 9 = 0)) from alo hi fun j hj => (hr j hj).2] at m1
      rw [show ((rs (fsp r (us h0 n % 2 ^ i) n) (r i) 9 ≠ 0) ↔ (rs (fsp r (us h0 n) i) (r i) 9 ≠ 0)) from not_congr (alo hi fun j hj => (hr j hj).2)] at m2
      refine ⟨fun q => ⟨1 + i, by omega, nI_add 1 i, r i, (hr i (by omega)).2, (hr i (by omega)).1, fun q2 => ?_, fun q2 => ?_⟩, fun q => ?_⟩
      · refine cut _ _ ⟨rfl, rfl, i + 1, f2, by omega, by rw [sA_sA], rfl, rfl⟩ (by omega) ⟨rfl, vi_eq ?_, vi_eq (by first | rfl | exact nI_1 _), trivial⟩
        have e : ¬ rs (fsp r (us h0 n) i) (r i) 9 = 0 := fun e => by rw [m1 e] at q2; exact absurd q2 (by decide)
        unfold alF; rw [mk_1 (by rw [hub] at q; simp [q, e])]
      · refine cut _ _ ⟨rfl, rfl, i + 1, f2, by omega, by rw [sA_sA], rfl, rfl⟩ (by omega) ⟨rfl, vi_eq ?_, vi_eq (by first | rfl | exact nI_1 _), trivial⟩
        have e : rs (fsp r (us h0 n) i) (r i) 9 = 0 := by
          by_cases e : rs (fsp r (us h0 n) i) (r i) 9 = 0
          · exact e
          · exact absurd (m2 e) q2
        rw [or_0]; unfold alF; rw [mk_0 (by simp [e])]
      · refine cut _ _ ⟨rfl, rfl, i + 1, f2, by omega, by rw [sA_sA], rfl, rfl⟩ (by omega) ⟨rfl, vi_eq ?_, vi_eq (by first | rfl | exact nI_1 _), trivial⟩
        rw [or_0]; unfold alF; rw [mk_0 (by rw [hub] at q; simp at q; simp [q])]
  · dsimp only [k_X5_alone_0, k_X5_alone_1, k_X5_alone_2, k_X5_alone_3, k_X5_alone_4, k_X5_alone_5, k_X5_alone_6, k_X5_alone_9, k_X5_alone_10, k_X5_alone_11, k_X5_alone_14, k_X5_alone_15, k_X5_alone_16, k_X5_alone_19, k_X5_alone_20, k_X5_alone_21, k_X5_alone_22, k_X5_alone_23, k_X5_alone_24, k_X5_alone_25, k_X5_alone_28, k_X5_alone_29, k_X5_alone_30, k_X5_alone_33, k_X5_alone_34, k_X5_alone_35, k_X5_alone_36, k_X5_alone_37, k_X5_alone_38, k_X5_alone_41, k_X5_alone_42, k_X5_alone_45, k_X5_alone_46, k_X5_alone_49, k_X5_alone_50, k_X5_alone_51, k_X5_alone_52, k_X5_alone_53, k_X5_alone_54, k_X5_alone_57, k_X5_alone_58, k_X5_alone_59, k_X5_alone_60, k_X5_alone_63, k_X5_alone_64, k_X5_alone_65, k_X5_alone_66, k_X5_alone_69, k_X5_alone_72, k_X5_alone_73, wp1, wp_s, cutIn, kont, Nat.reduceSub, Nat.reduceAdd, nth, o_const, o_lconst, o_ref, o_iload, o_lload, o_aload, o_istore, o_lstore, o_astore, o_iinc, o_bin, o_div, o_un, o_lbin, o_lsh, o_lcmp, o_i2l, o_l2i, o_if, o_icmp, o_goto, o_dup, o_dup2, o_pop, fav, o_getf, o_putI, o_putZ, o_putL, o_ald, o_ast, o_alen, popn, rst, o_callV, o_callT, o_callS, swx, o_sw, o_ret, o_iret, o_zret, o_cret, o_lret, o_aret, lg, lput, lput2, ls1, isL, entL, wsum, rdI1, rdI2, rdA1, rdA21, rdA22, rdL1, rdL22, rdL21, upN_at, rep, sh_0, F_0_0, F_0_1, F_0_2, F_0_3, F_0_4, F_0_5, F_0_6, F_0_7, F_0_8, sh_1, F_1_0, F_1_1, F_1_2, F_1_3, F_1_4, F_1_5, sh_3, F_3_0, F_3_1, F_3_2, F_3_3, F_3_4, F_3_5, sh_5, F_5_0, F_5_1, F_5_2, F_5_3, F_5_4, F_5_5, F_5_6, F_5_7, F_5_8, sh_12, F_12_0, F_12_1, F_12_2, F_12_3, F_12_4, F_12_5, sh_14, F_14_0, F_14_1, F_14_2, F_14_3, F_14_4, F_14_5, F_14_6, F_14_7, F_14_8, sh_21, F_21_0, F_21_1, F_21_2, F_21_3, F_21_4, F_21_5, F_21_6, F_21_7, F_21_8, sh_28, F_28_0, F_28_1, F_28_2, F_28_3, F_28_4, F_28_5, F_28_6, F_28_7, F_28_8, sh_35, F_35_0, sh_39, F_39_0, F_39_1, F_39_2, F_39_3, F_39_4, F_39_5, F_39_6, F_39_7, F_39_8, F_39_9, F_39_10, F_39_11, F_39_12, F_39_13, A_2, A_4, A_6, A_7, A_8, A_9, A_10, A_11, A_13, A_15, A_16, A_17, A_18, A_19, A_20, A_22, A_23, A_24, A_25, A_26, A_27, A_29, A_30, A_31, A_32, A_33, A_34, A_36, A_37, A_38, A_40, A_41, A_42, A_43, A_44, A_45, A_46, A_47]
    exact cut _ _ ⟨rfl, rfl, 0, M.2.2 36, by omega, (sA_self 36 M).symm, rfl, rfl⟩ (by omega) ⟨rfl, rfl, rfl, trivial⟩
theorem ne9 {k : Nat} (h : k < 1000) : nI k ≠ -9 := fun e => nI_pos (show k < 2 ^ 31 by omega) (by rw [e]; decide)
theorem wI_9 {m : Option Nat} {w : Nat → Nat} (hb : ∀ b, m = some b → w b < 1000) : wI m w = -9 ↔ m = none := by
  cases m with
  | none => exact ⟨fun _ => rfl, fun _ => rfl⟩
  | some b => exact ⟨fun e => absurd e (ne9 (hb b rfl)), fun e => by cases e⟩
theorem bsI_9 {m : Option Nat} (hb : ∀ b, m = some b → b < 1000) : bsI m = -9 ↔ m = none := by
  cases m with
  | none => exact ⟨fun _ => rfl, fun _ => rfl⟩
  | some b => exact ⟨fun e => absurd e (ne9 (hb b rfl)), fun e => by cases e⟩
theorem m1J : ∀ n, n < 70 → (nI n - 1).toInt = (n : Int) - 1 ∧ (nI n).toInt = n := by decide +kernel
theorem up_l2 {x : Int32} {n : Nat} (hn : n < 70) : (0 ≤ x ∧ x ≤ nI n - 1) ↔ (0 ≤ x ∧ x < nI n) := by
  have h := m1J n hn
  rw [Int32.le_iff_toInt_le, Int32.le_iff_toInt_le, Int32.lt_iff_toInt_lt, h.1, h.2]
  omega
set_option maxRecDepth 100000 in
theorem v_X5_apart : ∀ as M post, S_X5_apart as M post → wsum as ≤ 3 ∧ RUN (T_X5_apart post) 0 (entL 3 as) [] M := by
  rintro as M post ⟨n, c, p, r, h0, lk, rfl, hX, h⟩
  have hX0 := hX
  obtain ⟨hn, hn8, hc, hc6, hp, hp4, hr, hhk, hl⟩ := hX
  refine ⟨by show 1 ≤ 3; omega, run_of [13] (fun μ pc lv st M' => pc = 13 ∧ st = [] ∧ ∃ i f, 1 ≤ i ∧ i ≤ 512 ∧ isMk r n (us h0 n) f ∧ M' = sA 36 f M ∧ 1000 - i = μ ∧ lv = [some (VR 39), some (VI (wI (mnf (apP r h0 n) (fun T => cn T 9) i) (fun T => cn T 9))), some (VI (nI i))]) 60 2000 ?_ ?_⟩
  · rintro μ pc lv st M' ⟨rfl, rfl, i, f, hi1, hi, hf, rfl, rfl, rfl⟩
    dsimp only [k_X5_apart_0, k_X5_apart_1, k_X5_apart_2, k_X5_apart_5, k_X5_apart_8, k_X5_apart_10, k_X5_apart_11, k_X5_apart_12, k_X5_apart_13, k_X5_apart_14, k_X5_apart_17, k_X5_apart_20, k_X5_apart_21, k_X5_apart_24, k_X5_apart_25, k_X5_apart_26, k_X5_apart_29, k_X5_apart_30, k_X5_apart_32, k_X5_apart_35, k_X5_apart_36, k_X5_apart_39, k_X5_apart_40, k_X5_apart_43, k_X5_apart_44, k_X5_apart_47, k_X5_apart_50, k_X5_apart_51, k_X5_apart_52, k_X5_apart_55, k_X5_apart_58, k_X5_apart_59, wp1, wp_s, cutIn, kont, Nat.reduceSub, Nat.reduceAdd, nth, o_const, o_lconst, o_ref, o_iload, o_lload, o_aload, o_istore, o_lstore, o_astore, o_iinc, o_bin, o_div, o_un, o_lbin, o_lsh, o_lcmp, o_i2l, o_l2i, o_if, o_icmp, o_goto, o_dup, o_dup2, o_pop, fav, o_getf, o_putI, o_putZ, o_putL, o_ald, o_ast, o_alen, popn, rst, o_callV, o_callT, o_callS, swx, o_sw, o_ret, o_iret, o_zret, o_cret, o_lret, o_aret, lg, lput, lput2, ls1, isL, entL, wsum, rdI1, rdI2, rdA1, rdA21, rdA22, rdL1, rdL22, rdL21, upN_at, rep, sh_0, F_0_0, F_0_1, F_0_2, F_0_3, F_0_4, F_0_5, F_0_6, F_0_7, F_0_8, sh_1, F_1_0, F_1_1, F_1_2, F_1_3, F_1_4, F_1_5, sh_3, F_3_0, F_3_1, F_3_2, F_3_3, F_3_4, F_3_5, sh_5, F_5_0, F_5_1, F_5_2, F_5_3, F_5_4, F_5_5, F_5_6, F_5_7, F_5_8, sh_12, F_12_0, F_12_1, F_12_2, F_12_3, F_12_4, F_12_5, sh_14, F_14_0, F_14_1, F_14_2, F_14_3, F_14_4, F_14_5, F_14_6, F_14_7, F_14_8, sh_21, F_21_0, F_21_1, F_21_2, F_21_3, F_21_4, F_21_5, F_21_6, F_21_7, F_21_8, sh_28, F_28_0, F_28_1, F_28_2, F_28_3, F_28_4, F_28_5, F_28_6, F_28_7, F_28_8, sh_35, F_35_0, sh_39, F_39_0, F_39_1, F_39_2, F_39_3, F_39_4, F_39_5, F_39_6, F_39_7, F_39_8, F_39_9, F_39_10, F_39_11, F_39_12, F_39_13, A_2, A_4, A_6, A_7, A_8, A_9, A_10, A_11, A_13, A_15, A_16, A_17, A_18, A_19, A_20, A_22, A_23, A_24, A_25, A_26, A_27, A_29, A_30, A_31, A_32, A_33, A_34, A_36, A_37, A_38, A_40, A_41, A_42, A_43, A_44, A_45, A_46, A_47]
    rw [show (512 : Int32) = nI 512 from rfl]
    simp (disch := omega) only [nI_leI, nI_ltI, nI_eq, nI_1, nI_add, one_shl, nI_or, nI_xor, nI_and, bit_0, bit_1, true_or, or_true, true_and, and_true, eq_self, not_true_eq_false, not_false_eq_true, forall_const]
    have hcb : ∀ b, cn b 9 < 1000 := fun b => by have := cn_le b 9; omega
    have hci := cn_le i 9
    have hi2 : 1000 - (i + 1) < 1000 - i ∨ 512 ≤ i := by omega
    refine ⟨fun q => ?_, fun q => ⟨i, by omega, rfl, fun q2 => ?_, fun q2 => ⟨fun q3 => ?_, fun q3 => ?_⟩⟩⟩
    · rw [show i = 512 by omega]; exact h f
    · have hs := mnf_s0 (P := apP r h0 n) (w := fun g => cn g 9) (n := i) (fun z => by
        simp [apP] at z
        rw [(hf i (by omega)).1 z.2] at q2; exact absurd q2 (by decide))
      exact cut _ _ ⟨rfl, rfl, i + 1, f, by omega, by omega, hf, rfl, rfl, rfl⟩ (by omega) ⟨rfl, vi_eq (by rw [hs]), rfl, trivial⟩
    · have hP : apP r h0 n i = true := by
        have e : rs (fsp r (us h0 n) n) i 9 = 0 := by
          by_cases e : rs (fsp r (us h0 n) n) i 9 = 0
          · exact e
          · exact absurd ((hf i (by omega)).2 e) q2
        simp [apP, e]; omega
      have hm := (wI_9 fun b _ => hcb b).mp q3
      have hs := mnf_s1 (P := apP r h0 n) (w := fun g => cn g 9) (n := i) hP (fun b hb => by rw [hm] at hb; cases hb)
      refine ⟨i, rfl, by omega, ?_⟩
      dsimp only [k_X5_apart_0, k_X5_apart_1, k_X5_apart_2, k_X5_apart_5, k_X5_apart_8, k_X5_apart_10, k_X5_apart_11, k_X5_apart_12, k_X5_apart_13, k_X5_apart_14, k_X5_apart_17, k_X5_apart_20, k_X5_apart_21, k_X5_apart_24, k_X5_apart_25, k_X5_apart_26, k_X5_apart_29, k_X5_apart_30, k_X5_apart_32, k_X5_apart_35, k_X5_apart_36, k_X5_apart_39, k_X5_apart_40, k_X5_apart_43, k_X5_apart_44, k_X5_apart_47, k_X5_apart_50, k_X5_apart_51, k_X5_apart_52, k_X5_apart_55, k_X5_apart_58, k_X5_apart_59, wp1, wp_s, cutIn, kont, Nat.reduceSub, Nat.reduceAdd, nth, o_const, o_lconst, o_ref, o_iload, o_lload, o_aload, o_istore, o_lstore, o_astore, o_iinc, o_bin, o_div, o_un, o_lbin, o_lsh, o_lcmp, o_i2l, o_l2i, o_if, o_icmp, o_goto, o_dup, o_dup2, o_pop, fav, o_getf, o_putI, o_putZ, o_putL, o_ald, o_ast, o_alen, popn, rst, o_callV, o_callT, o_callS, swx, o_sw, o_ret, o_iret, o_zret, o_cret, o_lret, o_aret, lg, lput, lput2, ls1, isL, entL, wsum, rdI1, rdI2, rdA1, rdA21, rdA22, rdL1, rdL22, rdL21, upN_at, rep, sh_0, F_0_0, F_0_1, F_0_2, F_0_3, F_0_4, F_0_5, F_0_6, F_0_7, F_0_8, sh_1, F_1_0, F_1_1, F_1_2, F_1_3, F_1_4, F_1_5, sh_3, F_3_0, F_3_1, F_3_2, F_3_3, F_3_4, F_3_5, sh_5, F_5_0, F_5_1, F_5_2, F_5_3, F_5_4, F_5_5, F_5_6, F_5_7, F_5_8, sh_12, F_12_0, F_12_1, F_12_2, F_12_3, F_12_4, F_12_5, sh_14, F_14_0, F_14_1, F_14_2, F_14_3, F_14_4, F_14_5, F_14_6, F_14_7, F_14_8, sh_21, F_21_0, F_21_1, F_21_2, F_21_3, F_21_4, F_21_5, F_21_6, F_21_7, F_21_8, sh_28, F_28_0, F_28_1, F_28_2, F_28_3, F_28_4, F_28_5, F_28_6, F_28_7, F_28_8, sh_35, F_35_0, sh_39, F_39_0, F_39_1, F_39_2, F_39_3, F_39_4, F_39_5, F_39_6, F_39_7, F_39_8, F_39_9, F_39_10, F_39_11, F_39_12, F_39_13, A_2, A_4, A_6, A_7, A_8, A_9, A_10, A_11, A_13, A_15, A_16, A_17, A_18, A_19, A_20, A_22, A_23, A_24, A_25, A_26, A_27, A_29, A_30, A_31, A_32, A_33, A_34, A_36, A_37, A_38, A_40, A_41, A_42, A_43, A_44, A_45, A_46, A_47]
      exact cut _ _ ⟨rfl, rfl, i + 1, f, by omega, by omega, hf, rfl, rfl, rfl⟩ (by omega) ⟨rfl, vi_eq (by rw [hs] <;> rfl), vi_eq (by first | rfl | exact nI_1 _), trivial⟩
    · have hP : apP r h0 n i = true := by
        have e : rs (fsp r (us h0 n) n) i 9 = 0 := by
          by_cases e : rs (fsp r (us h0 n) n) i 9 = 0
          · exact e
          · exact absurd ((hf i (by omega)).2 e) q2
        simp [apP, e]; omega
      refine ⟨i, rfl, by omega, ?_⟩
      cases hm : mnf (apP r h0 n) (fun T => cn T 9) i with
      | none => rw [hm] at q3; exact absurd rfl q3
      | some b =>
        have hbb := hcb b
        dsimp only [k_X5_apart_0, k_X5_apart_1, k_X5_apart_2, k_X5_apart_5, k_X5_apart_8, k_X5_apart_10, k_X5_apart_11, k_X5_apart_12, k_X5_apart_13, k_X5_apart_14, k_X5_apart_17, k_X5_apart_20, k_X5_apart_21, k_X5_apart_24, k_X5_apart_25, k_X5_apart_26, k_X5_apart_29, k_X5_apart_30, k_X5_apart_32, k_X5_apart_35, k_X5_apart_36, k_X5_apart_39, k_X5_apart_40, k_X5_apart_43, k_X5_apart_44, k_X5_apart_47, k_X5_apart_50, k_X5_apart_51, k_X5_apart_52, k_X5_apart_55, k_X5_apart_58, k_X5_apart_59, wp1, wp_s, cutIn, kont, Nat.reduceSub, Nat.reduceAdd, nth, o_const, o_lconst, o_ref, o_iload, o_lload, o_aload, o_istore, o_lstore, o_astore, o_iinc, o_bin, o_div, o_un, o_lbin, o_lsh, o_lcmp, o_i2l, o_l2i, o_if, o_icmp, o_goto, o_dup, o_dup2, o_pop, fav, o_getf, o_putI, o_putZ, o_putL, o_ald, o_ast, o_alen, popn, rst, o_callV, o_callT, o_callS, swx, o_sw, o_ret, o_iret, o_zret, o_cret, o_lret, o_aret, lg, lput, lput2, ls1, isL, entL, wsum, rdI1, rdI2, rdA1, rdA21, rdA22, rdL1, rdL22, rdL21, upN_at, rep, sh_0, F_0_0, F_0_1, F_0_2, F_0_3, F_0_4, F_0_5, F_0_6, F_0_7, F_0_8, sh_1, F_1_0, F_1_1, F_1_2, F_1_3, F_1_4, F_1_5, sh_3, F_3_0, F_3_1, F_3_2, F_3_3, F_3_4, F_3_5, sh_5, F_5_0, F_5_1, F_5_2, F_5_3, F_5_4, F_5_5, F_5_6, F_5_7, F_5_8, sh_12, F_12_0, F_12_1, F_12_2, F_12_3, F_12_4, F_12_5, sh_14, F_14_0, F_14_1, F_14_2, F_14_3, F_14_4, F_14_5, F_14_6, F_14_7, F_14_8, sh_21, F_21_0, F_21_1, F_21_2, F_21_3, F_21_4, F_21_5, F_21_6, F_21_7, F_21_8, sh_28, F_28_0, F_28_1, F_28_2, F_28_3, F_28_4, F_28_5, F_28_6, F_28_7, F_28_8, sh_35, F_35_0, sh_39, F_39_0, F_39_1, F_39_2, F_39_3, F_39_4, F_39_5, F_39_6, F_39_7, F_39_8, F_39_9, F_39_10, F_39_11, F_39_12, F_39_13, A_2, A_4, A_6, A_7, A_8, A_9, A_10, A_11, A_13, A_15, A_16, A_17, A_18, A_19, A_20, A_22, A_23, A_24, A_25, A_26, A_27, A_29, A_30, A_31, A_32, A_33, A_34, A_36, A_37, A_38, A_40, A_41, A_42, A_43, A_44, A_45, A_46, A_47, wI]
        simp (disch := omega) only [nI_leI, nI_ltI, nI_eq, nI_1, nI_add, one_shl, nI_or, nI_xor, nI_and, bit_0, bit_1, true_or, or_true, true_and, and_true, eq_self, not_true_eq_false, not_false_eq_true, forall_const]
        refine ⟨fun q4 => ?_, fun q4 => ?_⟩
        · have hs := mnf_s0 (P := apP r h0 n) (w := fun g => cn g 9) (n := i) (fun _ => ⟨b, hm, q4⟩)
          exact cut _ _ ⟨rfl, rfl, i + 1, f, by omega, by omega, hf, rfl, rfl, rfl⟩ (by omega) ⟨rfl, vi_eq (by rw [hs, hm] <;> rfl), vi_eq (by first | rfl | exact nI_1 _), trivial⟩
        · have hs := mnf_s1 (P := apP r h0 n) (w := fun g => cn g 9) (n := i) hP (fun b' hb => by rw [hm] at hb; cases hb; exact Nat.lt_of_not_le q4)
          refine ⟨i, rfl, by omega, ?_⟩
          dsimp only [k_X5_apart_0, k_X5_apart_1, k_X5_apart_2, k_X5_apart_5, k_X5_apart_8, k_X5_apart_10, k_X5_apart_11, k_X5_apart_12, k_X5_apart_13, k_X5_apart_14, k_X5_apart_17, k_X5_apart_20, k_X5_apart_21, k_X5_apart_24, k_X5_apart_25, k_X5_apart_26, k_X5_apart_29, k_X5_apart_30, k_X5_apart_32, k_X5_apart_35, k_X5_apart_36, k_X5_apart_39, k_X5_apart_40, k_X5_apart_43, k_X5_apart_44, k_X5_apart_47, k_X5_apart_50, k_X5_apart_51, k_X5_apart_52, k_X5_apart_55, k_X5_apart_58, k_X5_apart_59, wp1, wp_s, cutIn, kont, Nat.reduceSub, Nat.reduceAdd, nth, o_const, o_lconst, o_ref, o_iload, o_lload, o_aload, o_istore, o_lstore, o_astore, o_iinc, o_bin, o_div, o_un, o_lbin, o_lsh, o_lcmp, o_i2l, o_l2i, o_if, o_icmp, o_goto, o_dup, o_dup2, o_pop, fav, o_getf, o_putI, o_putZ, o_putL, o_ald, o_ast, o_alen, popn, rst, o_callV, o_callT, o_callS, swx, o_sw, o_ret, o_iret, o_zret, o_cret, o_lret, o_aret, lg, lput, lput2, ls1, isL, entL, wsum, rdI1, rdI2, rdA1, rdA21, rdA22, rdL1, rdL22, rdL21, upN_at, rep, sh_0, F_0_0, F_0_1, F_0_2, F_0_3, F_0_4, F_0_5, F_0_6, F_0_7, F_0_8, sh_1, F_1_0, F_1_1, F_1_2, F_1_3, F_1_4, F_1_5, sh_3, F_3_0, F_3_1, F_3_2, F_3_3, F_3_4, F_3_5, sh_5, F_5_0, F_5_1, F_5_2, F_5_3, F_5_4, F_5_5, F_5_6, F_5_7, F_5_8, sh_12, F_12_0, F_12_1, F_12_2, F_12_3, F_12_4, F_12_5, sh_14, F_14_0, F_14_1, F_14_2, F_14_3, F_14_4, F_14_5, F_14_6, F_14_7, F_14_8, sh_21, F_21_0, F_21_1, F_21_2, F_21_3, F_21_4, F_21_5, F_21_6, F_21_7, F_21_8, sh_28, F_28_0, F_28_1, F_28_2, F_28_3, F_28_4, F_28_5, F_28_6, F_28_7, F_28_8, sh_35, F_35_0, sh_39, F_39_0, F_39_1, F_39_2, F_39_3, F_39_4, F_39_5, F_39_6, F_39_7, F_39_8, F_39_9, F_39_10, F_39_11, F_39_12, F_39_13, A_2, A_4, A_6, A_7, A_8, A_9, A_10, A_11, A_13, A_15, A_16, A_17, A_18, A_19, A_20, A_22, A_23, A_24, A_25, A_26, A_27, A_29, A_30, A_31, A_32, A_33, A_34, A_36, A_37, A_38, A_40, A_41, A_42, A_43, A_44, A_45, A_46, A_47]
          exact cut _ _ ⟨rfl, rfl, i + 1, f, by omega, by omega, hf, rfl, rfl, rfl⟩ (by omega) ⟨rfl, vi_eq (by rw [hs] <;> rfl), vi_eq (by first | rfl | exact nI_1 _), trivial⟩
  · dsimp only [k_X5_apart_0, k_X5_apart_1, k_X5_apart_2, k_X5_apart_5, k_X5_apart_8, k_X5_apart_10, k_X5_apart_11, k_X5_apart_12, k_X5_apart_13, k_X5_apart_14, k_X5_apart_17, k_X5_apart_20, k_X5_apart_21, k_X5_apart_24, k_X5_apart_25, k_X5_apart_26, k_X5_apart_29, k_X5_apart_30, k_X5_apart_32, k_X5_apart_35, k_X5_apart_36, k_X5_apart_39, k_X5_apart_40, k_X5_apart_43, k_X5_apart_44, k_X5_apart_47, k_X5_apart_50, k_X5_apart_51, k_X5_apart_52, k_X5_apart_55, k_X5_apart_58, k_X5_apart_59, wp1, wp_s, cutIn, kont, Nat.reduceSub, Nat.reduceAdd, nth, o_const, o_lconst, o_ref, o_iload, o_lload, o_aload, o_istore, o_lstore, o_astore, o_iinc, o_bin, o_div, o_un, o_lbin, o_lsh, o_lcmp, o_i2l, o_l2i, o_if, o_icmp, o_goto, o_dup, o_dup2, o_pop, fav, o_getf, o_putI, o_putZ, o_putL, o_ald, o_ast, o_alen, popn, rst, o_callV, o_callT, o_callS, swx, o_sw, o_ret, o_iret, o_zret, o_cret, o_lret, o_aret, lg, lput, lput2, ls1, isL, entL, wsum, rdI1, rdI2, rdA1, rdA21, rdA22, rdL1, rdL22, rdL21, upN_at, rep, sh_0, F_0_0, F_0_1, F_0_2, F_0_3, F_0_4, F_0_5, F_0_6, F_0_7, F_0_8, sh_1, F_1_0, F_1_1, F_1_2, F_1_3, F_1_4, F_1_5, sh_3, F_3_0, F_3_1, F_3_2, F_3_3, F_3_4, F_3_5, sh_5, F_5_0, F_5_1, F_5_2, F_5_3, F_5_4, F_5_5, F_5_6, F_5_7, F_5_8, sh_12, F_12_0, F_12_1, F_12_2, F_12_3, F_12_4, F_12_5, sh_14, F_14_0, F_14_1, F_14_2, F_14_3, F_14_4, F_14_5, F_14_6, F_14_7, F_14_8, sh_21, F_21_0, F_21_1, F_21_2, F_21_3, F_21_4, F_21_5, F_21_6, F_21_7, F_21_8, sh_28, F_28_0, F_28_1, F_28_2, F_28_3, F_28_4, F_28_5, F_28_6, F_28_7, F_28_8, sh_35, F_35_0, sh_39, F_39_0, F_39_1, F_39_2, F_39_3, F_39_4, F_39_5, F_39_6, F_39_7, F_39_8, F_39_9, F_39_10, F_39_11, F_39_12, F_39_13, A_2, A_4, A_6, A_7, A_8, A_9, A_10, A_11, A_13, A_15, A_16, A_17, A_18, A_19, A_20, A_22, A_23, A_24, A_25, A_26, A_27, A_29, A_30, A_31, A_32, A_33, A_34, A_36, A_37, A_38, A_40, A_41, A_42, A_43, A_44, A_45, A_46, A_47]
    refine ⟨n, c, p, r, h0, lk, rfl, hX0, ?_⟩
    dsimp only [k_X5_apart_0, k_X5_apart_1, k_X5_apart_2, k_X5_apart_5, k_X5_apart_8, k_X5_apart_10, k_X5_apart_11, k_X5_apart_12, k_X5_apart_13, k_X5_apart_14, k_X5_apart_17, k_X5_apart_20, k_X5_apart_21, k_X5_apart_24, k_X5_apart_25, k_X5_apart_26, k_X5_apart_29, k_X5_apart_30, k_X5_apart_32, k_X5_apart_35, k_X5_apart_36, k_X5_apart_39, k_X5_apart_40, k_X5_apart_43, k_X5_apart_44, k_X5_apart_47, k_X5_apart_50, k_X5_apart_51, k_X5_apart_52, k_X5_apart_55, k_X5_apart_58, k_X5_apart_59, wp1, wp_s, cutIn, kont, Nat.reduceSub, Nat.reduceAdd, nth, o_const, o_lconst, o_ref, o_iload, o_lload, o_aload, o_istore, o_lstore, o_astore, o_iinc, o_bin, o_div, o_un, o_lbin, o_lsh, o_lcmp, o_i2l, o_l2i, o_if, o_icmp, o_goto, o_dup, o_dup2, o_pop, fav, o_getf, o_putI, o_putZ, o_putL, o_ald, o_ast, o_alen, popn, rst, o_callV, o_callT, o_callS, swx, o_sw, o_ret, o_iret, o_zret, o_cret, o_lret, o_aret, lg, lput, lput2, ls1, isL, entL, wsum, rdI1, rdI2, rdA1, rdA21, rdA22, rdL1, rdL22, rdL21, upN_at, rep, sh_0, F_0_0, F_0_1, F_0_2, F_0_3, F_0_4, F_0_5, F_0_6, F_0_7, F_0_8, sh_1, F_1_0, F_1_1, F_1_2, F_1_3, F_1_4, F_1_5, sh_3, F_3_0, F_3_1, F_3_2, F_3_3, F_3_4, F_3_5, sh_5, F_5_0, F_5_1, F_5_2, F_5_3, F_5_4, F_5_5, F_5_6, F_5_7, F_5_8, sh_12, F_12_0, F_12_1, F_12_2, F_12_3, F_12_4, F_12_5, sh_14, F_14_0, F_14_1, F_14_2, F_14_3, F_14_4, F_14_5, F_14_6, F_14_7, F_14_8, sh_21, F_21_0, F_21_1, F_21_2, F_21_3, F_21_4, F_21_5, F_21_6, F_21_7, F_21_8, sh_28, F_28_0, F_28_1, F_28_2, F_28_3, F_28_4, F_28_5, F_28_6, F_28_7, F_28_8, sh_35, F_35_0, sh_39, F_39_0, F_39_1, F_39_2, F_39_3, F_39_4, F_39_5, F_39_6, F_39_7, F_39_8, F_39_9, F_39_10, F_39_11, F_39_12, F_39_13, A_2, A_4, A_6, A_7, A_8, A_9, A_10, A_11, A_13, A_15, A_16, A_17, A_18, A_19, A_20, A_22, A_23, A_24, A_25, A_26, A_27, A_29, A_30, A_31, A_32, A_33, A_34, A_36, A_37, A_38, A_40, A_41, A_42, A_43, A_44, A_45, A_46, A_47]
    refine ⟨_, n, c, p, r, h0, lk, rfl, us_lt2 h0 n, hX0, fun f hf => ?_⟩
    dsimp only [k_X5_apart_0, k_X5_apart_1, k_X5_apart_2, k_X5_apart_5, k_X5_apart_8, k_X5_apart_10, k_X5_apart_11, k_X5_apart_12, k_X5_apart_13, k_X5_apart_14, k_X5_apart_17, k_X5_apart_20, k_X5_apart_21, k_X5_apart_24, k_X5_apart_25, k_X5_apart_26, k_X5_apart_29, k_X5_apart_30, k_X5_apart_32, k_X5_apart_35, k_X5_apart_36, k_X5_apart_39, k_X5_apart_40, k_X5_apart_43, k_X5_apart_44, k_X5_apart_47, k_X5_apart_50, k_X5_apart_51, k_X5_apart_52, k_X5_apart_55, k_X5_apart_58, k_X5_apart_59, wp1, wp_s, cutIn, kont, Nat.reduceSub, Nat.reduceAdd, nth, o_const, o_lconst, o_ref, o_iload, o_lload, o_aload, o_istore, o_lstore, o_astore, o_iinc, o_bin, o_div, o_un, o_lbin, o_lsh, o_lcmp, o_i2l, o_l2i, o_if, o_icmp, o_goto, o_dup, o_dup2, o_pop, fav, o_getf, o_putI, o_putZ, o_putL, o_ald, o_ast, o_alen, popn, rst, o_callV, o_callT, o_callS, swx, o_sw, o_ret, o_iret, o_zret, o_cret, o_lret, o_aret, lg, lput, lput2, ls1, isL, entL, wsum, rdI1, rdI2, rdA1, rdA21, rdA22, rdL1, rdL22, rdL21, upN_at, rep, sh_0, F_0_0, F_0_1, F_0_2, F_0_3, F_0_4, F_0_5, F_0_6, F_0_7, F_0_8, sh_1, F_1_0, F_1_1, F_1_2, F_1_3, F_1_4, F_1_5, sh_3, F_3_0, F_3_1, F_3_2, F_3_3, F_3_4, F_3_5, sh_5, F_5_0, F_5_1, F_5_2, F_5_3, F_5_4, F_5_5, F_5_6, F_5_7, F_5_8, sh_12, F_12_0, F_12_1, F_12_2, F_12_3, F_12_4, F_12_5, sh_14, F_14_0, F_14_1, F_14_2, F_14_3, F_14_4, F_14_5, F_14_6, F_14_7, F_14_8, sh_21, F_21_0, F_21_1, F_21_2, F_21_3, F_21_4, F_21_5, F_21_6, F_21_7, F_21_8, sh_28, F_28_0, F_28_1, F_28_2, F_28_3, F_28_4, F_28_5, F_28_6, F_28_7, F_28_8, sh_35, F_35_0, sh_39, F_39_0, F_39_1, F_39_2, F_39_3, F_39_4, F_39_5, F_39_6, F_39_7, F_39_8, F_39_9, F_39_10, F_39_11, F_39_12, F_39_13, A_2, A_4, A_6, A_7, A_8, A_9, A_10, A_11, A_13, A_15, A_16, A_17, A_18, A_19, A_20, A_22, A_23, A_24, A_25, A_26, A_27, A_29, A_30, A_31, A_32, A_33, A_34, A_36, A_37, A_38, A_40, A_41, A_42, A_43, A_44, A_45, A_46, A_47]
    exact cut _ _ ⟨rfl, rfl, 1, f, by omega, by omega, hf, rfl, rfl, rfl⟩ (by omega) ⟨rfl, rfl, rfl, trivial⟩
theorem mnf_lt {P : Nat → Bool} {w : Nat → Nat} : ∀ {n b : Nat}, mnf P w n = some b → b < n := by
  intro n
  induction n with
  | zero => intro b hb; rw [mnf] at hb; cases hb
  | succ n ih =>
    intro b hb
    rw [mnf] at hb
    split at hb
    · split at hb
      · cases hb; omega
      · cases hb
    · rename_i hm
      split at hb
      · cases hb; omega
      · cases hb; have := ih hm; omega
set_option maxRecDepth 100000 in
theorem v_X5_rob : ∀ as M post, S_X5_rob as M post → wsum as ≤ 5 ∧ RUN (T_X5_rob post) 0 (entL 5 as) [] M := by
  rintro as M post ⟨x, n, c, p, r, h0, lk, rfl, hX, hH, h1, h2⟩
  have hX0 := hX
  obtain ⟨hn, hn8, hc, hc6, hp, hp4, hr, hhk, hl⟩ := hX
  have hpp := ev_lt hp4
  have hp1 := Nat.one_le_two_pow (n := p)
  have hc1 := Nat.one_le_two_pow (n := c)
  have hc2 : 2 ^ c ≤ 64 := Nat.pow_le_pow_right (n := 2) (by omega) hc6
  refine ⟨by show 2 ≤ 5; omega, run_of [25] (fun μ pc lv st M' => st = [] ∧ pc = 25 ∧ ∃ lo g f, x = nI lo ∧ lo < 2 ^ c ∧ g ≤ 2 ^ p ∧ M' = sA 36 f M ∧ 1000 - g = μ ∧ lv = [some (VR 39), some (VI x), some (VI (bsI (mnf (rbP r h0 n p lk c lo) (fun g => cn g 9) g))), some (VI (nI g)), none]) 60 2000 ?_ ?_⟩
  · rintro μ pc lv st M' ⟨rfl, rfl, lo, g, f, rfl, hlo, hg, rfl, rfl, rfl⟩
    dsimp only [k_X5_rob_0, k_X5_rob_1, k_X5_rob_2, k_X5_rob_3, k_X5_rob_4, k_X5_rob_7, k_X5_rob_8, k_X5_rob_9, k_X5_rob_10, k_X5_rob_11, k_X5_rob_12, k_X5_rob_15, k_X5_rob_18, k_X5_rob_19, k_X5_rob_20, k_X5_rob_22, k_X5_rob_23, k_X5_rob_24, k_X5_rob_25, k_X5_rob_26, k_X5_rob_27, k_X5_rob_30, k_X5_rob_33, k_X5_rob_34, k_X5_rob_35, k_X5_rob_36, k_X5_rob_37, k_X5_rob_40, k_X5_rob_41, k_X5_rob_44, k_X5_rob_45, k_X5_rob_48, k_X5_rob_49, k_X5_rob_50, k_X5_rob_51, k_X5_rob_54, k_X5_rob_55, k_X5_rob_58, k_X5_rob_59, k_X5_rob_61, k_X5_rob_63, k_X5_rob_66, k_X5_rob_67, k_X5_rob_69, k_X5_rob_72, k_X5_rob_73, k_X5_rob_76, k_X5_rob_77, k_X5_rob_80, k_X5_rob_83, k_X5_rob_84, k_X5_rob_87, k_X5_rob_88, k_X5_rob_89, k_X5_rob_92, k_X5_rob_95, k_X5_rob_96, wp1, wp_s, cutIn, kont, Nat.reduceSub, Nat.reduceAdd, nth, o_const, o_lconst, o_ref, o_iload, o_lload, o_aload, o_istore, o_lstore, o_astore, o_iinc, o_bin, o_div, o_un, o_lbin, o_lsh, o_lcmp, o_i2l, o_l2i, o_if, o_icmp, o_goto, o_dup, o_dup2, o_pop, fav, o_getf, o_putI, o_putZ, o_putL, o_ald, o_ast, o_alen, popn, rst, o_callV, o_callT, o_callS, swx, o_sw, o_ret, o_iret, o_zret, o_cret, o_lret, o_aret, lg, lput, lput2, ls1, isL, entL, wsum, rdI1, rdI2, rdA1, rdA21, rdA22, rdL1, rdL22, rdL21, upN_at, rep, sh_0, F_0_0, F_0_1, F_0_2, F_0_3, F_0_4, F_0_5, F_0_6, F_0_7, F_0_8, sh_1, F_1_0, F_1_1, F_1_2, F_1_3, F_1_4, F_1_5, sh_3, F_3_0, F_3_1, F_3_2, F_3_3, F_3_4, F_3_5, sh_5, F_5_0, F_5_1, F_5_2, F_5_3, F_5_4, F_5_5, F_5_6, F_5_7, F_5_8, sh_12, F_12_0, F_12_1, F_12_2, F_12_3, F_12_4, F_12_5, sh_14, F_14_0, F_14_1, F_14_2, F_14_3, F_14_4, F_14_5, F_14_6, F_14_7, F_14_8, sh_21, F_21_0, F_21_1, F_21_2, F_21_3, F_21_4, F_21_5, F_21_6, F_21_7, F_21_8, sh_28, F_28_0, F_28_1, F_28_2, F_28_3, F_28_4, F_28_5, F_28_6, F_28_7, F_28_8, sh_35, F_35_0, sh_39, F_39_0, F_39_1, F_39_2, F_39_3, F_39_4, F_39_5, F_39_6, F_39_7, F_39_8, F_39_9, F_39_10, F_39_11, F_39_12, F_39_13, A_2, A_4, A_6, A_7, A_8, A_9, A_10, A_11, A_13, A_15, A_16, A_17, A_18, A_19, A_20, A_22, A_23, A_24, A_25, A_26, A_27, A_29, A_30, A_31, A_32, A_33, A_34, A_36, A_37, A_38, A_40, A_41, A_42, A_43, A_44, A_45, A_46, A_47]
    refine ⟨nI g, n, c, p, r, h0, lk, rfl, MW_36 hX0 f, fun z => ?_, fun z => ?_⟩
    · dsimp only [k_X5_rob_0, k_X5_rob_1, k_X5_rob_2, k_X5_rob_3, k_X5_rob_4, k_X5_rob_7, k_X5_rob_8, k_X5_rob_9, k_X5_rob_10, k_X5_rob_11, k_X5_rob_12, k_X5_rob_15, k_X5_rob_18, k_X5_rob_19, k_X5_rob_20, k_X5_rob_22, k_X5_rob_23, k_X5_rob_24, k_X5_rob_25, k_X5_rob_26, k_X5_rob_27, k_X5_rob_30, k_X5_rob_33, k_X5_rob_34, k_X5_rob_35, k_X5_rob_36, k_X5_rob_37, k_X5_rob_40, k_X5_rob_41, k_X5_rob_44, k_X5_rob_45, k_X5_rob_48, k_X5_rob_49, k_X5_rob_50, k_X5_rob_51, k_X5_rob_54, k_X5_rob_55, k_X5_rob_58, k_X5_rob_59, k_X5_rob_61, k_X5_rob_63, k_X5_rob_66, k_X5_rob_67, k_X5_rob_69, k_X5_rob_72, k_X5_rob_73, k_X5_rob_76, k_X5_rob_77, k_X5_rob_80, k_X5_rob_83, k_X5_rob_84, k_X5_rob_87, k_X5_rob_88, k_X5_rob_89, k_X5_rob_92, k_X5_rob_95, k_X5_rob_96, wp1, wp_s, cutIn, kont, Nat.reduceSub, Nat.reduceAdd, nth, o_const, o_lconst, o_ref, o_iload, o_lload, o_aload, o_istore, o_lstore, o_astore, o_iinc, o_bin, o_div, o_un, o_lbin, o_lsh, o_lcmp, o_i2l, o_l2i, o_if, o_icmp, o_goto, o_dup, o_dup2, o_pop, fav, o_getf, o_putI, o_putZ, o_putL, o_ald, o_ast, o_alen, popn, rst, o_callV, o_callT, o_callS, swx, o_sw, o_ret, o_iret, o_zret, o_cret, o_lret, o_aret, lg, lput, lput2, ls1, isL, entL, wsum, rdI1, rdI2, rdA1, rdA21, rdA22, rdL1, rdL22, rdL21, upN_at, rep, sh_0, F_0_0, F_0_1, F_0_2, F_0_3, F_0_4, F_0_5, F_0_6, F_0_7, F_0_8, sh_1, F_1_0, F_1_1, F_1_2, F_1_3, F_1_4, F_1_5, sh_3, F_3_0, F_3_1, F_3_2, F_3_3, F_3_4, F_3_5, sh_5, F_5_0, F_5_1, F_5_2, F_5_3, F_5_4, F_5_5, F_5_6, F_5_7, F_5_8, sh_12, F_12_0, F_12_1, F_12_2, F_12_3, F_12_4, F_12_5, sh_14, F_14_0, F_14_1, F_14_2, F_14_3, F_14_4, F_14_5, F_14_6, F_14_7, F_14_8, sh_21, F_21_0, F_21_1, F_21_2, F_21_3, F_21_4, F_21_5, F_21_6, F_21_7, F_21_8, sh_28, F_28_0, F_28_1, F_28_2, F_28_3, F_28_4, F_28_5, F_28_6, F_28_7, F_28_8, sh_35, F_35_0, sh_39, F_39_0, F_39_1, F_39_2, F_39_3, F_39_4, F_39_5, F_39_6, F_39_7, F_39_8, F_39_9, F_39_10, F_39_11, F_39_12, F_39_13, A_2, A_4, A_6, A_7, A_8, A_9, A_10, A_11, A_13, A_15, A_16, A_17, A_18, A_19, A_20, A_22, A_23, A_24, A_25, A_26, A_27, A_29, A_30, A_31, A_32, A_33, A_34, A_36, A_37, A_38, A_40, A_41, A_42, A_43, A_44, A_45, A_46, A_47]
      refine ⟨fun q => absurd q (by decide), fun _ => ?_⟩
      have hg2 : g < 2 ^ p := by
        have := z.2
        rwa [nI_ltI (by omega) (by omega)] at this
      have hg3 : g + 1 ≤ 2 ^ p := by omega
      have hg4 : 1000 - (g + 1) < 1000 - g := by omega
      have hmb : ∀ b, mnf (rbP r h0 n p lk c lo) (fun g => cn g 9) g = some b → b < 1000 := fun b hb => by
        have := mnf_lt hb
        omega
      have hcb : ∀ b, cn b 9 < 1000 := fun b => by have := cn_le b 9; omega
      have hci := hcb g
      refine ⟨g, n, c, p, r, h0, lk, rfl, MW_36 hX0 f, hH, by omega, ?_⟩
      dsimp only [k_X5_rob_0, k_X5_rob_1, k_X5_rob_2, k_X5_rob_3, k_X5_rob_4, k_X5_rob_7, k_X5_rob_8, k_X5_rob_9, k_X5_rob_10, k_X5_rob_11, k_X5_rob_12, k_X5_rob_15, k_X5_rob_18, k_X5_rob_19, k_X5_rob_20, k_X5_rob_22, k_X5_rob_23, k_X5_rob_24, k_X5_rob_25, k_X5_rob_26, k_X5_rob_27, k_X5_rob_30, k_X5_rob_33, k_X5_rob_34, k_X5_rob_35, k_X5_rob_36, k_X5_rob_37, k_X5_rob_40, k_X5_rob_41, k_X5_rob_44, k_X5_rob_45, k_X5_rob_48, k_X5_rob_49, k_X5_rob_50, k_X5_rob_51, k_X5_rob_54, k_X5_rob_55, k_X5_rob_58, k_X5_rob_59, k_X5_rob_61, k_X5_rob_63, k_X5_rob_66, k_X5_rob_67, k_X5_rob_69, k_X5_rob_72, k_X5_rob_73, k_X5_rob_76, k_X5_rob_77, k_X5_rob_80, k_X5_rob_83, k_X5_rob_84, k_X5_rob_87, k_X5_rob_88, k_X5_rob_89, k_X5_rob_92, k_X5_rob_95, k_X5_rob_96, wp1, wp_s, cutIn, kont, Nat.reduceSub, Nat.reduceAdd, nth, o_const, o_lconst, o_ref, o_iload, o_lload, o_aload, o_istore, o_lstore, o_astore, o_iinc, o_bin, o_div, o_un, o_lbin, o_lsh, o_lcmp, o_i2l, o_l2i, o_if, o_icmp, o_goto, o_dup, o_dup2, o_pop, fav, o_getf, o_putI, o_putZ, o_putL, o_ald, o_ast, o_alen, popn, rst, o_callV, o_callT, o_callS, swx, o_sw, o_ret, o_iret, o_zret, o_cret, o_lret, o_aret, lg, lput, lput2, ls1, isL, entL, wsum, rdI1, rdI2, rdA1, rdA21, rdA22, rdL1, rdL22, rdL21, upN_at, rep, sh_0, F_0_0, F_0_1, F_0_2, F_0_3, F_0_4, F_0_5, F_0_6, F_0_7, F_0_8, sh_1, F_1_0, F_1_1, F_1_2, F_1_3, F_1_4, F_1_5, sh_3, F_3_0, F_3_1, F_3_2, F_3_3, F_3_4, F_3_5, sh_5, F_5_0, F_5_1, F_5_2, F_5_3, F_5_4, F_5_5, F_5_6, F_5_7, F_5_8, sh_12, F_12_0, F_12_1, F_12_2, F_12_3, F_12_4, F_12_5, sh_14, F_14_0, F_14_1, F_14_2, F_14_3, F_14_4, F_14_5, F_14_6, F_14_7, F_14_8, sh_21, F_21_0, F_21_1, F_21_2, F_21_3, F_21_4, F_21_5, F_21_6, F_21_7, F_21_8, sh_28, F_28_0, F_28_1, F_28_2, F_28_3, F_28_4, F_28_5, F_28_6, F_28_7, F_28_8, sh_35, F_35_0, sh_39, F_39_0, F_39_1, F_39_2, F_39_3, F_39_4, F_39_5, F_39_6, F_39_7, F_39_8, F_39_9, F_39_10, F_39_11, F_39_12, F_39_13, A_2, A_4, A_6, A_7, A_8, A_9, A_10, A_11, A_13, A_15, A_16, A_17, A_18, A_19, A_20, A_22, A_23, A_24, A_25, A_26, A_27, A_29, A_30, A_31, A_32, A_33, A_34, A_36, A_37, A_38, A_40, A_41, A_42, A_43, A_44, A_45, A_46, A_47]
      refine ⟨n, c, p, r, h0, lk, rfl, MW_36 hX0 f, ?_⟩
      dsimp only [k_X5_rob_0, k_X5_rob_1, k_X5_rob_2, k_X5_rob_3, k_X5_rob_4, k_X5_rob_7, k_X5_rob_8, k_X5_rob_9, k_X5_rob_10, k_X5_rob_11, k_X5_rob_12, k_X5_rob_15, k_X5_rob_18, k_X5_rob_19, k_X5_rob_20, k_X5_rob_22, k_X5_rob_23, k_X5_rob_24, k_X5_rob_25, k_X5_rob_26, k_X5_rob_27, k_X5_rob_30, k_X5_rob_33, k_X5_rob_34, k_X5_rob_35, k_X5_rob_36, k_X5_rob_37, k_X5_rob_40, k_X5_rob_41, k_X5_rob_44, k_X5_rob_45, k_X5_rob_48, k_X5_rob_49, k_X5_rob_50, k_X5_rob_51, k_X5_rob_54, k_X5_rob_55, k_X5_rob_58, k_X5_rob_59, k_X5_rob_61, k_X5_rob_63, k_X5_rob_66, k_X5_rob_67, k_X5_rob_69, k_X5_rob_72, k_X5_rob_73, k_X5_rob_76, k_X5_rob_77, k_X5_rob_80, k_X5_rob_83, k_X5_rob_84, k_X5_rob_87, k_X5_rob_88, k_X5_rob_89, k_X5_rob_92, k_X5_rob_95, k_X5_rob_96, wp1, wp_s, cutIn, kont, Nat.reduceSub, Nat.reduceAdd, nth, o_const, o_lconst, o_ref, o_iload, o_lload, o_aload, o_istore, o_lstore, o_astore, o_iinc, o_bin, o_div, o_un, o_lbin, o_lsh, o_lcmp, o_i2l, o_l2i, o_if, o_icmp, o_goto, o_dup, o_dup2, o_pop, fav, o_getf, o_putI, o_putZ, o_putL, o_ald, o_ast, o_alen, popn, rst, o_callV, o_callT, o_callS, swx, o_sw, o_ret, o_iret, o_zret, o_cret, o_lret, o_aret, lg, lput, lput2, ls1, isL, entL, wsum, rdI1, rdI2, rdA1, rdA21, rdA22, rdL1, rdL22, rdL21, upN_at, rep, sh_0, F_0_0, F_0_1, F_0_2, F_0_3, F_0_4, F_0_5, F_0_6, F_0_7, F_0_8, sh_1, F_1_0, F_1_1, F_1_2, F_1_3, F_1_4, F_1_5, sh_3, F_3_0, F_3_1, F_3_2, F_3_3, F_3_4, F_3_5, sh_5, F_5_0, F_5_1, F_5_2, F_5_3, F_5_4, F_5_5, F_5_6, F_5_7, F_5_8, sh_12, F_12_0, F_12_1, F_12_2, F_12_3, F_12_4, F_12_5, sh_14, F_14_0, F_14_1, F_14_2, F_14_3, F_14_4, F_14_5, F_14_6, F_14_7, F_14_8, sh_21, F_21_0, F_21_1, F_21_2, F_21_3, F_21_4, F_21_5, F_21_6, F_21_7, F_21_8, sh_28, F_28_0, F_28_1, F_28_2, F_28_3, F_28_4, F_28_5, F_28_6, F_28_7, F_28_8, sh_35, F_35_0, sh_39, F_39_0, F_39_1, F_39_2, F_39_3, F_39_4, F_39_5, F_39_6, F_39_7, F_39_8, F_39_9, F_39_10, F_39_11, F_39_12, F_39_13, A_2, A_4, A_6, A_7, A_8, A_9, A_10, A_11, A_13, A_15, A_16, A_17, A_18, A_19, A_20, A_22, A_23, A_24, A_25, A_26, A_27, A_29, A_30, A_31, A_32, A_33, A_34, A_36, A_37, A_38, A_40, A_41, A_42, A_43, A_44, A_45, A_46, A_47]
      rw [nI_or]
      refine ⟨_, n, c, p, r, h0, lk, rfl, Nat.or_lt_two_pow (mk_lt _ n) (mk_lt _ n), MW_36 hX0 f, fun f2 => ?_⟩
      have hol := opn_lt r n lk hc6 (hd h0 g p n ||| bx h0 n)
      dsimp only [k_X5_rob_0, k_X5_rob_1, k_X5_rob_2, k_X5_rob_3, k_X5_rob_4, k_X5_rob_7, k_X5_rob_8, k_X5_rob_9, k_X5_rob_10, k_X5_rob_11, k_X5_rob_12, k_X5_rob_15, k_X5_rob_18, k_X5_rob_19, k_X5_rob_20, k_X5_rob_22, k_X5_rob_23, k_X5_rob_24, k_X5_rob_25, k_X5_rob_26, k_X5_rob_27, k_X5_rob_30, k_X5_rob_33, k_X5_rob_34, k_X5_rob_35, k_X5_rob_36, k_X5_rob_37, k_X5_rob_40, k_X5_rob_41, k_X5_rob_44, k_X5_rob_45, k_X5_rob_48, k_X5_rob_49, k_X5_rob_50, k_X5_rob_51, k_X5_rob_54, k_X5_rob_55, k_X5_rob_58, k_X5_rob_59, k_X5_rob_61, k_X5_rob_63, k_X5_rob_66, k_X5_rob_67, k_X5_rob_69, k_X5_rob_72, k_X5_rob_73, k_X5_rob_76, k_X5_rob_77, k_X5_rob_80, k_X5_rob_83, k_X5_rob_84, k_X5_rob_87, k_X5_rob_88, k_X5_rob_89, k_X5_rob_92, k_X5_rob_95, k_X5_rob_96, wp1, wp_s, cutIn, kont, Nat.reduceSub, Nat.reduceAdd, nth, o_const, o_lconst, o_ref, o_iload, o_lload, o_aload, o_istore, o_lstore, o_astore, o_iinc, o_bin, o_div, o_un, o_lbin, o_lsh, o_lcmp, o_i2l, o_l2i, o_if, o_icmp, o_goto, o_dup, o_dup2, o_pop, fav, o_getf, o_putI, o_putZ, o_putL, o_ald, o_ast, o_alen, popn, rst, o_callV, o_callT, o_callS, swx, o_sw, o_ret, o_iret, o_zret, o_cret, o_lret, o_aret, lg, lput, lput2, ls1, isL, entL, wsum, rdI1, rdI2, rdA1, rdA21, rdA22, rdL1, rdL22, rdL21, upN_at, rep, sh_0, F_0_0, F_0_1, F_0_2, F_0_3, F_0_4, F_0_5, F_0_6, F_0_7, F_0_8, sh_1, F_1_0, F_1_1, F_1_2, F_1_3, F_1_4, F_1_5, sh_3, F_3_0, F_3_1, F_3_2, F_3_3, F_3_4, F_3_5, sh_5, F_5_0, F_5_1, F_5_2, F_5_3, F_5_4, F_5_5, F_5_6, F_5_7, F_5_8, sh_12, F_12_0, F_12_1, F_12_2, F_12_3, F_12_4, F_12_5, sh_14, F_14_0, F_14_1, F_14_2, F_14_3, F_14_4, F_14_5, F_14_6, F_14_7, F_14_8, sh_21, F_21_0, F_21_1, F_21_2, F_21_3, F_21_4, F_21_5, F_21_6, F_21_7, F_21_8, sh_28, F_28_0, F_28_1, F_28_2, F_28_3, F_28_4, F_28_5, F_28_6, F_28_7, F_28_8, sh_35, F_35_0, sh_39, F_39_0, F_39_1, F_39_2, F_39_3, F_39_4, F_39_5, F_39_6, F_39_7, F_39_8, F_39_9, F_39_10, F_39_11, F_39_12, F_39_13, A_2, A_4, A_6, A_7, A_8, A_9, A_10, A_11, A_13, A_15, A_16, A_17, A_18, A_19, A_20, A_22, A_23, A_24, A_25, A_26, A_27, A_29, A_30, A_31, A_32, A_33, A_34, A_36, A_37, A_38, A_40, A_41, A_42, A_43, A_44, A_45, A_46, A_47]
      rw [In_iff, In_nI (by omega) (by omega)]
      refine ⟨fun q => ⟨fun y => absurd y (by decide), fun _ => ⟨fun q2 => ?_, fun q2 => ⟨g, rfl, by omega, ?_⟩⟩⟩, fun q => ⟨fun _ => ?_, fun y => absurd rfl y⟩⟩
      · have hm := (bsI_9 hmb).mp q2
        have hs := mnf_s1 (P := rbP r h0 n p lk c lo) (w := fun g => cn g 9) (n := g) (by simp [rbP, q]) (fun b hb => by rw [hm] at hb; cases hb)
        exact cut _ _ ⟨rfl, rfl, lo, g + 1, f2, rfl, hlo, hg3, by rw [sA_sA], rfl, rfl⟩ hg4 ⟨rfl, rfl, vi_eq (by rw [hs] <;> rfl), vi_eq (by first | rfl | exact nI_1 _), trivial⟩
      · cases hm : mnf (rbP r h0 n p lk c lo) (fun g => cn g 9) g with
        | none => rw [hm] at q2; exact absurd rfl q2
        | some b =>
          have hbb := hmb b hm
          have hbc := hcb b
          dsimp only [k_X5_rob_0, k_X5_rob_1, k_X5_rob_2, k_X5_rob_3, k_X5_rob_4, k_X5_rob_7, k_X5_rob_8, k_X5_rob_9, k_X5_rob_10, k_X5_rob_11, k_X5_rob_12, k_X5_rob_15, k_X5_rob_18, k_X5_rob_19, k_X5_rob_20, k_X5_rob_22, k_X5_rob_23, k_X5_rob_24, k_X5_rob_25, k_X5_rob_26, k_X5_rob_27, k_X5_rob_30, k_X5_rob_33, k_X5_rob_34, k_X5_rob_35, k_X5_rob_36, k_X5_rob_37, k_X5_rob_40, k_X5_rob_41, k_X5_rob_44, k_X5_rob_45, k_X5_rob_48, k_X5_rob_49, k_X5_rob_50, k_X5_rob_51, k_X5_rob_54, k_X5_rob_55, k_X5_rob_58, k_X5_rob_59, k_X5_rob_61, k_X5_rob_63, k_X5_rob_66, k_X5_rob_67, k_X5_rob_69, k_X5_rob_72, k_X5_rob_73, k_X5_rob_76, k_X5_rob_77, k_X5_rob_80, k_X5_rob_83, k_X5_rob_84, k_X5_rob_87, k_X5_rob_88, k_X5_rob_89, k_X5_rob_92, k_X5_rob_95, k_X5_rob_96, wp1, wp_s, cutIn, kont, Nat.reduceSub, Nat.reduceAdd, nth, o_const, o_lconst, o_ref, o_iload, o_lload, o_aload, o_istore, o_lstore, o_astore, o_iinc, o_bin, o_div, o_un, o_lbin, o_lsh, o_lcmp, o_i2l, o_l2i, o_if, o_icmp, o_goto, o_dup, o_dup2, o_pop, fav, o_getf, o_putI, o_putZ, o_putL, o_ald, o_ast, o_alen, popn, rst, o_callV, o_callT, o_callS, swx, o_sw, o_ret, o_iret, o_zret, o_cret, o_lret, o_aret, lg, lput, lput2, ls1, isL, entL, wsum, rdI1, rdI2, rdA1, rdA21, rdA22, rdL1, rdL22, rdL21, upN_at, rep, sh_0, F_0_0, F_0_1, F_0_2, F_0_3, F_0_4, F_0_5, F_0_6, F_0_7, F_0_8, sh_1, F_1_0, F_1_1, F_1_2, F_1_3, F_1_4, F_1_5, sh_3, F_3_0, F_3_1, F_3_2, F_3_3, F_3_4, F_3_5, sh_5, F_5_0, F_5_1, F_5_2, F_5_3, F_5_4, F_5_5, F_5_6, F_5_7, F_5_8, sh_12, F_12_0, F_12_1, F_12_2, F_12_3, F_12_4, F_12_5, sh_14, F_14_0, F_14_1, F_14_2, F_14_3, F_14_4, F_14_5, F_14_6, F_14_7, F_14_8, sh_21, F_21_0, F_21_1, F_21_2, F_21_3, F_21_4, F_21_5, F_21_6, F_21_7, F_21_8, sh_28, F_28_0, F_28_1, F_28_2, F_28_3, F_28_4, F_28_5, F_28_6, F_28_7, F_28_8, sh_35, F_35_0, sh_39, F_39_0, F_39_1, F_39_2, F_39_3, F_39_4, F_39_5, F_39_6, F_39_7, F_39_8, F_39_9, F_39_10, F_39_11, F_39_12, F_39_13, A_2, A_4, A_6, A_7, A_8, A_9, A_10, A_11, A_13, A_15, A_16, A_17, A_18, A_19, A_20, A_22, A_23, A_24, A_25, A_26, A_27, A_29, A_30, A_31, A_32, A_33, A_34, A_36, A_37, A_38, A_40, A_41, A_42, A_43, A_44, A_45, A_46, A_47, bsI]
          refine ⟨b, rfl, by omega, ?_⟩
          dsimp only [k_X5_rob_0, k_X5_rob_1, k_X5_rob_2, k_X5_rob_3, k_X5_rob_4, k_X5_rob_7, k_X5_rob_8, k_X5_rob_9, k_X5_rob_10, k_X5_rob_11, k_X5_rob_12, k_X5_rob_15, k_X5_rob_18, k_X5_rob_19, k_X5_rob_20, k_X5_rob_22, k_X5_rob_23, k_X5_rob_24, k_X5_rob_25, k_X5_rob_26, k_X5_rob_27, k_X5_rob_30, k_X5_rob_33, k_X5_rob_34, k_X5_rob_35, k_X5_rob_36, k_X5_rob_37, k_X5_rob_40, k_X5_rob_41, k_X5_rob_44, k_X5_rob_45, k_X5_rob_48, k_X5_rob_49, k_X5_rob_50, k_X5_rob_51, k_X5_rob_54, k_X5_rob_55, k_X5_rob_58, k_X5_rob_59, k_X5_rob_61, k_X5_rob_63, k_X5_rob_66, k_X5_rob_67, k_X5_rob_69, k_X5_rob_72, k_X5_rob_73, k_X5_rob_76, k_X5_rob_77, k_X5_rob_80, k_X5_rob_83, k_X5_rob_84, k_X5_rob_87, k_X5_rob_88, k_X5_rob_89, k_X5_rob_92, k_X5_rob_95, k_X5_rob_96, wp1, wp_s, cutIn, kont, Nat.reduceSub, Nat.reduceAdd, nth, o_const, o_lconst, o_ref, o_iload, o_lload, o_aload, o_istore, o_lstore, o_astore, o_iinc, o_bin, o_div, o_un, o_lbin, o_lsh, o_lcmp, o_i2l, o_l2i, o_if, o_icmp, o_goto, o_dup, o_dup2, o_pop, fav, o_getf, o_putI, o_putZ, o_putL, o_ald, o_ast, o_alen, popn, rst, o_callV, o_callT, o_callS, swx, o_sw, o_ret, o_iret, o_zret, o_cret, o_lret, o_aret, lg, lput, lput2, ls1, isL, entL, wsum, rdI1, rdI2, rdA1, rdA21, rdA22, rdL1, rdL22, rdL21, upN_at, rep, sh_0, F_0_0, F_0_1, F_0_2, F_0_3, F_0_4, F_0_5, F_0_6, F_0_7, F_0_8, sh_1, F_1_0, F_1_1, F_1_2, F_1_3, F_1_4, F_1_5, sh_3, F_3_0, F_3_1, F_3_2, F_3_3, F_3_4, F_3_5, sh_5, F_5_0, F_5_1, F_5_2, F_5_3, F_5_4, F_5_5, F_5_6, F_5_7, F_5_8, sh_12, F_12_0, F_12_1, F_12_2, F_12_3, F_12_4, F_12_5, sh_14, F_14_0, F_14_1, F_14_2, F_14_3, F_14_4, F_14_5, F_14_6, F_14_7, F_14_8, sh_21, F_21_0, F_21_1, F_21_2, F_21_3, F_21_4, F_21_5, F_21_6, F_21_7, F_21_8, sh_28, F_28_0, F_28_1, F_28_2, F_28_3, F_28_4, F_28_5, F_28_6, F_28_7, F_28_8, sh_35, F_35_0, sh_39, F_39_0, F_39_1, F_39_2, F_39_3, F_39_4, F_39_5, F_39_6, F_39_7, F_39_8, F_39_9, F_39_10, F_39_11, F_39_12, F_39_13, A_2, A_4, A_6, A_7, A_8, A_9, A_10, A_11, A_13, A_15, A_16, A_17, A_18, A_19, A_20, A_22, A_23, A_24, A_25, A_26, A_27, A_29, A_30, A_31, A_32, A_33, A_34, A_36, A_37, A_38, A_40, A_41, A_42, A_43, A_44, A_45, A_46, A_47]
          simp (disch := omega) only [nI_leI, nI_ltI, nI_eq, nI_1, nI_add, one_shl, nI_or, nI_xor, nI_and, bit_0, bit_1, true_or, or_true, true_and, and_true, eq_self, not_true_eq_false, not_false_eq_true, forall_const]
          refine ⟨fun q4 => ?_, fun q4 => ?_⟩
          · have hs := mnf_s0 (P := rbP r h0 n p lk c lo) (w := fun g => cn g 9) (n := g) (fun _ => ⟨b, hm, q4⟩)
            exact cut _ _ ⟨rfl, rfl, lo, g + 1, f2, rfl, hlo, hg3, by rw [sA_sA], rfl, rfl⟩ hg4 ⟨rfl, rfl, vi_eq (by rw [hs, hm] <;> rfl), vi_eq (by first | rfl | exact nI_1 _), trivial⟩
          · have hs := mnf_s1 (P := rbP r h0 n p lk c lo) (w := fun g => cn g 9) (n := g) (by simp [rbP, q]) (fun b' hb => by rw [hm] at hb; cases hb; exact Nat.lt_of_not_le q4)
            exact cut _ _ ⟨rfl, rfl, lo, g + 1, f2, rfl, hlo, hg3, by rw [sA_sA], rfl, rfl⟩ hg4 ⟨rfl, rfl, vi_eq (by rw [hs] <;> rfl), vi_eq (by first | rfl | exact nI_1 _), trivial⟩
      · have hs := mnf_s0 (P := rbP r h0 n p lk c lo) (w := fun g => cn g 9) (n := g) (fun z => absurd (by simpa [rbP] using z) q)
        exact cut _ _ ⟨rfl, rfl, lo, g + 1, f2, rfl, hlo, hg3, by rw [sA_sA], rfl, rfl⟩ hg4 ⟨rfl, rfl, vi_eq (by rw [hs]), vi_eq (by first | rfl | exact nI_1 _), trivial⟩
    · dsimp only [k_X5_rob_0, k_X5_rob_1, k_X5_rob_2, k_X5_rob_3, k_X5_rob_4, k_X5_rob_7, k_X5_rob_8, k_X5_rob_9, k_X5_rob_10, k_X5_rob_11, k_X5_rob_12, k_X5_rob_15, k_X5_rob_18, k_X5_rob_19, k_X5_rob_20, k_X5_rob_22, k_X5_rob_23, k_X5_rob_24, k_X5_rob_25, k_X5_rob_26, k_X5_rob_27, k_X5_rob_30, k_X5_rob_33, k_X5_rob_34, k_X5_rob_35, k_X5_rob_36, k_X5_rob_37, k_X5_rob_40, k_X5_rob_41, k_X5_rob_44, k_X5_rob_45, k_X5_rob_48, k_X5_rob_49, k_X5_rob_50, k_X5_rob_51, k_X5_rob_54, k_X5_rob_55, k_X5_rob_58, k_X5_rob_59, k_X5_rob_61, k_X5_rob_63, k_X5_rob_66, k_X5_rob_67, k_X5_rob_69, k_X5_rob_72, k_X5_rob_73, k_X5_rob_76, k_X5_rob_77, k_X5_rob_80, k_X5_rob_83, k_X5_rob_84, k_X5_rob_87, k_X5_rob_88, k_X5_rob_89, k_X5_rob_92, k_X5_rob_95, k_X5_rob_96, wp1, wp_s, cutIn, kont, Nat.reduceSub, Nat.reduceAdd, nth, o_const, o_lconst, o_ref, o_iload, o_lload, o_aload, o_istore, o_lstore, o_astore, o_iinc, o_bin, o_div, o_un, o_lbin, o_lsh, o_lcmp, o_i2l, o_l2i, o_if, o_icmp, o_goto, o_dup, o_dup2, o_pop, fav, o_getf, o_putI, o_putZ, o_putL, o_ald, o_ast, o_alen, popn, rst, o_callV, o_callT, o_callS, swx, o_sw, o_ret, o_iret, o_zret, o_cret, o_lret, o_aret, lg, lput, lput2, ls1, isL, entL, wsum, rdI1, rdI2, rdA1, rdA21, rdA22, rdL1, rdL22, rdL21, upN_at, rep, sh_0, F_0_0, F_0_1, F_0_2, F_0_3, F_0_4, F_0_5, F_0_6, F_0_7, F_0_8, sh_1, F_1_0, F_1_1, F_1_2, F_1_3, F_1_4, F_1_5, sh_3, F_3_0, F_3_1, F_3_2, F_3_3, F_3_4, F_3_5, sh_5, F_5_0, F_5_1, F_5_2, F_5_3, F_5_4, F_5_5, F_5_6, F_5_7, F_5_8, sh_12, F_12_0, F_12_1, F_12_2, F_12_3, F_12_4, F_12_5, sh_14, F_14_0, F_14_1, F_14_2, F_14_3, F_14_4, F_14_5, F_14_6, F_14_7, F_14_8, sh_21, F_21_0, F_21_1, F_21_2, F_21_3, F_21_4, F_21_5, F_21_6, F_21_7, F_21_8, sh_28, F_28_0, F_28_1, F_28_2, F_28_3, F_28_4, F_28_5, F_28_6, F_28_7, F_28_8, sh_35, F_35_0, sh_39, F_39_0, F_39_1, F_39_2, F_39_3, F_39_4, F_39_5, F_39_6, F_39_7, F_39_8, F_39_9, F_39_10, F_39_11, F_39_12, F_39_13, A_2, A_4, A_6, A_7, A_8, A_9, A_10, A_11, A_13, A_15, A_16, A_17, A_18, A_19, A_20, A_22, A_23, A_24, A_25, A_26, A_27, A_29, A_30, A_31, A_32, A_33, A_34, A_36, A_37, A_38, A_40, A_41, A_42, A_43, A_44, A_45, A_46, A_47]
      refine ⟨fun _ => ?_, fun q => absurd rfl q⟩
      have e : g = 2 ^ p := by
        rcases Nat.lt_or_ge g (2 ^ p) with q | q
        · exact absurd ⟨nI_pos' (by omega), (nI_ltI (by omega) (by omega)).mpr q⟩ z
        · omega
      subst e
      exact h2 lo rfl hlo f
  · dsimp only [k_X5_rob_0, k_X5_rob_1, k_X5_rob_2, k_X5_rob_3, k_X5_rob_4, k_X5_rob_7, k_X5_rob_8, k_X5_rob_9, k_X5_rob_10, k_X5_rob_11, k_X5_rob_12, k_X5_rob_15, k_X5_rob_18, k_X5_rob_19, k_X5_rob_20, k_X5_rob_22, k_X5_rob_23, k_X5_rob_24, k_X5_rob_25, k_X5_rob_26, k_X5_rob_27, k_X5_rob_30, k_X5_rob_33, k_X5_rob_34, k_X5_rob_35, k_X5_rob_36, k_X5_rob_37, k_X5_rob_40, k_X5_rob_41, k_X5_rob_44, k_X5_rob_45, k_X5_rob_48, k_X5_rob_49, k_X5_rob_50, k_X5_rob_51, k_X5_rob_54, k_X5_rob_55, k_X5_rob_58, k_X5_rob_59, k_X5_rob_61, k_X5_rob_63, k_X5_rob_66, k_X5_rob_67, k_X5_rob_69, k_X5_rob_72, k_X5_rob_73, k_X5_rob_76, k_X5_rob_77, k_X5_rob_80, k_X5_rob_83, k_X5_rob_84, k_X5_rob_87, k_X5_rob_88, k_X5_rob_89, k_X5_rob_92, k_X5_rob_95, k_X5_rob_96, wp1, wp_s, cutIn, kont, Nat.reduceSub, Nat.reduceAdd, nth, o_const, o_lconst, o_ref, o_iload, o_lload, o_aload, o_istore, o_lstore, o_astore, o_iinc, o_bin, o_div, o_un, o_lbin, o_lsh, o_lcmp, o_i2l, o_l2i, o_if, o_icmp, o_goto, o_dup, o_dup2, o_pop, fav, o_getf, o_putI, o_putZ, o_putL, o_ald, o_ast, o_alen, popn, rst, o_callV, o_callT, o_callS, swx, o_sw, o_ret, o_iret, o_zret, o_cret, o_lret, o_aret, lg, lput, lput2, ls1, isL, entL, wsum, rdI1, rdI2, rdA1, rdA21, rdA22, rdL1, rdL22, rdL21, upN_at, rep, sh_0, F_0_0, F_0_1, F_0_2, F_0_3, F_0_4, F_0_5, F_0_6, F_0_7, F_0_8, sh_1, F_1_0, F_1_1, F_1_2, F_1_3, F_1_4, F_1_5, sh_3, F_3_0, F_3_1, F_3_2, F_3_3, F_3_4, F_3_5, sh_5, F_5_0, F_5_1, F_5_2, F_5_3, F_5_4, F_5_5, F_5_6, F_5_7, F_5_8, sh_12, F_12_0, F_12_1, F_12_2, F_12_3, F_12_4, F_12_5, sh_14, F_14_0, F_14_1, F_14_2, F_14_3, F_14_4, F_14_5, F_14_6, F_14_7, F_14_8, sh_21, F_21_0, F_21_1, F_21_2, F_21_3, F_21_4, F_21_5, F_21_6, F_21_7, F_21_8, sh_28, F_28_0, F_28_1, F_28_2, F_28_3, F_28_4, F_28_5, F_28_6, F_28_7, F_28_8, sh_35, F_35_0, sh_39, F_39_0, F_39_1, F_39_2, F_39_3, F_39_4, F_39_5, F_39_6, F_39_7, F_39_8, F_39_9, F_39_10, F_39_11, F_39_12, F_39_13, A_2, A_4, A_6, A_7, A_8, A_9, A_10, A_11, A_13, A_15, A_16, A_17, A_18, A_19, A_20, A_22, A_23, A_24, A_25, A_26, A_27, A_29, A_30, A_31, A_32, A_33, A_34, A_36, A_37, A_38, A_40, A_41, A_42, A_43, A_44, A_45, A_46, A_47]
    refine ⟨0, by omega, rfl, x, 0, _, rfl, ?_⟩
    have e : (nI (2 ^ c) - 1) = (1 : Int32) <<< (nI c &&& 31) - 1 := by rw [shl1 (by omega)]; exact pk_sub hc1
    rw [hc, ← e]
    unfold pz
    rw [up_l2 (by omega)]
    refine ⟨fun z => ?_, fun z => ?_⟩
    · obtain ⟨lo, rfl, hlo⟩ := rg (by omega) z
      dsimp only [k_X5_rob_0, k_X5_rob_1, k_X5_rob_2, k_X5_rob_3, k_X5_rob_4, k_X5_rob_7, k_X5_rob_8, k_X5_rob_9, k_X5_rob_10, k_X5_rob_11, k_X5_rob_12, k_X5_rob_15, k_X5_rob_18, k_X5_rob_19, k_X5_rob_20, k_X5_rob_22, k_X5_rob_23, k_X5_rob_24, k_X5_rob_25, k_X5_rob_26, k_X5_rob_27, k_X5_rob_30, k_X5_rob_33, k_X5_rob_34, k_X5_rob_35, k_X5_rob_36, k_X5_rob_37, k_X5_rob_40, k_X5_rob_41, k_X5_rob_44, k_X5_rob_45, k_X5_rob_48, k_X5_rob_49, k_X5_rob_50, k_X5_rob_51, k_X5_rob_54, k_X5_rob_55, k_X5_rob_58, k_X5_rob_59, k_X5_rob_61, k_X5_rob_63, k_X5_rob_66, k_X5_rob_67, k_X5_rob_69, k_X5_rob_72, k_X5_rob_73, k_X5_rob_76, k_X5_rob_77, k_X5_rob_80, k_X5_rob_83, k_X5_rob_84, k_X5_rob_87, k_X5_rob_88, k_X5_rob_89, k_X5_rob_92, k_X5_rob_95, k_X5_rob_96, wp1, wp_s, cutIn, kont, Nat.reduceSub, Nat.reduceAdd, nth, o_const, o_lconst, o_ref, o_iload, o_lload, o_aload, o_istore, o_lstore, o_astore, o_iinc, o_bin, o_div, o_un, o_lbin, o_lsh, o_lcmp, o_i2l, o_l2i, o_if, o_icmp, o_goto, o_dup, o_dup2, o_pop, fav, o_getf, o_putI, o_putZ, o_putL, o_ald, o_ast, o_alen, popn, rst, o_callV, o_callT, o_callS, swx, o_sw, o_ret, o_iret, o_zret, o_cret, o_lret, o_aret, lg, lput, lput2, ls1, isL, entL, wsum, rdI1, rdI2, rdA1, rdA21, rdA22, rdL1, rdL22, rdL21, upN_at, rep, sh_0, F_0_0, F_0_1, F_0_2, F_0_3, F_0_4, F_0_5, F_0_6, F_0_7, F_0_8, sh_1, F_1_0, F_1_1, F_1_2, F_1_3, F_1_4, F_1_5, sh_3, F_3_0, F_3_1, F_3_2, F_3_3, F_3_4, F_3_5, sh_5, F_5_0, F_5_1, F_5_2, F_5_3, F_5_4, F_5_5, F_5_6, F_5_7, F_5_8, sh_12, F_12_0, F_12_1, F_12_2, F_12_3, F_12_4, F_12_5, sh_14, F_14_0, F_14_1, F_14_2, F_14_3, F_14_4, F_14_5, F_14_6, F_14_7, F_14_8, sh_21, F_21_0, F_21_1, F_21_2, F_21_3, F_21_4, F_21_5, F_21_6, F_21_7, F_21_8, sh_28, F_28_0, F_28_1, F_28_2, F_28_3, F_28_4, F_28_5, F_28_6, F_28_7, F_28_8, sh_35, F_35_0, sh_39, F_39_0, F_39_1, F_39_2, F_39_3, F_39_4, F_39_5, F_39_6, F_39_7, F_39_8, F_39_9, F_39_10, F_39_11, F_39_12, F_39_13, A_2, A_4, A_6, A_7, A_8, A_9, A_10, A_11, A_13, A_15, A_16, A_17, A_18, A_19, A_20, A_22, A_23, A_24, A_25, A_26, A_27, A_29, A_30, A_31, A_32, A_33, A_34, A_36, A_37, A_38, A_40, A_41, A_42, A_43, A_44, A_45, A_46, A_47]
      exact ⟨fun q => absurd q (by decide), fun _ => cut _ _ ⟨rfl, rfl, lo, 0, M.2.2 36, rfl, hlo, by omega, (sA_self 36 M).symm, rfl, rfl⟩ (by omega) ⟨rfl, rfl, rfl, rfl, trivial⟩⟩
    · dsimp only [k_X5_rob_0, k_X5_rob_1, k_X5_rob_2, k_X5_rob_3, k_X5_rob_4, k_X5_rob_7, k_X5_rob_8, k_X5_rob_9, k_X5_rob_10, k_X5_rob_11, k_X5_rob_12, k_X5_rob_15, k_X5_rob_18, k_X5_rob_19, k_X5_rob_20, k_X5_rob_22, k_X5_rob_23, k_X5_rob_24, k_X5_rob_25, k_X5_rob_26, k_X5_rob_27, k_X5_rob_30, k_X5_rob_33, k_X5_rob_34, k_X5_rob_35, k_X5_rob_36, k_X5_rob_37, k_X5_rob_40, k_X5_rob_41, k_X5_rob_44, k_X5_rob_45, k_X5_rob_48, k_X5_rob_49, k_X5_rob_50, k_X5_rob_51, k_X5_rob_54, k_X5_rob_55, k_X5_rob_58, k_X5_rob_59, k_X5_rob_61, k_X5_rob_63, k_X5_rob_66, k_X5_rob_67, k_X5_rob_69, k_X5_rob_72, k_X5_rob_73, k_X5_rob_76, k_X5_rob_77, k_X5_rob_80, k_X5_rob_83, k_X5_rob_84, k_X5_rob_87, k_X5_rob_88, k_X5_rob_89, k_X5_rob_92, k_X5_rob_95, k_X5_rob_96, wp1, wp_s, cutIn, kont, Nat.reduceSub, Nat.reduceAdd, nth, o_const, o_lconst, o_ref, o_iload, o_lload, o_aload, o_istore, o_lstore, o_astore, o_iinc, o_bin, o_div, o_un, o_lbin, o_lsh, o_lcmp, o_i2l, o_l2i, o_if, o_icmp, o_goto, o_dup, o_dup2, o_pop, fav, o_getf, o_putI, o_putZ, o_putL, o_ald, o_ast, o_alen, popn, rst, o_callV, o_callT, o_callS, swx, o_sw, o_ret, o_iret, o_zret, o_cret, o_lret, o_aret, lg, lput, lput2, ls1, isL, entL, wsum, rdI1, rdI2, rdA1, rdA21, rdA22, rdL1, rdL22, rdL21, upN_at, rep, sh_0, F_0_0, F_0_1, F_0_2, F_0_3, F_0_4, F_0_5, F_0_6, F_0_7, F_0_8, sh_1, F_1_0, F_1_1, F_1_2, F_1_3, F_1_4, F_1_5, sh_3, F_3_0, F_3_1, F_3_2, F_3_3, F_3_4, F_3_5, sh_5, F_5_0, F_5_1, F_5_2, F_5_3, F_5_4, F_5_5, F_5_6, F_5_7, F_5_8, sh_12, F_12_0, F_12_1, F_12_2, F_12_3, F_12_4, F_12_5, sh_14, F_14_0, F_14_1, F_14_2, F_14_3, F_14_4, F_14_5, F_14_6, F_14_7, F_14_8, sh_21, F_21_0, F_21_1, F_21_2, F_21_3, F_21_4, F_21_5, F_21_6, F_21_7, F_21_8, sh_28, F_28_0, F_28_1, F_28_2, F_28_3, F_28_4, F_28_5, F_28_6, F_28_7, F_28_8, sh_35, F_35_0, sh_39, F_39_0, F_39_1, F_39_2, F_39_3, F_39_4, F_39_5, F_39_6, F_39_7, F_39_8, F_39_9, F_39_10, F_39_11, F_39_12, F_39_13, A_2, A_4, A_6, A_7, A_8, A_9, A_10, A_11, A_13, A_15, A_16, A_17, A_18, A_19, A_20, A_22, A_23, A_24, A_25, A_26, A_27, A_29, A_30, A_31, A_32, A_33, A_34, A_36, A_37, A_38, A_40, A_41, A_42, A_43, A_44, A_45, A_46, A_47]
      exact ⟨fun _ => h1 z, fun q => absurd rfl q⟩
theorem c_X5_opens : Ctr yX5_opens cX5_opens 2 (some .int) ({ frames := 3, cells := 0, slots := 0, locals := 66 } : Room) S_X5_opens := ctr_of (T := T_X5_opens) (by decide +kernel) (fun post C hr => t_X5_opens post C hr) v_X5_opens
theorem c_X5_shut : Ctr yX5_shut cX5_shut 2 (some .int) ({ frames := 3, cells := 0, slots := 0, locals := 66 } : Room) S_X5_shut := ctr_of (T := T_X5_shut) (by decide +kernel) (fun post C hr => t_X5_shut post C hr) v_X5_shut
theorem c_X5_apart : Ctr yX5_apart cX5_apart 3 (some .int) ({ frames := 2, cells := 0, slots := 0, locals := 45 } : Room) S_X5_apart := ctr_of (T := T_X5_apart) (by decide +kernel) (fun post C hr => t_X5_apart post C hr) v_X5_apart
theorem c_X5_alone : Ctr yX5_alone cX5_alone 3 (some .int) ({ frames := 2, cells := 0, slots := 0, locals := 45 } : Room) S_X5_alone := ctr_of (T := T_X5_alone) (by decide +kernel) (fun post C hr => t_X5_alone post C hr) v_X5_alone
theorem c_X5_rob : Ctr yX5_rob cX5_rob 5 (some .int) ({ frames := 3, cells := 0, slots := 0, locals := 66 } : Room) S_X5_rob := ctr_of (T := T_X5_rob) (by decide +kernel) (fun post C hr => t_X5_rob post C hr) v_X5_rob
