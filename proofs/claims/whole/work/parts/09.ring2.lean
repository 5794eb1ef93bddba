/-! Rings: changes remembered, taken back, copied. -/
theorem cw_RX1_44 : ∀ w ∈ ([.methodLink RX1 44 yX1_copyChange, .instanceMethod yX1_copyChange, .selects yX1_copyChange.cls yX1_copyChange yX1_copyChange, .initialized yX1_copyChange.cls, .code yX1_copyChange cX1_copyChange 4 none] : List Cond), w ∈ tb := tb_all [373, 375, 12, 57, 376] (by decide +kernel) (by decide +kernel)
theorem dX1_forgetOldest_0 : decode cX1_forgetOldest 0 = .ok (.iconst 1, 1) := by decide +kernel
theorem dX1_forgetOldest_1 : decode cX1_forgetOldest 1 = .ok (.istore_n 1, 1) := by decide +kernel
theorem dX1_forgetOldest_2 : decode cX1_forgetOldest 2 = .ok (.iload_n 1, 1) := by decide +kernel
theorem dX1_forgetOldest_3 : decode cX1_forgetOldest 3 = .ok (.bipush 10, 2) := by decide +kernel
theorem dX1_forgetOldest_5 : decode cX1_forgetOldest 5 = .ok (.if_icmp .ge 18, 3) := by decide +kernel
theorem dX1_forgetOldest_8 : decode cX1_forgetOldest 8 = .ok (.aload_n 0, 1) := by decide +kernel
theorem dX1_forgetOldest_9 : decode cX1_forgetOldest 9 = .ok (.iload_n 1, 1) := by decide +kernel
theorem dX1_forgetOldest_10 : decode cX1_forgetOldest 10 = .ok (.iconst 1, 1) := by decide +kernel
theorem dX1_forgetOldest_11 : decode cX1_forgetOldest 11 = .ok (.isub, 1) := by decide +kernel
theorem dX1_forgetOldest_12 : decode cX1_forgetOldest 12 = .ok (.aload_n 0, 1) := by decide +kernel
theorem dX1_forgetOldest_13 : decode cX1_forgetOldest 13 = .ok (.iload_n 1, 1) := by decide +kernel
theorem dX1_forgetOldest_14 : decode cX1_forgetOldest 14 = .ok (.invokevirtual 44, 3) := by decide +kernel
theorem dX1_forgetOldest_17 : decode cX1_forgetOldest 17 = .ok (.iinc 1 1, 3) := by decide +kernel
theorem dX1_forgetOldest_20 : decode cX1_forgetOldest 20 = .ok (.goto (-18), 3) := by decide +kernel
theorem dX1_forgetOldest_23 : decode cX1_forgetOldest 23 = .ok (.aload_n 0, 1) := by decide +kernel
theorem dX1_forgetOldest_24 : decode cX1_forgetOldest 24 = .ok (.bipush 9, 2) := by decide +kernel
theorem dX1_forgetOldest_26 : decode cX1_forgetOldest 26 = .ok (.putfield 34, 3) := by decide +kernel
theorem dX1_forgetOldest_29 : decode cX1_forgetOldest 29 = .ok (.return_, 1) := by decide +kernel
def T_X1_forgetOldest (post : PO) : List (Nat × OP) := [(0, o_const 1 1), (1, o_istore 1 2), (2, o_iload 1 3), (3, o_const 10 5), (5, o_icmp (fun x y => y ≤ x) 23 8), (8, o_aload 0 9), (9, o_iload 1 10), (10, o_const 1 11), (11, o_bin (fun x y => x - y) 12), (12, o_aload 0 13), (13, o_iload 1 14), (14, o_callV 1 S_X1_copyChange 3 17), (17, o_iinc 1 1 20), (20, o_goto 2), (23, o_aload 0 24), (24, o_const 9 26), (26, o_putI 1 3 29), (29, o_ret post)]
theorem k_X1_forgetOldest_0 (post : PO) : lk (T_X1_forgetOldest post) 0 = o_const 1 1 := rfl
theorem k_X1_forgetOldest_1 (post : PO) : lk (T_X1_forgetOldest post) 1 = o_istore 1 2 := rfl
theorem k_X1_forgetOldest_2 (post : PO) : lk (T_X1_forgetOldest post) 2 = o_iload 1 3 := rfl
theorem k_X1_forgetOldest_3 (post : PO) : lk (T_X1_forgetOldest post) 3 = o_const 10 5 := rfl
theorem k_X1_forgetOldest_5 (post : PO) : lk (T_X1_forgetOldest post) 5 = o_icmp (fun x y => y ≤ x) 23 8 := rfl
theorem k_X1_forgetOldest_8 (post : PO) : lk (T_X1_forgetOldest post) 8 = o_aload 0 9 := rfl
theorem k_X1_forgetOldest_9 (post : PO) : lk (T_X1_forgetOldest post) 9 = o_iload 1 10 := rfl
theorem k_X1_forgetOldest_10 (post : PO) : lk (T_X1_forgetOldest post) 10 = o_const 1 11 := rfl
theorem k_X1_forgetOldest_11 (post : PO) : lk (T_X1_forgetOldest post) 11 = o_bin (fun x y => x - y) 12 := rfl
theorem k_X1_forgetOldest_12 (post : PO) : lk (T_X1_forgetOldest post) 12 = o_aload 0 13 := rfl
theorem k_X1_forgetOldest_13 (post : PO) : lk (T_X1_forgetOldest post) 13 = o_iload 1 14 := rfl
theorem k_X1_forgetOldest_14 (post : PO) : lk (T_X1_forgetOldest post) 14 = o_callV 1 S_X1_copyChange 3 17 := rfl
theorem k_X1_forgetOldest_17 (post : PO) : lk (T_X1_forgetOldest post) 17 = o_iinc 1 1 20 := rfl
theorem k_X1_forgetOldest_20 (post : PO) : lk (T_X1_forgetOldest post) 20 = o_goto 2 := rfl
theorem k_X1_forgetOldest_23 (post : PO) : lk (T_X1_forgetOldest post) 23 = o_aload 0 24 := rfl
theorem k_X1_forgetOldest_24 (post : PO) : lk (T_X1_forgetOldest post) 24 = o_const 9 26 := rfl
theorem k_X1_forgetOldest_26 (post : PO) : lk (T_X1_forgetOldest post) 26 = o_putI 1 3 29 := rfl
theorem k_X1_forgetOldest_29 (post : PO) : lk (T_X1_forgetOldest post) 29 = o_ret post := rfl
set_option maxRecDepth 100000 in
theorem t_X1_forgetOldest {p : Program} {l : Launch} {e : Env} {s : State} {m : MethodId} {args : Array Value} {below : List Frame} {meth : Method} {c : Code} {D : va_G} {dA : Nat → ClassId} {ad : Nat → Nat} (post : PO) (C : CX p s m args meth c cX1_forgetOldest 2 yX1_forgetOldest.cls D dA ad (AA ad s.heap.size)) (hr : meth.sig.returnType = none) : SndL (WW p l e ({ frames := 1, cells := 0, slots := 0, locals := 23 } : Room) s m args below meth c 0 0 (MQ below (CQ D dA ad post (AA ad s.heap.size)) args s 0 0 (AA ad s.heap.size)) 2 D dA ad (AA ad s.heap.size)) (T_X1_forgetOldest post) := by
  refine snd_c (s_iconst C dX1_forgetOldest_0 rfl) ?_
  refine snd_c (s_istore_n C rfl (by decide) dX1_forgetOldest_1) ?_
  refine snd_c (s_iload_n C rfl dX1_forgetOldest_2) ?_
  refine snd_c (s_bipush C dX1_forgetOldest_3 rfl) ?_
  refine snd_c (s_icmp_ge C dX1_forgetOldest_5 (by decide)) ?_
  refine snd_c (s_aload_n C rfl dX1_forgetOldest_8) ?_
  refine snd_c (s_iload_n C rfl dX1_forgetOldest_9) ?_
  refine snd_c (s_iconst C dX1_forgetOldest_10 rfl) ?_
  refine snd_c (s_isub C dX1_forgetOldest_11) ?_
  refine snd_c (s_aload_n C rfl dX1_forgetOldest_12) ?_
  refine snd_c (s_iload_n C rfl dX1_forgetOldest_13) ?_
  refine snd_c (s_callV C (ci := 1) c_X1_copyChange rfl cw_RX1_44 ⟨rfl, rfl⟩ ⟨by decide +kernel, by decide +kernel, by decide +kernel⟩ ⟨by decide, by decide⟩ ⟨Nat.zero_le _, Nat.zero_le _⟩ dX1_forgetOldest_14) ?_
  refine snd_c (s_iinc C (by decide) rfl dX1_forgetOldest_17) ?_
  refine snd_c (s_goto C dX1_forgetOldest_20 (by decide)) ?_
  refine snd_c (s_aload_n C rfl dX1_forgetOldest_23) ?_
  refine snd_c (s_bipush C dX1_forgetOldest_24 rfl) ?_
  refine snd_c (s_putI C (ci := 1) (j := 3) (T := TX1) tyX1 tyX1_ok nmX1 rfl inX1 (by decide) rfl rfl fl_RX1_34 dX1_forgetOldest_26) ?_
  refine snd_c (s_ret C hr dX1_forgetOldest_29) ?_
  exact trivial
set_option maxRecDepth 100000 in
theorem v_X1_forgetOldest : ∀ as M post, S_X1_forgetOldest as M post → wsum as ≤ 2 ∧ RUN (T_X1_forgetOldest post) 0 (entL 2 as) [] M := by
  rintro as M post ⟨rfl, h⟩
  refine ⟨by show 1 ≤ 2; omega, run_of [2] (fun μ pc lv st M' => pc = 2 ∧ st = [] ∧ ∃ i, i ≤ 9 ∧ M' = o4 4 (shf (M.2.2 4) i) (shf (M.2.2 5) i) (shf (M.2.2 6) i) (shf (M.2.2 7) i) M ∧ μ = 9 - i ∧ lv = [some (VR 5), some (VI (nI (i + 1)))]) 40 10 ?_ ?_⟩
  · rintro μ pc lv st M' ⟨rfl, rfl, i, hi, rfl, rfl, rfl⟩
    dsimp only [k_X1_forgetOldest_0, k_X1_forgetOldest_1, k_X1_forgetOldest_2, k_X1_forgetOldest_3, k_X1_forgetOldest_5, k_X1_forgetOldest_8, k_X1_forgetOldest_9, k_X1_forgetOldest_10, k_X1_forgetOldest_11, k_X1_forgetOldest_12, k_X1_forgetOldest_13, k_X1_forgetOldest_14, k_X1_forgetOldest_17, k_X1_forgetOldest_20, k_X1_forgetOldest_23, k_X1_forgetOldest_24, k_X1_forgetOldest_26, k_X1_forgetOldest_29, wp1, wp_s, cutIn, kont, Nat.reduceSub, Nat.reduceAdd, nth, o_const, o_lconst, o_ref, o_iload, o_lload, o_aload, o_istore, o_lstore, o_astore, o_iinc, o_bin, o_div, o_un, o_lbin, o_lsh, o_lcmp, o_i2l, o_l2i, o_if, o_icmp, o_goto, o_dup, o_dup2, o_pop, fav, o_getf, o_putI, o_putZ, o_putL, o_ald, o_ast, o_alen, popn, rst, o_callV, o_callT, o_callS, swx, o_sw, o_ret, o_iret, o_zret, o_cret, o_lret, o_aret, lg, lput, lput2, ls1, isL, entL, wsum, rdI1, rdI2, rdA1, rdA21, rdA22, rdL1, rdL22, rdL21, upN_at, rep, sh_0, F_0_0, F_0_1, F_0_2, F_0_3, F_0_4, F_0_5, F_0_6, F_0_7, F_0_8, sh_1, F_1_0, F_1_1, F_1_2, F_1_3, F_1_4, F_1_5, sh_3, F_3_0, F_3_1, F_3_2, F_3_3, F_3_4, F_3_5, sh_5, F_5_0, F_5_1, F_5_2, F_5_3, F_5_4, F_5_5, F_5_6, F_5_7, F_5_8, sh_12, F_12_0, F_12_1, F_12_2, F_12_3, F_12_4, F_12_5, sh_14, F_14_0, F_14_1, F_14_2, F_14_3, F_14_4, F_14_5, F_14_6, F_14_7, F_14_8, sh_21, F_21_0, F_21_1, F_21_2, F_21_3, F_21_4, F_21_5, F_21_6, F_21_7, F_21_8, sh_28, F_28_0, F_28_1, F_28_2, F_28_3, F_28_4, F_28_5, F_28_6, F_28_7, F_28_8, sh_35, F_35_0, sh_39, F_39_0, F_39_1, F_39_2, F_39_3, F_39_4, F_39_5, F_39_6, F_39_7, F_39_8, F_39_9, F_39_10, F_39_11, F_39_12, F_39_13, A_2, A_4, A_6, A_7, A_8, A_9, A_10, A_11, A_13, A_15, A_16, A_17, A_18, A_19, A_20, A_22, A_23, A_24, A_25, A_26, A_27, A_29, A_30, A_31, A_32, A_33, A_34, A_36, A_37, A_38, A_40, A_41, A_42, A_43, A_44, A_45, A_46, A_47]
    simp only [show nI (i + 1) - 1 = nI i from nI_pred i]
    rw [show (10 : Int32) = nI 10 from rfl]
    simp (disch := omega) only [nI_leI, nI_ltI, nI_eq, nI_1, nI_add, one_shl, nI_or, nI_xor, nI_and, bit_0, bit_1, true_or, or_true, true_and, and_true, eq_self, not_true_eq_false, not_false_eq_true, forall_const]
    refine ⟨fun h1 => ?_, fun h1 => ⟨5, 5, 4, 4, i, i + 1, rfl, by omega, by omega, Or.inl ⟨rfl, rfl⟩, Or.inl ⟨rfl, rfl⟩, ?_⟩⟩
    · rw [show i = 9 by omega]; exact h
    · dsimp only [k_X1_forgetOldest_0, k_X1_forgetOldest_1, k_X1_forgetOldest_2, k_X1_forgetOldest_3, k_X1_forgetOldest_5, k_X1_forgetOldest_8, k_X1_forgetOldest_9, k_X1_forgetOldest_10, k_X1_forgetOldest_11, k_X1_forgetOldest_12, k_X1_forgetOldest_13, k_X1_forgetOldest_14, k_X1_forgetOldest_17, k_X1_forgetOldest_20, k_X1_forgetOldest_23, k_X1_forgetOldest_24, k_X1_forgetOldest_26, k_X1_forgetOldest_29, wp1, wp_s, cutIn, kont, Nat.reduceSub, Nat.reduceAdd, nth, o_const, o_lconst, o_ref, o_iload, o_lload, o_aload, o_istore, o_lstore, o_astore, o_iinc, o_bin, o_div, o_un, o_lbin, o_lsh, o_lcmp, o_i2l, o_l2i, o_if, o_icmp, o_goto, o_dup, o_dup2, o_pop, fav, o_getf, o_putI, o_putZ, o_putL, o_ald, o_ast, o_alen, popn, rst, o_callV, o_callT, o_callS, swx, o_sw, o_ret, o_iret, o_zret, o_cret, o_lret, o_aret, lg, lput, lput2, ls1, isL, entL, wsum, rdI1, rdI2, rdA1, rdA21, rdA22, rdL1, rdL22, rdL21, upN_at, rep, sh_0, F_0_0, F_0_1, F_0_2, F_0_3, F_0_4, F_0_5, F_0_6, F_0_7, F_0_8, sh_1, F_1_0, F_1_1, F_1_2, F_1_3, F_1_4, F_1_5, sh_3, F_3_0, F_3_1, F_3_2, F_3_3, F_3_4, F_3_5, sh_5, F_5_0, F_5_1, F_5_2, F_5_3, F_5_4, F_5_5, F_5_6, F_5_7, F_5_8, sh_12, F_12_0, F_12_1, F_12_2, F_12_3, F_12_4, F_12_5, sh_14, F_14_0, F_14_1, F_14_2, F_14_3, F_14_4, F_14_5, F_14_6, F_14_7, F_14_8, sh_21, F_21_0, F_21_1, F_21_2, F_21_3, F_21_4, F_21_5, F_21_6, F_21_7, F_21_8, sh_28, F_28_0, F_28_1, F_28_2, F_28_3, F_28_4, F_28_5, F_28_6, F_28_7, F_28_8, sh_35, F_35_0, sh_39, F_39_0, F_39_1, F_39_2, F_39_3, F_39_4, F_39_5, F_39_6, F_39_7, F_39_8, F_39_9, F_39_10, F_39_11, F_39_12, F_39_13, A_2, A_4, A_6, A_7, A_8, A_9, A_10, A_11, A_13, A_15, A_16, A_17, A_18, A_19, A_20, A_22, A_23, A_24, A_25, A_26, A_27, A_29, A_30, A_31, A_32, A_33, A_34, A_36, A_37, A_38, A_40, A_41, A_42, A_43, A_44, A_45, A_46, A_47]
      refine cut _ _ ⟨rfl, rfl, i + 1, by omega, ?_, rfl, rfl⟩ (by omega) ⟨rfl, vi_eq (nI_1 _), trivial⟩
      unfold o4
      dsimp only [rdA1, rdA22, upN_at, Nat.reduceAdd]
      rw [shf_s, shf_s, shf_s, shf_s]
      simp only [sA_sA, sA_cm, sI_sA, sI_sI, sI_cm, sL_sA, sL_sI, sL_sL, sL_cm, Nat.reduceLT]
  · dsimp only [k_X1_forgetOldest_0, k_X1_forgetOldest_1, k_X1_forgetOldest_2, k_X1_forgetOldest_3, k_X1_forgetOldest_5, k_X1_forgetOldest_8, k_X1_forgetOldest_9, k_X1_forgetOldest_10, k_X1_forgetOldest_11, k_X1_forgetOldest_12, k_X1_forgetOldest_13, k_X1_forgetOldest_14, k_X1_forgetOldest_17, k_X1_forgetOldest_20, k_X1_forgetOldest_23, k_X1_forgetOldest_24, k_X1_forgetOldest_26, k_X1_forgetOldest_29, wp1, wp_s, cutIn, kont, Nat.reduceSub, Nat.reduceAdd, nth, o_const, o_lconst, o_ref, o_iload, o_lload, o_aload, o_istore, o_lstore, o_astore, o_iinc, o_bin, o_div, o_un, o_lbin, o_lsh, o_lcmp, o_i2l, o_l2i, o_if, o_icmp, o_goto, o_dup, o_dup2, o_pop, fav, o_getf, o_putI, o_putZ, o_putL, o_ald, o_ast, o_alen, popn, rst, o_callV, o_callT, o_callS, swx, o_sw, o_ret, o_iret, o_zret, o_cret, o_lret, o_aret, lg, lput, lput2, ls1, isL, entL, wsum, rdI1, rdI2, rdA1, rdA21, rdA22, rdL1, rdL22, rdL21, upN_at, rep, sh_0, F_0_0, F_0_1, F_0_2, F_0_3, F_0_4, F_0_5, F_0_6, F_0_7, F_0_8, sh_1, F_1_0, F_1_1, F_1_2, F_1_3, F_1_4, F_1_5, sh_3, F_3_0, F_3_1, F_3_2, F_3_3, F_3_4, F_3_5, sh_5, F_5_0, F_5_1, F_5_2, F_5_3, F_5_4, F_5_5, F_5_6, F_5_7, F_5_8, sh_12, F_12_0, F_12_1, F_12_2, F_12_3, F_12_4, F_12_5, sh_14, F_14_0, F_14_1, F_14_2, F_14_3, F_14_4, F_14_5, F_14_6, F_14_7, F_14_8, sh_21, F_21_0, F_21_1, F_21_2, F_21_3, F_21_4, F_21_5, F_21_6, F_21_7, F_21_8, sh_28, F_28_0, F_28_1, F_28_2, F_28_3, F_28_4, F_28_5, F_28_6, F_28_7, F_28_8, sh_35, F_35_0, sh_39, F_39_0, F_39_1, F_39_2, F_39_3, F_39_4, F_39_5, F_39_6, F_39_7, F_39_8, F_39_9, F_39_10, F_39_11, F_39_12, F_39_13, A_2, A_4, A_6, A_7, A_8, A_9, A_10, A_11, A_13, A_15, A_16, A_17, A_18, A_19, A_20, A_22, A_23, A_24, A_25, A_26, A_27, A_29, A_30, A_31, A_32, A_33, A_34, A_36, A_37, A_38, A_40, A_41, A_42, A_43, A_44, A_45, A_46, A_47]
    refine cut _ _ ⟨rfl, rfl, 0, by omega, ?_, rfl, rfl⟩ (by omega) ⟨rfl, rfl, trivial⟩
    rw [shf_0, shf_0, shf_0, shf_0]
    unfold o4
    simp only [Nat.reduceAdd]
    rw [sA_self, sA_self, sA_self, sA_self]
theorem c_X1_forgetOldest : Ctr yX1_forgetOldest cX1_forgetOldest 2 none ({ frames := 1, cells := 0, slots := 0, locals := 23 } : Room) S_X1_forgetOldest := ctr_of (T := T_X1_forgetOldest) (by decide +kernel) (fun post C hr => t_X1_forgetOldest post C hr) v_X1_forgetOldest
theorem cw_RX1_41 : ∀ w ∈ ([.methodLink RX1 41 yX1_forgetOldest, .instanceMethod yX1_forgetOldest, .selects yX1_forgetOldest.cls yX1_forgetOldest yX1_forgetOldest, .initialized yX1_forgetOldest.cls, .code yX1_forgetOldest cX1_forgetOldest 2 none] : List Cond), w ∈ tb := tb_all [423, 425, 13, 57, 426] (by decide +kernel) (by decide +kernel)
theorem dX1_remember_0 : decode cX1_remember 0 = .ok (.iload_n 1, 1) := by decide +kernel
theorem dX1_remember_1 : decode cX1_remember 1 = .ok (.ifCond .lt 9, 3) := by decide +kernel
theorem dX1_remember_4 : decode cX1_remember 4 = .ok (.iload_n 1, 1) := by decide +kernel
theorem dX1_remember_5 : decode cX1_remember 5 = .ok (.bipush 8, 2) := by decide +kernel
theorem dX1_remember_7 : decode cX1_remember 7 = .ok (.if_icmp .lt 4, 3) := by decide +kernel
theorem dX1_remember_10 : decode cX1_remember 10 = .ok (.return_, 1) := by decide +kernel
theorem dX1_remember_11 : decode cX1_remember 11 = .ok (.aload_n 0, 1) := by decide +kernel
theorem dX1_remember_12 : decode cX1_remember 12 = .ok (.getfield 34, 3) := by decide +kernel
theorem dX1_remember_15 : decode cX1_remember 15 = .ok (.bipush 10, 2) := by decide +kernel
theorem dX1_remember_17 : decode cX1_remember 17 = .ok (.if_icmp .lt 7, 3) := by decide +kernel
theorem dX1_remember_20 : decode cX1_remember 20 = .ok (.aload_n 0, 1) := by decide +kernel
theorem dX1_remember_21 : decode cX1_remember 21 = .ok (.invokevirtual 41, 3) := by decide +kernel
theorem dX1_remember_24 : decode cX1_remember 24 = .ok (.aload_n 0, 1) := by decide +kernel
theorem dX1_remember_25 : decode cX1_remember 25 = .ok (.getfield 18, 3) := by decide +kernel
theorem dX1_remember_28 : decode cX1_remember 28 = .ok (.aload_n 0, 1) := by decide +kernel
theorem dX1_remember_29 : decode cX1_remember 29 = .ok (.getfield 34, 3) := by decide +kernel
theorem dX1_remember_32 : decode cX1_remember 32 = .ok (.aload_n 0, 1) := by decide +kernel
theorem dX1_remember_33 : decode cX1_remember 33 = .ok (.getfield 30, 3) := by decide +kernel
theorem dX1_remember_36 : decode cX1_remember 36 = .ok (.iastore, 1) := by decide +kernel
theorem dX1_remember_37 : decode cX1_remember 37 = .ok (.aload_n 0, 1) := by decide +kernel
theorem dX1_remember_38 : decode cX1_remember 38 = .ok (.getfield 21, 3) := by decide +kernel
theorem dX1_remember_41 : decode cX1_remember 41 = .ok (.aload_n 0, 1) := by decide +kernel
theorem dX1_remember_42 : decode cX1_remember 42 = .ok (.getfield 34, 3) := by decide +kernel
theorem dX1_remember_45 : decode cX1_remember 45 = .ok (.iload_n 1, 1) := by decide +kernel
theorem dX1_remember_46 : decode cX1_remember 46 = .ok (.iastore, 1) := by decide +kernel
theorem dX1_remember_47 : decode cX1_remember 47 = .ok (.aload_n 0, 1) := by decide +kernel
theorem dX1_remember_48 : decode cX1_remember 48 = .ok (.getfield 24, 3) := by decide +kernel
theorem dX1_remember_51 : decode cX1_remember 51 = .ok (.aload_n 0, 1) := by decide +kernel
theorem dX1_remember_52 : decode cX1_remember 52 = .ok (.getfield 34, 3) := by decide +kernel
theorem dX1_remember_55 : decode cX1_remember 55 = .ok (.aload_n 0, 1) := by decide +kernel
theorem dX1_remember_56 : decode cX1_remember 56 = .ok (.getfield 9, 3) := by decide +kernel
theorem dX1_remember_59 : decode cX1_remember 59 = .ok (.iload_n 1, 1) := by decide +kernel
theorem dX1_remember_60 : decode cX1_remember 60 = .ok (.iaload, 1) := by decide +kernel
theorem dX1_remember_61 : decode cX1_remember 61 = .ok (.iastore, 1) := by decide +kernel
theorem dX1_remember_62 : decode cX1_remember 62 = .ok (.aload_n 0, 1) := by decide +kernel
theorem dX1_remember_63 : decode cX1_remember 63 = .ok (.getfield 27, 3) := by decide +kernel
theorem dX1_remember_66 : decode cX1_remember 66 = .ok (.aload_n 0, 1) := by decide +kernel
theorem dX1_remember_67 : decode cX1_remember 67 = .ok (.getfield 34, 3) := by decide +kernel
theorem dX1_remember_70 : decode cX1_remember 70 = .ok (.aload_n 0, 1) := by decide +kernel
theorem dX1_remember_71 : decode cX1_remember 71 = .ok (.getfield 15, 3) := by decide +kernel
theorem dX1_remember_74 : decode cX1_remember 74 = .ok (.iload_n 1, 1) := by decide +kernel
theorem dX1_remember_75 : decode cX1_remember 75 = .ok (.iaload, 1) := by decide +kernel
theorem dX1_remember_76 : decode cX1_remember 76 = .ok (.iastore, 1) := by decide +kernel
theorem dX1_remember_77 : decode cX1_remember 77 = .ok (.aload_n 0, 1) := by decide +kernel
theorem dX1_remember_78 : decode cX1_remember 78 = .ok (.dup, 1) := by decide +kernel
theorem dX1_remember_79 : decode cX1_remember 79 = .ok (.getfield 34, 3) := by decide +kernel
theorem dX1_remember_82 : decode cX1_remember 82 = .ok (.iconst 1, 1) := by decide +kernel
theorem dX1_remember_83 : decode cX1_remember 83 = .ok (.iadd, 1) := by decide +kernel
theorem dX1_remember_84 : decode cX1_remember 84 = .ok (.putfield 34, 3) := by decide +kernel
theorem dX1_remember_87 : decode cX1_remember 87 = .ok (.return_, 1) := by decide +kernel
def T_X1_remember (post : PO) : List (Nat × OP) := [(0, o_iload 1 1), (1, o_if (fun x => x < 0) 10 4), (4, o_iload 1 5), (5, o_const 8 7), (7, o_icmp (fun x y => x < y) 11 10), (10, o_ret post), (11, o_aload 0 12), (12, o_getf 1 3 15), (15, o_const 10 17), (17, o_icmp (fun x y => x < y) 24 20), (20, o_aload 0 21), (21, o_callV 1 S_X1_forgetOldest 0 24), (24, o_aload 0 25), (25, o_getf 1 4 28), (28, o_aload 0 29), (29, o_getf 1 3 32), (32, o_aload 0 33), (33, o_getf 1 2 36), (36, o_ast 0 (fun x => x) 37), (37, o_aload 0 38), (38, o_getf 1 5 41), (41, o_aload 0 42), (42, o_getf 1 3 45), (45, o_iload 1 46), (46, o_ast 0 (fun x => x) 47), (47, o_aload 0 48), (48, o_getf 1 6 51), (51, o_aload 0 52), (52, o_getf 1 3 55), (55, o_aload 0 56), (56, o_getf 1 0 59), (59, o_iload 1 60), (60, o_ald 0 61), (61, o_ast 0 (fun x => x) 62), (62, o_aload 0 63), (63, o_getf 1 7 66), (66, o_aload 0 67), (67, o_getf 1 3 70), (70, o_aload 0 71), (71, o_getf 1 1 74), (74, o_iload 1 75), (75, o_ald 0 76), (76, o_ast 0 (fun x => x) 77), (77, o_aload 0 78), (78, o_dup 79), (79, o_getf 1 3 82), (82, o_const 1 83), (83, o_bin (fun x y => x + y) 84), (84, o_putI 1 3 87), (87, o_ret post)]
theorem k_X1_remember_0 (post : PO) : lk (T_X1_remember post) 0 = o_iload 1 1 := rfl
theorem k_X1_remember_1 (post : PO) : lk (T_X1_remember post) 1 = o_if (fun x => x < 0) 10 4 := rfl
theorem k_X1_remember_4 (post : PO) : lk (T_X1_remember post) 4 = o_iload 1 5 := rfl
theorem k_X1_remember_5 (post : PO) : lk (T_X1_remember post) 5 = o_const 8 7 := rfl
theorem k_X1_remember_7 (post : PO) : lk (T_X1_remember post) 7 = o_icmp (fun x y => x < y) 11 10 := rfl
theorem k_X1_remember_10 (post : PO) : lk (T_X1_remember post) 10 = o_ret post := rfl
theorem k_X1_remember_11 (post : PO) : lk (T_X1_remember post) 11 = o_aload 0 12 := rfl
theorem k_X1_remember_12 (post : PO) : lk (T_X1_remember post) 12 = o_getf 1 3 15 := rfl
theorem k_X1_remember_15 (post : PO) : lk (T_X1_remember post) 15 = o_const 10 17 := rfl
theorem k_X1_remember_17 (post : PO) : lk (T_X1_remember post) 17 = o_icmp (fun x y => x < y) 24 20 := rfl
theorem k_X1_remember_20 (post : PO) : lk (T_X1_remember post) 20 = o_aload 0 21 := rfl
theorem k_X1_remember_21 (post : PO) : lk (T_X1_remember post) 21 = o_callV 1 S_X1_forgetOldest 0 24 := rfl
theorem k_X1_remember_24 (post : PO) : lk (T_X1_remember post) 24 = o_aload 0 25 := rfl
theorem k_X1_remember_25 (post : PO) : lk (T_X1_remember post) 25 = o_getf 1 4 28 := rfl
theorem k_X1_remember_28 (post : PO) : lk (T_X1_remember post) 28 = o_aload 0 29 := rfl
theorem k_X1_remember_29 (post : PO) : lk (T_X1_remember post) 29 = o_getf 1 3 32 := rfl
theorem k_X1_remember_32 (post : PO) : lk (T_X1_remember post) 32 = o_aload 0 33 := rfl
theorem k_X1_remember_33 (post : PO) : lk (T_X1_remember post) 33 = o_getf 1 2 36 := rfl
theorem k_X1_remember_36 (post : PO) : lk (T_X1_remember post) 36 = o_ast 0 (fun x => x) 37 := rfl
theorem k_X1_remember_37 (post : PO) : lk (T_X1_remember post) 37 = o_aload 0 38 := rfl
theorem k_X1_remember_38 (post : PO) : lk (T_X1_remember post) 38 = o_getf 1 5 41 := rfl
theorem k_X1_remember_41 (post : PO) : lk (T_X1_remember post) 41 = o_aload 0 42 := rfl
theorem k_X1_remember_42 (post : PO) : lk (T_X1_remember post) 42 = o_getf 1 3 45 := rfl
theorem k_X1_remember_45 (post : PO) : lk (T_X1_remember post) 45 = o_iload 1 46 := rfl
theorem k_X1_remember_46 (post : PO) : lk (T_X1_remember post) 46 = o_ast 0 (fun x => x) 47 := rfl
theorem k_X1_remember_47 (post : PO) : lk (T_X1_remember post) 47 = o_aload 0 48 := rfl
theorem k_X1_remember_48 (post : PO) : lk (T_X1_remember post) 48 = o_getf 1 6 51 := rfl
theorem k_X1_remember_51 (post : PO) : lk (T_X1_remember post) 51 = o_aload 0 52 := rfl
theorem k_X1_remember_52 (post : PO) : lk (T_X1_remember post) 52 = o_getf 1 3 55 := rfl
theorem k_X1_remember_55 (post : PO) : lk (T_X1_remember post) 55 = o_aload 0 56 := rfl
theorem k_X1_remember_56 (post : PO) : lk (T_X1_remember post) 56 = o_getf 1 0 59 := rfl
theorem k_X1_remember_59 (post : PO) : lk (T_X1_remember post) 59 = o_iload 1 60 := rfl
theorem k_X1_remember_60 (post : PO) : lk (T_X1_remember post) 60 = o_ald 0 61 := rfl
theorem k_X1_remember_61 (post : PO) : lk (T_X1_remember post) 61 = o_ast 0 (fun x => x) 62 := rfl
theorem k_X1_remember_62 (post : PO) : lk (T_X1_remember post) 62 = o_aload 0 63 := rfl
theorem k_X1_remember_63 (post : PO) : lk (T_X1_remember post) 63 = o_getf 1 7 66 := rfl
theorem k_X1_remember_66 (post : PO) : lk (T_X1_remember post) 66 = o_aload 0 67 := rfl
theorem k_X1_remember_67 (post : PO) : lk (T_X1_remember post) 67 = o_getf 1 3 70 := rfl
theorem k_X1_remember_70 (post : PO) : lk (T_X1_remember post) 70 = o_aload 0 71 := rfl
theorem k_X1_remember_71 (post : PO) : lk (T_X1_remember post) 71 = o_getf 1 1 74 := rfl
theorem k_X1_remember_74 (post : PO) : lk (T_X1_remember post) 74 = o_iload 1 75 := rfl
theorem k_X1_remember_75 (post : PO) : lk (T_X1_remember post) 75 = o_ald 0 76 := rfl
theorem k_X1_remember_76 (post : PO) : lk (T_X1_remember post) 76 = o_ast 0 (fun x => x) 77 := rfl
theorem k_X1_remember_77 (post : PO) : lk (T_X1_remember post) 77 = o_aload 0 78 := rfl
theorem k_X1_remember_78 (post : PO) : lk (T_X1_remember post) 78 = o_dup 79 := rfl
theorem k_X1_remember_79 (post : PO) : lk (T_X1_remember post) 79 = o_getf 1 3 82 := rfl
theorem k_X1_remember_82 (post : PO) : lk (T_X1_remember post) 82 = o_const 1 83 := rfl
theorem k_X1_remember_83 (post : PO) : lk (T_X1_remember post) 83 = o_bin (fun x y => x + y) 84 := rfl
theorem k_X1_remember_84 (post : PO) : lk (T_X1_remember post) 84 = o_putI 1 3 87 := rfl
theorem k_X1_remember_87 (post : PO) : lk (T_X1_remember post) 87 = o_ret post := rfl
set_option maxRecDepth 100000 in
theorem t_X1_remember {p : Program} {l : Launch} {e : Env} {s : State} {m : MethodId} {args : Array Value} {below : List Frame} {meth : Method} {c : Code} {D : va_G} {dA : Nat → ClassId} {ad : Nat → Nat} (post : PO) (C : CX p s m args meth c cX1_remember 2 yX1_remember.cls D dA ad (AA ad s.heap.size)) (hr : meth.sig.returnType = none) : SndL (WW p l e ({ frames := 2, cells := 0, slots := 0, locals := 44 } : Room) s m args below meth c 0 0 (MQ below (CQ D dA ad post (AA ad s.heap.size)) args s 0 0 (AA ad s.heap.size)) 2 D dA ad (AA ad s.heap.size)) (T_X1_remember post) := by
  refine snd_c (s_iload_n C rfl dX1_remember_0) ?_
  refine snd_c (s_if_lt C dX1_remember_1 (by decide)) ?_
  refine snd_c (s_iload_n C rfl dX1_remember_4) ?_
  refine snd_c (s_bipush C dX1_remember_5 rfl) ?_
  refine snd_c (s_icmp_lt C dX1_remember_7 (by decide)) ?_
  refine snd_c (s_ret C hr dX1_remember_10) ?_
  refine snd_c (s_aload_n C rfl dX1_remember_11) ?_
  refine snd_c (s_getf C (ci := 1) (j := 3) (T := TX1) rfl inX1 (by decide) fl_RX1_34 dX1_remember_12) ?_
  refine snd_c (s_bipush C dX1_remember_15 rfl) ?_
  refine snd_c (s_icmp_lt C dX1_remember_17 (by decide)) ?_
  refine snd_c (s_aload_n C rfl dX1_remember_20) ?_
  refine snd_c (s_callV C (ci := 1) c_X1_forgetOldest rfl cw_RX1_41 ⟨rfl, rfl⟩ ⟨by decide +kernel, by decide +kernel, by decide +kernel⟩ ⟨by decide, by decide⟩ ⟨Nat.zero_le _, Nat.zero_le _⟩ dX1_remember_21) ?_
  refine snd_c (s_aload_n C rfl dX1_remember_24) ?_
  refine snd_c (s_getf C (ci := 1) (j := 4) (T := TX1) rfl inX1 (by decide) fl_RX1_18 dX1_remember_25) ?_
  refine snd_c (s_aload_n C rfl dX1_remember_28) ?_
  refine snd_c (s_getf C (ci := 1) (j := 3) (T := TX1) rfl inX1 (by decide) fl_RX1_34 dX1_remember_29) ?_
  refine snd_c (s_aload_n C rfl dX1_remember_32) ?_
  refine snd_c (s_getf C (ci := 1) (j := 2) (T := TX1) rfl inX1 (by decide) fl_RX1_30 dX1_remember_33) ?_
  refine snd_c (s_iast C dX1_remember_36) ?_
  refine snd_c (s_aload_n C rfl dX1_remember_37) ?_
  refine snd_c (s_getf C (ci := 1) (j := 5) (T := TX1) rfl inX1 (by decide) fl_RX1_21 dX1_remember_38) ?_
  refine snd_c (s_aload_n C rfl dX1_remember_41) ?_
  refine snd_c (s_getf C (ci := 1) (j := 3) (T := TX1) rfl inX1 (by decide) fl_RX1_34 dX1_remember_42) ?_
  refine snd_c (s_iload_n C rfl dX1_remember_45) ?_
  refine snd_c (s_iast C dX1_remember_46) ?_
  refine snd_c (s_aload_n C rfl dX1_remember_47) ?_
  refine snd_c (s_getf C (ci := 1) (j := 6) (T := TX1) rfl inX1 (by decide) fl_RX1_24 dX1_remember_48) ?_
  refine snd_c (s_aload_n C rfl dX1_remember_51) ?_
  refine snd_c (s_getf C (ci := 1) (j := 3) (T := TX1) rfl inX1 (by decide) fl_RX1_34 dX1_remember_52) ?_
  refine snd_c (s_aload_n C rfl dX1_remember_55) ?_
  refine snd_c (s_getf C (ci := 1) (j := 0) (T := TX1) rfl inX1 (by decide) fl_RX1_9 dX1_remember_56) ?_
  refine snd_c (s_iload_n C rfl dX1_remember_59) ?_
  refine snd_c (s_iald C dX1_remember_60) ?_
  refine snd_c (s_iast C dX1_remember_61) ?_
  refine snd_c (s_aload_n C rfl dX1_remember_62) ?_
  refine snd_c (s_getf C (ci := 1) (j := 7) (T := TX1) rfl inX1 (by decide) fl_RX1_27 dX1_remember_63) ?_
  refine snd_c (s_aload_n C rfl dX1_remember_66) ?_
  refine snd_c (s_getf C (ci := 1) (j := 3) (T := TX1) rfl inX1 (by decide) fl_RX1_34 dX1_remember_67) ?_
  refine snd_c (s_aload_n C rfl dX1_remember_70) ?_
  refine snd_c (s_getf C (ci := 1) (j := 1) (T := TX1) rfl inX1 (by decide) fl_RX1_15 dX1_remember_71) ?_
  refine snd_c (s_iload_n C rfl dX1_remember_74) ?_
  refine snd_c (s_iald C dX1_remember_75) ?_
  refine snd_c (s_iast C dX1_remember_76) ?_
  refine snd_c (s_aload_n C rfl dX1_remember_77) ?_
  refine snd_c (s_dup C dX1_remember_78) ?_
  refine snd_c (s_getf C (ci := 1) (j := 3) (T := TX1) rfl inX1 (by decide) fl_RX1_34 dX1_remember_79) ?_
  refine snd_c (s_iconst C dX1_remember_82 rfl) ?_
  refine snd_c (s_iadd C dX1_remember_83) ?_
  refine snd_c (s_putI C (ci := 1) (j := 3) (T := TX1) tyX1 tyX1_ok nmX1 rfl inX1 (by decide) rfl rfl fl_RX1_34 dX1_remember_84) ?_
  refine snd_c (s_ret C hr dX1_remember_87) ?_
  exact trivial
theorem dX1_takeBack_0 : decode cX1_takeBack 0 = .ok (.aload_n 0, 1) := by decide +kernel
theorem dX1_takeBack_1 : decode cX1_takeBack 1 = .ok (.getfield 34, 3) := by decide +kernel
theorem dX1_takeBack_4 : decode cX1_takeBack 4 = .ok (.ifCond .gt 4, 3) := by decide +kernel
theorem dX1_takeBack_7 : decode cX1_takeBack 7 = .ok (.return_, 1) := by decide +kernel
theorem dX1_takeBack_8 : decode cX1_takeBack 8 = .ok (.aload_n 0, 1) := by decide +kernel
theorem dX1_takeBack_9 : decode cX1_takeBack 9 = .ok (.dup, 1) := by decide +kernel
theorem dX1_takeBack_10 : decode cX1_takeBack 10 = .ok (.getfield 34, 3) := by decide +kernel
theorem dX1_takeBack_13 : decode cX1_takeBack 13 = .ok (.iconst 1, 1) := by decide +kernel
theorem dX1_takeBack_14 : decode cX1_takeBack 14 = .ok (.isub, 1) := by decide +kernel
theorem dX1_takeBack_15 : decode cX1_takeBack 15 = .ok (.putfield 34, 3) := by decide +kernel
theorem dX1_takeBack_18 : decode cX1_takeBack 18 = .ok (.aload_n 0, 1) := by decide +kernel
theorem dX1_takeBack_19 : decode cX1_takeBack 19 = .ok (.getfield 21, 3) := by decide +kernel
theorem dX1_takeBack_22 : decode cX1_takeBack 22 = .ok (.aload_n 0, 1) := by decide +kernel
theorem dX1_takeBack_23 : decode cX1_takeBack 23 = .ok (.getfield 34, 3) := by decide +kernel
theorem dX1_takeBack_26 : decode cX1_takeBack 26 = .ok (.iaload, 1) := by decide +kernel
theorem dX1_takeBack_27 : decode cX1_takeBack 27 = .ok (.istore_n 1, 1) := by decide +kernel
theorem dX1_takeBack_28 : decode cX1_takeBack 28 = .ok (.aload_n 0, 1) := by decide +kernel
theorem dX1_takeBack_29 : decode cX1_takeBack 29 = .ok (.getfield 9, 3) := by decide +kernel
theorem dX1_takeBack_32 : decode cX1_takeBack 32 = .ok (.iload_n 1, 1) := by decide +kernel
theorem dX1_takeBack_33 : decode cX1_takeBack 33 = .ok (.aload_n 0, 1) := by decide +kernel
theorem dX1_takeBack_34 : decode cX1_takeBack 34 = .ok (.getfield 24, 3) := by decide +kernel
theorem dX1_takeBack_37 : decode cX1_takeBack 37 = .ok (.aload_n 0, 1) := by decide +kernel
theorem dX1_takeBack_38 : decode cX1_takeBack 38 = .ok (.getfield 34, 3) := by decide +kernel
theorem dX1_takeBack_41 : decode cX1_takeBack 41 = .ok (.iaload, 1) := by decide +kernel
theorem dX1_takeBack_42 : decode cX1_takeBack 42 = .ok (.iastore, 1) := by decide +kernel
theorem dX1_takeBack_43 : decode cX1_takeBack 43 = .ok (.aload_n 0, 1) := by decide +kernel
theorem dX1_takeBack_44 : decode cX1_takeBack 44 = .ok (.getfield 15, 3) := by decide +kernel
theorem dX1_takeBack_47 : decode cX1_takeBack 47 = .ok (.iload_n 1, 1) := by decide +kernel
theorem dX1_takeBack_48 : decode cX1_takeBack 48 = .ok (.aload_n 0, 1) := by decide +kernel
theorem dX1_takeBack_49 : decode cX1_takeBack 49 = .ok (.getfield 27, 3) := by decide +kernel
theorem dX1_takeBack_52 : decode cX1_takeBack 52 = .ok (.aload_n 0, 1) := by decide +kernel
theorem dX1_takeBack_53 : decode cX1_takeBack 53 = .ok (.getfield 34, 3) := by decide +kernel
theorem dX1_takeBack_56 : decode cX1_takeBack 56 = .ok (.iaload, 1) := by decide +kernel
theorem dX1_takeBack_57 : decode cX1_takeBack 57 = .ok (.iastore, 1) := by decide +kernel
theorem dX1_takeBack_58 : decode cX1_takeBack 58 = .ok (.aload_n 0, 1) := by decide +kernel
theorem dX1_takeBack_59 : decode cX1_takeBack 59 = .ok (.aload_n 0, 1) := by decide +kernel
theorem dX1_takeBack_60 : decode cX1_takeBack 60 = .ok (.getfield 18, 3) := by decide +kernel
theorem dX1_takeBack_63 : decode cX1_takeBack 63 = .ok (.aload_n 0, 1) := by decide +kernel
theorem dX1_takeBack_64 : decode cX1_takeBack 64 = .ok (.getfield 34, 3) := by decide +kernel
theorem dX1_takeBack_67 : decode cX1_takeBack 67 = .ok (.iaload, 1) := by decide +kernel
theorem dX1_takeBack_68 : decode cX1_takeBack 68 = .ok (.putfield 30, 3) := by decide +kernel
theorem dX1_takeBack_71 : decode cX1_takeBack 71 = .ok (.return_, 1) := by decide +kernel
def T_X1_takeBack (post : PO) : List (Nat × OP) := [(0, o_aload 0 1), (1, o_getf 1 3 4), (4, o_if (fun x => 0 < x) 8 7), (7, o_ret post), (8, o_aload 0 9), (9, o_dup 10), (10, o_getf 1 3 13), (13, o_const 1 14), (14, o_bin (fun x y => x - y) 15), (15, o_putI 1 3 18), (18, o_aload 0 19), (19, o_getf 1 5 22), (22, o_aload 0 23), (23, o_getf 1 3 26), (26, o_ald 0 27), (27, o_istore 1 28), (28, o_aload 0 29), (29, o_getf 1 0 32), (32, o_iload 1 33), (33, o_aload 0 34), (34, o_getf 1 6 37), (37, o_aload 0 38), (38, o_getf 1 3 41), (41, o_ald 0 42), (42, o_ast 0 (fun x => x) 43), (43, o_aload 0 44), (44, o_getf 1 1 47), (47, o_iload 1 48), (48, o_aload 0 49), (49, o_getf 1 7 52), (52, o_aload 0 53), (53, o_getf 1 3 56), (56, o_ald 0 57), (57, o_ast 0 (fun x => x) 58), (58, o_aload 0 59), (59, o_aload 0 60), (60, o_getf 1 4 63), (63, o_aload 0 64), (64, o_getf 1 3 67), (67, o_ald 0 68), (68, o_putI 1 2 71), (71, o_ret post)]
theorem k_X1_takeBack_0 (post : PO) : lk (T_X1_takeBack post) 0 = o_aload 0 1 := rfl
theorem k_X1_takeBack_1 (post : PO) : lk (T_X1_takeBack post) 1 = o_getf 1 3 4 := rfl
theorem k_X1_takeBack_4 (post : PO) : lk (T_X1_takeBack post) 4 = o_if (fun x => 0 < x) 8 7 := rfl
theorem k_X1_takeBack_7 (post : PO) : lk (T_X1_takeBack post) 7 = o_ret post := rfl
theorem k_X1_takeBack_8 (post : PO) : lk (T_X1_takeBack post) 8 = o_aload 0 9 := rfl
theorem k_X1_takeBack_9 (post : PO) : lk (T_X1_takeBack post) 9 = o_dup 10 := rfl
theorem k_X1_takeBack_10 (post : PO) : lk (T_X1_takeBack post) 10 = o_getf 1 3 13 := rfl
theorem k_X1_takeBack_13 (post : PO) : lk (T_X1_takeBack post) 13 = o_const 1 14 := rfl
theorem k_X1_takeBack_14 (post : PO) : lk (T_X1_takeBack post) 14 = o_bin (fun x y => x - y) 15 := rfl
theorem k_X1_takeBack_15 (post : PO) : lk (T_X1_takeBack post) 15 = o_putI 1 3 18 := rfl
theorem k_X1_takeBack_18 (post : PO) : lk (T_X1_takeBack post) 18 = o_aload 0 19 := rfl
theorem k_X1_takeBack_19 (post : PO) : lk (T_X1_takeBack post) 19 = o_getf 1 5 22 := rfl
theorem k_X1_takeBack_22 (post : PO) : lk (T_X1_takeBack post) 22 = o_aload 0 23 := rfl
theorem k_X1_takeBack_23 (post : PO) : lk (T_X1_takeBack post) 23 = o_getf 1 3 26 := rfl
theorem k_X1_takeBack_26 (post : PO) : lk (T_X1_takeBack post) 26 = o_ald 0 27 := rfl
theorem k_X1_takeBack_27 (post : PO) : lk (T_X1_takeBack post) 27 = o_istore 1 28 := rfl
theorem k_X1_takeBack_28 (post : PO) : lk (T_X1_takeBack post) 28 = o_aload 0 29 := rfl
theorem k_X1_takeBack_29 (post : PO) : lk (T_X1_takeBack post) 29 = o_getf 1 0 32 := rfl
theorem k_X1_takeBack_32 (post : PO) : lk (T_X1_takeBack post) 32 = o_iload 1 33 := rfl
theorem k_X1_takeBack_33 (post : PO) : lk (T_X1_takeBack post) 33 = o_aload 0 34 := rfl
theorem k_X1_takeBack_34 (post : PO) : lk (T_X1_takeBack post) 34 = o_getf 1 6 37 := rfl
theorem k_X1_takeBack_37 (post : PO) : lk (T_X1_takeBack post) 37 = o_aload 0 38 := rfl
theorem k_X1_takeBack_38 (post : PO) : lk (T_X1_takeBack post) 38 = o_getf 1 3 41 := rfl
theorem k_X1_takeBack_41 (post : PO) : lk (T_X1_takeBack post) 41 = o_ald 0 42 := rfl
theorem k_X1_takeBack_42 (post : PO) : lk (T_X1_takeBack post) 42 = o_ast 0 (fun x => x) 43 := rfl
theorem k_X1_takeBack_43 (post : PO) : lk (T_X1_takeBack post) 43 = o_aload 0 44 := rfl
theorem k_X1_takeBack_44 (post : PO) : lk (T_X1_takeBack post) 44 = o_getf 1 1 47 := rfl
theorem k_X1_takeBack_47 (post : PO) : lk (T_X1_takeBack post) 47 = o_iload 1 48 := rfl
theorem k_X1_takeBack_48 (post : PO) : lk (T_X1_takeBack post) 48 = o_aload 0 49 := rfl
theorem k_X1_takeBack_49 (post : PO) : lk (T_X1_takeBack post) 49 = o_getf 1 7 52 := rfl
theorem k_X1_takeBack_52 (post : PO) : lk (T_X1_takeBack post) 52 = o_aload 0 53 := rfl
theorem k_X1_takeBack_53 (post : PO) : lk (T_X1_takeBack post) 53 = o_getf 1 3 56 := rfl
theorem k_X1_takeBack_56 (post : PO) : lk (T_X1_takeBack post) 56 = o_ald 0 57 := rfl
theorem k_X1_takeBack_57 (post : PO) : lk (T_X1_takeBack post) 57 = o_ast 0 (fun x => x) 58 := rfl
theorem k_X1_takeBack_58 (post : PO) : lk (T_X1_takeBack post) 58 = o_aload 0 59 := rfl
theorem k_X1_takeBack_59 (post : PO) : lk (T_X1_takeBack post) 59 = o_aload 0 60 := rfl
theorem k_X1_takeBack_60 (post : PO) : lk (T_X1_takeBack post) 60 = o_getf 1 4 63 := rfl
theorem k_X1_takeBack_63 (post : PO) : lk (T_X1_takeBack post) 63 = o_aload 0 64 := rfl
theorem k_X1_takeBack_64 (post : PO) : lk (T_X1_takeBack post) 64 = o_getf 1 3 67 := rfl
theorem k_X1_takeBack_67 (post : PO) : lk (T_X1_takeBack post) 67 = o_ald 0 68 := rfl
theorem k_X1_takeBack_68 (post : PO) : lk (T_X1_takeBack post) 68 = o_putI 1 2 71 := rfl
theorem k_X1_takeBack_71 (post : PO) : lk (T_X1_takeBack post) 71 = o_ret post := rfl
set_option maxRecDepth 100000 in
theorem t_X1_takeBack {p : Program} {l : Launch} {e : Env} {s : State} {m : MethodId} {args : Array Value} {below : List Frame} {meth : Method} {c : Code} {D : va_G} {dA : Nat → ClassId} {ad : Nat → Nat} (post : PO) (C : CX p s m args meth c cX1_takeBack 2 yX1_takeBack.cls D dA ad (AA ad s.heap.size)) (hr : meth.sig.returnType = none) : SndL (WW p l e ({ frames := 0, cells := 0, slots := 0, locals := 0 } : Room) s m args below meth c 0 0 (MQ below (CQ D dA ad post (AA ad s.heap.size)) args s 0 0 (AA ad s.heap.size)) 2 D dA ad (AA ad s.heap.size)) (T_X1_takeBack post) := by
  refine snd_c (s_aload_n C rfl dX1_takeBack_0) ?_
  refine snd_c (s_getf C (ci := 1) (j := 3) (T := TX1) rfl inX1 (by decide) fl_RX1_34 dX1_takeBack_1) ?_
  refine snd_c (s_if_gt C dX1_takeBack_4 (by decide)) ?_
  refine snd_c (s_ret C hr dX1_takeBack_7) ?_
  refine snd_c (s_aload_n C rfl dX1_takeBack_8) ?_
  refine snd_c (s_dup C dX1_takeBack_9) ?_
  refine snd_c (s_getf C (ci := 1) (j := 3) (T := TX1) rfl inX1 (by decide) fl_RX1_34 dX1_takeBack_10) ?_
  refine snd_c (s_iconst C dX1_takeBack_13 rfl) ?_
  refine snd_c (s_isub C dX1_takeBack_14) ?_
  refine snd_c (s_putI C (ci := 1) (j := 3) (T := TX1) tyX1 tyX1_ok nmX1 rfl inX1 (by decide) rfl rfl fl_RX1_34 dX1_takeBack_15) ?_
  refine snd_c (s_aload_n C rfl dX1_takeBack_18) ?_
  refine snd_c (s_getf C (ci := 1) (j := 5) (T := TX1) rfl inX1 (by decide) fl_RX1_21 dX1_takeBack_19) ?_
  refine snd_c (s_aload_n C rfl dX1_takeBack_22) ?_
  refine snd_c (s_getf C (ci := 1) (j := 3) (T := TX1) rfl inX1 (by decide) fl_RX1_34 dX1_takeBack_23) ?_
  refine snd_c (s_iald C dX1_takeBack_26) ?_
  refine snd_c (s_istore_n C rfl (by decide) dX1_takeBack_27) ?_
  refine snd_c (s_aload_n C rfl dX1_takeBack_28) ?_
  refine snd_c (s_getf C (ci := 1) (j := 0) (T := TX1) rfl inX1 (by decide) fl_RX1_9 dX1_takeBack_29) ?_
  refine snd_c (s_iload_n C rfl dX1_takeBack_32) ?_
  refine snd_c (s_aload_n C rfl dX1_takeBack_33) ?_
  refine snd_c (s_getf C (ci := 1) (j := 6) (T := TX1) rfl inX1 (by decide) fl_RX1_24 dX1_takeBack_34) ?_
  refine snd_c (s_aload_n C rfl dX1_takeBack_37) ?_
  refine snd_c (s_getf C (ci := 1) (j := 3) (T := TX1) rfl inX1 (by decide) fl_RX1_34 dX1_takeBack_38) ?_
  refine snd_c (s_iald C dX1_takeBack_41) ?_
  refine snd_c (s_iast C dX1_takeBack_42) ?_
  refine snd_c (s_aload_n C rfl dX1_takeBack_43) ?_
  refine snd_c (s_getf C (ci := 1) (j := 1) (T := TX1) rfl inX1 (by decide) fl_RX1_15 dX1_takeBack_44) ?_
  refine snd_c (s_iload_n C rfl dX1_takeBack_47) ?_
  refine snd_c (s_aload_n C rfl dX1_takeBack_48) ?_
  refine snd_c (s_getf C (ci := 1) (j := 7) (T := TX1) rfl inX1 (by decide) fl_RX1_27 dX1_takeBack_49) ?_
  refine snd_c (s_aload_n C rfl dX1_takeBack_52) ?_
  refine snd_c (s_getf C (ci := 1) (j := 3) (T := TX1) rfl inX1 (by decide) fl_RX1_34 dX1_takeBack_53) ?_
  refine snd_c (s_iald C dX1_takeBack_56) ?_
  refine snd_c (s_iast C dX1_takeBack_57) ?_
  refine snd_c (s_aload_n C rfl dX1_takeBack_58) ?_
  refine snd_c (s_aload_n C rfl dX1_takeBack_59) ?_
  refine snd_c (s_getf C (ci := 1) (j := 4) (T := TX1) rfl inX1 (by decide) fl_RX1_18 dX1_takeBack_60) ?_
  refine snd_c (s_aload_n C rfl dX1_takeBack_63) ?_
  refine snd_c (s_getf C (ci := 1) (j := 3) (T := TX1) rfl inX1 (by decide) fl_RX1_34 dX1_takeBack_64) ?_
  refine snd_c (s_iald C dX1_takeBack_67) ?_
  refine snd_c (s_putI C (ci := 1) (j := 2) (T := TX1) tyX1 tyX1_ok nmX1 rfl inX1 (by decide) rfl rfl fl_RX1_30 dX1_takeBack_68) ?_
  refine snd_c (s_ret C hr dX1_takeBack_71) ?_
  exact trivial
theorem dX1_copyOf_0 : decode cX1_copyOf 0 = .ok (.aload_n 0, 1) := by decide +kernel
theorem dX1_copyOf_1 : decode cX1_copyOf 1 = .ok (.aload_n 1, 1) := by decide +kernel
theorem dX1_copyOf_2 : decode cX1_copyOf 2 = .ok (.getfield 30, 3) := by decide +kernel
theorem dX1_copyOf_5 : decode cX1_copyOf 5 = .ok (.putfield 30, 3) := by decide +kernel
theorem dX1_copyOf_8 : decode cX1_copyOf 8 = .ok (.aload_n 0, 1) := by decide +kernel
theorem dX1_copyOf_9 : decode cX1_copyOf 9 = .ok (.aload_n 1, 1) := by decide +kernel
theorem dX1_copyOf_10 : decode cX1_copyOf 10 = .ok (.getfield 34, 3) := by decide +kernel
theorem dX1_copyOf_13 : decode cX1_copyOf 13 = .ok (.putfield 34, 3) := by decide +kernel
theorem dX1_copyOf_16 : decode cX1_copyOf 16 = .ok (.iconst 0, 1) := by decide +kernel
theorem dX1_copyOf_17 : decode cX1_copyOf 17 = .ok (.istore_n 2, 1) := by decide +kernel
theorem dX1_copyOf_18 : decode cX1_copyOf 18 = .ok (.iload_n 2, 1) := by decide +kernel
theorem dX1_copyOf_19 : decode cX1_copyOf 19 = .ok (.bipush 8, 2) := by decide +kernel
theorem dX1_copyOf_21 : decode cX1_copyOf 21 = .ok (.if_icmp .ge 33, 3) := by decide +kernel
theorem dX1_copyOf_24 : decode cX1_copyOf 24 = .ok (.aload_n 0, 1) := by decide +kernel
theorem dX1_copyOf_25 : decode cX1_copyOf 25 = .ok (.getfield 9, 3) := by decide +kernel
theorem dX1_copyOf_28 : decode cX1_copyOf 28 = .ok (.iload_n 2, 1) := by decide +kernel
theorem dX1_copyOf_29 : decode cX1_copyOf 29 = .ok (.aload_n 1, 1) := by decide +kernel
theorem dX1_copyOf_30 : decode cX1_copyOf 30 = .ok (.getfield 9, 3) := by decide +kernel
theorem dX1_copyOf_33 : decode cX1_copyOf 33 = .ok (.iload_n 2, 1) := by decide +kernel
theorem dX1_copyOf_34 : decode cX1_copyOf 34 = .ok (.iaload, 1) := by decide +kernel
theorem dX1_copyOf_35 : decode cX1_copyOf 35 = .ok (.iastore, 1) := by decide +kernel
theorem dX1_copyOf_36 : decode cX1_copyOf 36 = .ok (.aload_n 0, 1) := by decide +kernel
theorem dX1_copyOf_37 : decode cX1_copyOf 37 = .ok (.getfield 15, 3) := by decide +kernel
theorem dX1_copyOf_40 : decode cX1_copyOf 40 = .ok (.iload_n 2, 1) := by decide +kernel
theorem dX1_copyOf_41 : decode cX1_copyOf 41 = .ok (.aload_n 1, 1) := by decide +kernel
theorem dX1_copyOf_42 : decode cX1_copyOf 42 = .ok (.getfield 15, 3) := by decide +kernel
theorem dX1_copyOf_45 : decode cX1_copyOf 45 = .ok (.iload_n 2, 1) := by decide +kernel
theorem dX1_copyOf_46 : decode cX1_copyOf 46 = .ok (.iaload, 1) := by decide +kernel
theorem dX1_copyOf_47 : decode cX1_copyOf 47 = .ok (.iastore, 1) := by decide +kernel
theorem dX1_copyOf_48 : decode cX1_copyOf 48 = .ok (.iinc 2 1, 3) := by decide +kernel
theorem dX1_copyOf_51 : decode cX1_copyOf 51 = .ok (.goto (-33), 3) := by decide +kernel
theorem dX1_copyOf_54 : decode cX1_copyOf 54 = .ok (.iconst 0, 1) := by decide +kernel
theorem dX1_copyOf_55 : decode cX1_copyOf 55 = .ok (.istore_n 2, 1) := by decide +kernel
theorem dX1_copyOf_56 : decode cX1_copyOf 56 = .ok (.iload_n 2, 1) := by decide +kernel
theorem dX1_copyOf_57 : decode cX1_copyOf 57 = .ok (.bipush 10, 2) := by decide +kernel
theorem dX1_copyOf_59 : decode cX1_copyOf 59 = .ok (.if_icmp .ge 16, 3) := by decide +kernel
theorem dX1_copyOf_62 : decode cX1_copyOf 62 = .ok (.aload_n 0, 1) := by decide +kernel
theorem dX1_copyOf_63 : decode cX1_copyOf 63 = .ok (.iload_n 2, 1) := by decide +kernel
theorem dX1_copyOf_64 : decode cX1_copyOf 64 = .ok (.aload_n 1, 1) := by decide +kernel
theorem dX1_copyOf_65 : decode cX1_copyOf 65 = .ok (.iload_n 2, 1) := by decide +kernel
theorem dX1_copyOf_66 : decode cX1_copyOf 66 = .ok (.invokevirtual 44, 3) := by decide +kernel
theorem dX1_copyOf_69 : decode cX1_copyOf 69 = .ok (.iinc 2 1, 3) := by decide +kernel
theorem dX1_copyOf_72 : decode cX1_copyOf 72 = .ok (.goto (-16), 3) := by decide +kernel
theorem dX1_copyOf_75 : decode cX1_copyOf 75 = .ok (.return_, 1) := by decide +kernel
def T_X1_copyOf (post : PO) : List (Nat × OP) := [(0, o_aload 0 1), (1, o_aload 1 2), (2, o_getf 1 2 5), (5, o_putI 1 2 8), (8, o_aload 0 9), (9, o_aload 1 10), (10, o_getf 1 3 13), (13, o_putI 1 3 16), (16, o_const 0 17), (17, o_istore 2 18), (18, o_iload 2 19), (19, o_const 8 21), (21, o_icmp (fun x y => y ≤ x) 54 24), (24, o_aload 0 25), (25, o_getf 1 0 28), (28, o_iload 2 29), (29, o_aload 1 30), (30, o_getf 1 0 33), (33, o_iload 2 34), (34, o_ald 0 35), (35, o_ast 0 (fun x => x) 36), (36, o_aload 0 37), (37, o_getf 1 1 40), (40, o_iload 2 41), (41, o_aload 1 42), (42, o_getf 1 1 45), (45, o_iload 2 46), (46, o_ald 0 47), (47, o_ast 0 (fun x => x) 48), (48, o_iinc 2 1 51), (51, o_goto 18), (54, o_const 0 55), (55, o_istore 2 56), (56, o_iload 2 57), (57, o_const 10 59), (59, o_icmp (fun x y => y ≤ x) 75 62), (62, o_aload 0 63), (63, o_iload 2 64), (64, o_aload 1 65), (65, o_iload 2 66), (66, o_callV 1 S_X1_copyChange 3 69), (69, o_iinc 2 1 72), (72, o_goto 56), (75, o_ret post)]
theorem k_X1_copyOf_0 (post : PO) : lk (T_X1_copyOf post) 0 = o_aload 0 1 := rfl
theorem k_X1_copyOf_1 (post : PO) : lk (T_X1_copyOf post) 1 = o_aload 1 2 := rfl
theorem k_X1_copyOf_2 (post : PO) : lk (T_X1_copyOf post) 2 = o_getf 1 2 5 := rfl
theorem k_X1_copyOf_5 (post : PO) : lk (T_X1_copyOf post) 5 = o_putI 1 2 8 := rfl
theorem k_X1_copyOf_8 (post : PO) : lk (T_X1_copyOf post) 8 = o_aload 0 9 := rfl
theorem k_X1_copyOf_9 (post : PO) : lk (T_X1_copyOf post) 9 = o_aload 1 10 := rfl
theorem k_X1_copyOf_10 (post : PO) : lk (T_X1_copyOf post) 10 = o_getf 1 3 13 := rfl
theorem k_X1_copyOf_13 (post : PO) : lk (T_X1_copyOf post) 13 = o_putI 1 3 16 := rfl
theorem k_X1_copyOf_16 (post : PO) : lk (T_X1_copyOf post) 16 = o_const 0 17 := rfl
theorem k_X1_copyOf_17 (post : PO) : lk (T_X1_copyOf post) 17 = o_istore 2 18 := rfl
theorem k_X1_copyOf_18 (post : PO) : lk (T_X1_copyOf post) 18 = o_iload 2 19 := rfl
theorem k_X1_copyOf_19 (post : PO) : lk (T_X1_copyOf post) 19 = o_const 8 21 := rfl
theorem k_X1_copyOf_21 (post : PO) : lk (T_X1_copyOf post) 21 = o_icmp (fun x y => y ≤ x) 54 24 := rfl
theorem k_X1_copyOf_24 (post : PO) : lk (T_X1_copyOf post) 24 = o_aload 0 25 := rfl
theorem k_X1_copyOf_25 (post : PO) : lk (T_X1_copyOf post) 25 = o_getf 1 0 28 := rfl
theorem k_X1_copyOf_28 (post : PO) : lk (T_X1_copyOf post) 28 = o_iload 2 29 := rfl
theorem k_X1_copyOf_29 (post : PO) : lk (T_X1_copyOf post) 29 = o_aload 1 30 := rfl
theorem k_X1_copyOf_30 (post : PO) : lk (T_X1_copyOf post) 30 = o_getf 1 0 33 := rfl
theorem k_X1_copyOf_33 (post : PO) : lk (T_X1_copyOf post) 33 = o_iload 2 34 := rfl
theorem k_X1_copyOf_34 (post : PO) : lk (T_X1_copyOf post) 34 = o_ald 0 35 := rfl
theorem k_X1_copyOf_35 (post : PO) : lk (T_X1_copyOf post) 35 = o_ast 0 (fun x => x) 36 := rfl
theorem k_X1_copyOf_36 (post : PO) : lk (T_X1_copyOf post) 36 = o_aload 0 37 := rfl
theorem k_X1_copyOf_37 (post : PO) : lk (T_X1_copyOf post) 37 = o_getf 1 1 40 := rfl
theorem k_X1_copyOf_40 (post : PO) : lk (T_X1_copyOf post) 40 = o_iload 2 41 := rfl
theorem k_X1_copyOf_41 (post : PO) : lk (T_X1_copyOf post) 41 = o_aload 1 42 := rfl
theorem k_X1_copyOf_42 (post : PO) : lk (T_X1_copyOf post) 42 = o_getf 1 1 45 := rfl
theorem k_X1_copyOf_45 (post : PO) : lk (T_X1_copyOf post) 45 = o_iload 2 46 := rfl
theorem k_X1_copyOf_46 (post : PO) : lk (T_X1_copyOf post) 46 = o_ald 0 47 := rfl
theorem k_X1_copyOf_47 (post : PO) : lk (T_X1_copyOf post) 47 = o_ast 0 (fun x => x) 48 := rfl
theorem k_X1_copyOf_48 (post : PO) : lk (T_X1_copyOf post) 48 = o_iinc 2 1 51 := rfl
theorem k_X1_copyOf_51 (post : PO) : lk (T_X1_copyOf post) 51 = o_goto 18 := rfl
theorem k_X1_copyOf_54 (post : PO) : lk (T_X1_copyOf post) 54 = o_const 0 55 := rfl
theorem k_X1_copyOf_55 (post : PO) : lk (T_X1_copyOf post) 55 = o_istore 2 56 := rfl
theorem k_X1_copyOf_56 (post : PO) : lk (T_X1_copyOf post) 56 = o_iload 2 57 := rfl
theorem k_X1_copyOf_57 (post : PO) : lk (T_X1_copyOf post) 57 = o_const 10 59 := rfl
theorem k_X1_copyOf_59 (post : PO) : lk (T_X1_copyOf post) 59 = o_icmp (fun x y => y ≤ x) 75 62 := rfl
theorem k_X1_copyOf_62 (post : PO) : lk (T_X1_copyOf post) 62 = o_aload 0 63 := rfl
theorem k_X1_copyOf_63 (post : PO) : lk (T_X1_copyOf post) 63 = o_iload 2 64 := rfl
theorem k_X1_copyOf_64 (post : PO) : lk (T_X1_copyOf post) 64 = o_aload 1 65 := rfl
theorem k_X1_copyOf_65 (post : PO) : lk (T_X1_copyOf post) 65 = o_iload 2 66 := rfl
theorem k_X1_copyOf_66 (post : PO) : lk (T_X1_copyOf post) 66 = o_callV 1 S_X1_copyChange 3 69 := rfl
theorem k_X1_copyOf_69 (post : PO) : lk (T_X1_copyOf post) 69 = o_iinc 2 1 72 := rfl
theorem k_X1_copyOf_72 (post : PO) : lk (T_X1_copyOf post) 72 = o_goto 56 := rfl
theorem k_X1_copyOf_75 (post : PO) : lk (T_X1_copyOf post) 75 = o_ret post := rfl
set_option maxRecDepth 100000 in
theorem t_X1_copyOf {p : Program} {l : Launch} {e : Env} {s : State} {m : MethodId} {args : Array Value} {below : List Frame} {meth : Method} {c : Code} {D : va_G} {dA : Nat → ClassId} {ad : Nat → Nat} (post : PO) (C : CX p s m args meth c cX1_copyOf 3 yX1_copyOf.cls D dA ad (AA ad s.heap.size)) (hr : meth.sig.returnType = none) : SndL (WW p l e ({ frames := 1, cells := 0, slots := 0, locals := 23 } : Room) s m args below meth c 0 0 (MQ below (CQ D dA ad post (AA ad s.heap.size)) args s 0 0 (AA ad s.heap.size)) 3 D dA ad (AA ad s.heap.size)) (T_X1_copyOf post) := by
  refine snd_c (s_aload_n C rfl dX1_copyOf_0) ?_
  refine snd_c (s_aload_n C rfl dX1_copyOf_1) ?_
  refine snd_c (s_getf C (ci := 1) (j := 2) (T := TX1) rfl inX1 (by decide) fl_RX1_30 dX1_copyOf_2) ?_
  refine snd_c (s_putI C (ci := 1) (j := 2) (T := TX1) tyX1 tyX1_ok nmX1 rfl inX1 (by decide) rfl rfl fl_RX1_30 dX1_copyOf_5) ?_
  refine snd_c (s_aload_n C rfl dX1_copyOf_8) ?_
  refine snd_c (s_aload_n C rfl dX1_copyOf_9) ?_
  refine snd_c (s_getf C (ci := 1) (j := 3) (T := TX1) rfl inX1 (by decide) fl_RX1_34 dX1_copyOf_10) ?_
  refine snd_c (s_putI C (ci := 1) (j := 3) (T := TX1) tyX1 tyX1_ok nmX1 rfl inX1 (by decide) rfl rfl fl_RX1_34 dX1_copyOf_13) ?_
  refine snd_c (s_iconst C dX1_copyOf_16 rfl) ?_
  refine snd_c (s_istore_n C rfl (by decide) dX1_copyOf_17) ?_
  refine snd_c (s_iload_n C rfl dX1_copyOf_18) ?_
  refine snd_c (s_bipush C dX1_copyOf_19 rfl) ?_
  refine snd_c (s_icmp_ge C dX1_copyOf_21 (by decide)) ?_
  refine snd_c (s_aload_n C rfl dX1_copyOf_24) ?_
  refine snd_c (s_getf C (ci := 1) (j := 0) (T := TX1) rfl inX1 (by decide) fl_RX1_9 dX1_copyOf_25) ?_
  refine snd_c (s_iload_n C rfl dX1_copyOf_28) ?_
  refine snd_c (s_aload_n C rfl dX1_copyOf_29) ?_
  refine snd_c (s_getf C (ci := 1) (j := 0) (T := TX1) rfl inX1 (by decide) fl_RX1_9 dX1_copyOf_30) ?_
  refine snd_c (s_iload_n C rfl dX1_copyOf_33) ?_
  refine snd_c (s_iald C dX1_copyOf_34) ?_
  refine snd_c (s_iast C dX1_copyOf_35) ?_
  refine snd_c (s_aload_n C rfl dX1_copyOf_36) ?_
  refine snd_c (s_getf C (ci := 1) (j := 1) (T := TX1) rfl inX1 (by decide) fl_RX1_15 dX1_copyOf_37) ?_
  refine snd_c (s_iload_n C rfl dX1_copyOf_40) ?_
  refine snd_c (s_aload_n C rfl dX1_copyOf_41) ?_
  refine snd_c (s_getf C (ci := 1) (j := 1) (T := TX1) rfl inX1 (by decide) fl_RX1_15 dX1_copyOf_42) ?_
  refine snd_c (s_iload_n C rfl dX1_copyOf_45) ?_
  refine snd_c (s_iald C dX1_copyOf_46) ?_
  refine snd_c (s_iast C dX1_copyOf_47) ?_
  refine snd_c (s_iinc C (by decide) rfl dX1_copyOf_48) ?_
  refine snd_c (s_goto C dX1_copyOf_51 (by decide)) ?_
  refine snd_c (s_iconst C dX1_copyOf_54 rfl) ?_
  refine snd_c (s_istore_n C rfl (by decide) dX1_copyOf_55) ?_
  refine snd_c (s_iload_n C rfl dX1_copyOf_56) ?_
  refine snd_c (s_bipush C dX1_copyOf_57 rfl) ?_
  refine snd_c (s_icmp_ge C dX1_copyOf_59 (by decide)) ?_
  refine snd_c (s_aload_n C rfl dX1_copyOf_62) ?_
  refine snd_c (s_iload_n C rfl dX1_copyOf_63) ?_
  refine snd_c (s_aload_n C rfl dX1_copyOf_64) ?_
  refine snd_c (s_iload_n C rfl dX1_copyOf_65) ?_
  refine snd_c (s_callV C (ci := 1) c_X1_copyChange rfl cw_RX1_44 ⟨rfl, rfl⟩ ⟨by decide +kernel, by decide +kernel, by decide +kernel⟩ ⟨by decide, by decide⟩ ⟨Nat.zero_le _, Nat.zero_le _⟩ dX1_copyOf_66) ?_
  refine snd_c (s_iinc C (by decide) rfl dX1_copyOf_69) ?_
  refine snd_c (s_goto C dX1_copyOf_72 (by decide)) ?_
  refine snd_c (s_ret C hr dX1_copyOf_75) ?_
  exact trivial
set_option maxRecDepth 100000 in
theorem v_X1_remember : ∀ as M post, S_X1_remember as M post → wsum as ≤ 2 ∧ RUN (T_X1_remember post) 0 (entL 2 as) [] M := by
  rintro as M post ⟨k, u, rfl, hk, hu, hu10, ha, hb⟩
  refine ⟨Nat.le_refl 2, run_wp 90 ?_⟩
  dsimp only [k_X1_remember_0, k_X1_remember_1, k_X1_remember_4, k_X1_remember_5, k_X1_remember_7, k_X1_remember_10, k_X1_remember_11, k_X1_remember_12, k_X1_remember_15, k_X1_remember_17, k_X1_remember_20, k_X1_remember_21, k_X1_remember_24, k_X1_remember_25, k_X1_remember_28, k_X1_remember_29, k_X1_remember_32, k_X1_remember_33, k_X1_remember_36, k_X1_remember_37, k_X1_remember_38, k_X1_remember_41, k_X1_remember_42, k_X1_remember_45, k_X1_remember_46, k_X1_remember_47, k_X1_remember_48, k_X1_remember_51, k_X1_remember_52, k_X1_remember_55, k_X1_remember_56, k_X1_remember_59, k_X1_remember_60, k_X1_remember_61, k_X1_remember_62, k_X1_remember_63, k_X1_remember_66, k_X1_remember_67, k_X1_remember_70, k_X1_remember_71, k_X1_remember_74, k_X1_remember_75, k_X1_remember_76, k_X1_remember_77, k_X1_remember_78, k_X1_remember_79, k_X1_remember_82, k_X1_remember_83, k_X1_remember_84, k_X1_remember_87, wp1, wp_s, cutIn, kont, Nat.reduceSub, Nat.reduceAdd, nth, o_const, o_lconst, o_ref, o_iload, o_lload, o_aload, o_istore, o_lstore, o_astore, o_iinc, o_bin, o_div, o_un, o_lbin, o_lsh, o_lcmp, o_i2l, o_l2i, o_if, o_icmp, o_goto, o_dup, o_dup2, o_pop, fav, o_getf, o_putI, o_putZ, o_putL, o_ald, o_ast, o_alen, popn, rst, o_callV, o_callT, o_callS, swx, o_sw, o_ret, o_iret, o_zret, o_cret, o_lret, o_aret, lg, lput, lput2, ls1, isL, entL, wsum, rdI1, rdI2, rdA1, rdA21, rdA22, rdL1, rdL22, rdL21, upN_at, rep, sh_0, F_0_0, F_0_1, F_0_2, F_0_3, F_0_4, F_0_5, F_0_6, F_0_7, F_0_8, sh_1, F_1_0, F_1_1, F_1_2, F_1_3, F_1_4, F_1_5, sh_3, F_3_0, F_3_1, F_3_2, F_3_3, F_3_4, F_3_5, sh_5, F_5_0, F_5_1, F_5_2, F_5_3, F_5_4, F_5_5, F_5_6, F_5_7, F_5_8, sh_12, F_12_0, F_12_1, F_12_2, F_12_3, F_12_4, F_12_5, sh_14, F_14_0, F_14_1, F_14_2, F_14_3, F_14_4, F_14_5, F_14_6, F_14_7, F_14_8, sh_21, F_21_0, F_21_1, F_21_2, F_21_3, F_21_4, F_21_5, F_21_6, F_21_7, F_21_8, sh_28, F_28_0, F_28_1, F_28_2, F_28_3, F_28_4, F_28_5, F_28_6, F_28_7, F_28_8, sh_35, F_35_0, sh_39, F_39_0, F_39_1, F_39_2, F_39_3, F_39_4, F_39_5, F_39_6, F_39_7, F_39_8, F_39_9, F_39_10, F_39_11, F_39_12, F_39_13, A_2, A_4, A_6, A_7, A_8, A_9, A_10, A_11, A_13, A_15, A_16, A_17, A_18, A_19, A_20, A_22, A_23, A_24, A_25, A_26, A_27, A_29, A_30, A_31, A_32, A_33, A_34, A_36, A_37, A_38, A_40, A_41, A_42, A_43, A_44, A_45, A_46, A_47, S_X1_forgetOldest]
  rw [hu, show (10 : Int32) = nI 10 from rfl, show (8 : Int32) = nI 8 from rfl]
  simp (disch := omega) only [nI_leI, nI_ltI, nI_eq, nI_1, nI_add, one_shl, nI_or, nI_xor, nI_and, bit_0, bit_1, true_or, or_true, true_and, and_true, eq_self, not_true_eq_false, not_false_eq_true, forall_const]
  refine ⟨fun h1 => absurd h1 (nI_pos (by omega)), fun _ => ⟨fun _ => ⟨fun h2 => ?_, fun h2 => ?_⟩, fun h1 => absurd hk h1⟩⟩
  · refine ⟨u, by omega, rfl, u, by omega, rfl, k, hk, rfl, u, by omega, rfl, k, hk, rfl, u, by omega, rfl, ?_⟩
    have h := ha h2
    unfold psh o4 at h
    simp only [sA_sA, sA_cm, sI_sA, sI_sI, sI_cm, sL_sA, sL_sI, sL_sL, sL_cm, Nat.reduceLT, Nat.reduceAdd] at h ⊢
    exact h
  · have e : u = 10 := by omega
    subst e
    unfold o4
    dsimp only [k_X1_remember_0, k_X1_remember_1, k_X1_remember_4, k_X1_remember_5, k_X1_remember_7, k_X1_remember_10, k_X1_remember_11, k_X1_remember_12, k_X1_remember_15, k_X1_remember_17, k_X1_remember_20, k_X1_remember_21, k_X1_remember_24, k_X1_remember_25, k_X1_remember_28, k_X1_remember_29, k_X1_remember_32, k_X1_remember_33, k_X1_remember_36, k_X1_remember_37, k_X1_remember_38, k_X1_remember_41, k_X1_remember_42, k_X1_remember_45, k_X1_remember_46, k_X1_remember_47, k_X1_remember_48, k_X1_remember_51, k_X1_remember_52, k_X1_remember_55, k_X1_remember_56, k_X1_remember_59, k_X1_remember_60, k_X1_remember_61, k_X1_remember_62, k_X1_remember_63, k_X1_remember_66, k_X1_remember_67, k_X1_remember_70, k_X1_remember_71, k_X1_remember_74, k_X1_remember_75, k_X1_remember_76, k_X1_remember_77, k_X1_remember_78, k_X1_remember_79, k_X1_remember_82, k_X1_remember_83, k_X1_remember_84, k_X1_remember_87, wp1, wp_s, cutIn, kont, Nat.reduceSub, Nat.reduceAdd, nth, o_const, o_lconst, o_ref, o_iload, o_lload, o_aload, o_istore, o_lstore, o_astore, o_iinc, o_bin, o_div, o_un, o_lbin, o_lsh, o_lcmp, o_i2l, o_l2i, o_if, o_icmp, o_goto, o_dup, o_dup2, o_pop, fav, o_getf, o_putI, o_putZ, o_putL, o_ald, o_ast, o_alen, popn, rst, o_callV, o_callT, o_callS, swx, o_sw, o_ret, o_iret, o_zret, o_cret, o_lret, o_aret, lg, lput, lput2, ls1, isL, entL, wsum, rdI1, rdI2, rdA1, rdA21, rdA22, rdL1, rdL22, rdL21, upN_at, rep, sh_0, F_0_0, F_0_1, F_0_2, F_0_3, F_0_4, F_0_5, F_0_6, F_0_7, F_0_8, sh_1, F_1_0, F_1_1, F_1_2, F_1_3, F_1_4, F_1_5, sh_3, F_3_0, F_3_1, F_3_2, F_3_3, F_3_4, F_3_5, sh_5, F_5_0, F_5_1, F_5_2, F_5_3, F_5_4, F_5_5, F_5_6, F_5_7, F_5_8, sh_12, F_12_0, F_12_1, F_12_2, F_12_3, F_12_4, F_12_5, sh_14, F_14_0, F_14_1, F_14_2, F_14_3, F_14_4, F_14_5, F_14_6, F_14_7, F_14_8, sh_21, F_21_0, F_21_1, F_21_2, F_21_3, F_21_4, F_21_5, F_21_6, F_21_7, F_21_8, sh_28, F_28_0, F_28_1, F_28_2, F_28_3, F_28_4, F_28_5, F_28_6, F_28_7, F_28_8, sh_35, F_35_0, sh_39, F_39_0, F_39_1, F_39_2, F_39_3, F_39_4, F_39_5, F_39_6, F_39_7, F_39_8, F_39_9, F_39_10, F_39_11, F_39_12, F_39_13, A_2, A_4, A_6, A_7, A_8, A_9, A_10, A_11, A_13, A_15, A_16, A_17, A_18, A_19, A_20, A_22, A_23, A_24, A_25, A_26, A_27, A_29, A_30, A_31, A_32, A_33, A_34, A_36, A_37, A_38, A_40, A_41, A_42, A_43, A_44, A_45, A_46, A_47]
    refine ⟨9, by omega, rfl, 9, by omega, rfl, k, hk, rfl, 9, by omega, rfl, k, hk, rfl, 9, by omega, rfl, ?_⟩
    have h := hb rfl
    unfold psh o4 at h
    dsimp only [rdA1, rdA22, rdI1, rdI2, upN_at, Nat.reduceAdd] at h ⊢
    simp only [sA_sA, sA_cm, sI_sA, sI_sI, sI_cm, sL_sA, sL_sI, sL_sL, sL_cm, Nat.reduceLT, Nat.reduceAdd] at h ⊢
    exact h
set_option maxRecDepth 100000 in
theorem v_X1_takeBack : ∀ as M post, S_X1_takeBack as M post → wsum as ≤ 2 ∧ RUN (T_X1_takeBack post) 0 (entL 2 as) [] M := by
  rintro as M post ⟨u, k, rfl, hu, hu10, hk, hk8, h⟩
  refine ⟨by show 1 ≤ 2; omega, run_wp 90 ?_⟩
  dsimp only [k_X1_takeBack_0, k_X1_takeBack_1, k_X1_takeBack_4, k_X1_takeBack_7, k_X1_takeBack_8, k_X1_takeBack_9, k_X1_takeBack_10, k_X1_takeBack_13, k_X1_takeBack_14, k_X1_takeBack_15, k_X1_takeBack_18, k_X1_takeBack_19, k_X1_takeBack_22, k_X1_takeBack_23, k_X1_takeBack_26, k_X1_takeBack_27, k_X1_takeBack_28, k_X1_takeBack_29, k_X1_takeBack_32, k_X1_takeBack_33, k_X1_takeBack_34, k_X1_takeBack_37, k_X1_takeBack_38, k_X1_takeBack_41, k_X1_takeBack_42, k_X1_takeBack_43, k_X1_takeBack_44, k_X1_takeBack_47, k_X1_takeBack_48, k_X1_takeBack_49, k_X1_takeBack_52, k_X1_takeBack_53, k_X1_takeBack_56, k_X1_takeBack_57, k_X1_takeBack_58, k_X1_takeBack_59, k_X1_takeBack_60, k_X1_takeBack_63, k_X1_takeBack_64, k_X1_takeBack_67, k_X1_takeBack_68, k_X1_takeBack_71, wp1, wp_s, cutIn, kont, Nat.reduceSub, Nat.reduceAdd, nth, o_const, o_lconst, o_ref, o_iload, o_lload, o_aload, o_istore, o_lstore, o_astore, o_iinc, o_bin, o_div, o_un, o_lbin, o_lsh, o_lcmp, o_i2l, o_l2i, o_if, o_icmp, o_goto, o_dup, o_dup2, o_pop, fav, o_getf, o_putI, o_putZ, o_putL, o_ald, o_ast, o_alen, popn, rst, o_callV, o_callT, o_callS, swx, o_sw, o_ret, o_iret, o_zret, o_cret, o_lret, o_aret, lg, lput, lput2, ls1, isL, entL, wsum, rdI1, rdI2, rdA1, rdA21, rdA22, rdL1, rdL22, rdL21, upN_at, rep, sh_0, F_0_0, F_0_1, F_0_2, F_0_3, F_0_4, F_0_5, F_0_6, F_0_7, F_0_8, sh_1, F_1_0, F_1_1, F_1_2, F_1_3, F_1_4, F_1_5, sh_3, F_3_0, F_3_1, F_3_2, F_3_3, F_3_4, F_3_5, sh_5, F_5_0, F_5_1, F_5_2, F_5_3, F_5_4, F_5_5, F_5_6, F_5_7, F_5_8, sh_12, F_12_0, F_12_1, F_12_2, F_12_3, F_12_4, F_12_5, sh_14, F_14_0, F_14_1, F_14_2, F_14_3, F_14_4, F_14_5, F_14_6, F_14_7, F_14_8, sh_21, F_21_0, F_21_1, F_21_2, F_21_3, F_21_4, F_21_5, F_21_6, F_21_7, F_21_8, sh_28, F_28_0, F_28_1, F_28_2, F_28_3, F_28_4, F_28_5, F_28_6, F_28_7, F_28_8, sh_35, F_35_0, sh_39, F_39_0, F_39_1, F_39_2, F_39_3, F_39_4, F_39_5, F_39_6, F_39_7, F_39_8, F_39_9, F_39_10, F_39_11, F_39_12, F_39_13, A_2, A_4, A_6, A_7, A_8, A_9, A_10, A_11, A_13, A_15, A_16, A_17, A_18, A_19, A_20, A_22, A_23, A_24, A_25, A_26, A_27, A_29, A_30, A_31, A_32, A_33, A_34, A_36, A_37, A_38, A_40, A_41, A_42, A_43, A_44, A_45, A_46, A_47]
  simp only [hu, show nI (u + 1) - 1 = nI u from nI_pred u]
  refine ⟨fun _ => ⟨u, hu10, rfl, u, hu10, rfl, k, hk8, hk, u, hu10, rfl, k, hk8, hk, u, hu10, rfl, h⟩, fun h1 => absurd (nI_lt (a := 0) (by omega) (by omega)) h1⟩
set_option maxRecDepth 100000 in
theorem v_X1_copyOf : ∀ as M post, S_X1_copyOf as M post → wsum as ≤ 3 ∧ RUN (T_X1_copyOf post) 0 (entL 3 as) [] M := by
  rintro as M post ⟨k, o, d, b, z, w, rfl, hk, h⟩
  refine ⟨by show 2 ≤ 3; omega, run_of [18, 56] (fun μ pc lv st M' => st = [] ∧ ((pc = 18 ∧ ∃ i, i ≤ 8 ∧ M' = sA (d - 1) (cpy (M.2.2 (d - 1)) (M.2.2 (b - 1)) i) (sA (d - 2) (cpy (M.2.2 (d - 2)) (M.2.2 (b - 2)) i) (sI (z + 1) (M.1 (w + 1)) (sI z (M.1 w) M))) ∧ μ = 30 - i ∧ lv = [some (VR k), some (VR o), some (VI (nI i))])
    ∨ (pc = 56 ∧ ∃ i, i ≤ 10 ∧ M' = o4 d (cpy (M.2.2 d) (M.2.2 b) i) (cpy (M.2.2 (d + 1)) (M.2.2 (b + 1)) i) (cpy (M.2.2 (d + 2)) (M.2.2 (b + 2)) i) (cpy (M.2.2 (d + 3)) (M.2.2 (b + 3)) i) (sA (d - 1) (cpy (M.2.2 (d - 1)) (M.2.2 (b - 1)) 8) (sA (d - 2) (cpy (M.2.2 (d - 2)) (M.2.2 (b - 2)) 8) (sI (z + 1) (M.1 (w + 1)) (sI z (M.1 w) M)))) ∧ μ = 20 - i ∧ lv = [some (VR k), some (VR o), some (VI (nI i))]))) 60 40 ?_ ?_⟩
  · rintro μ pc lv st M' ⟨rfl, ⟨rfl, i, hi, rfl, rfl, rfl⟩ | ⟨rfl, i, hi, rfl, rfl, rfl⟩⟩
    · rcases hk with ⟨rfl, rfl, rfl, rfl, rfl, rfl⟩ | ⟨rfl, rfl, rfl, rfl, rfl, rfl⟩ | ⟨rfl, rfl, rfl, rfl, rfl, rfl⟩ | ⟨rfl, rfl, rfl, rfl, rfl, rfl⟩ | ⟨rfl, rfl, rfl, rfl, rfl, rfl⟩
      all_goals
        dsimp only [k_X1_copyOf_0, k_X1_copyOf_1, k_X1_copyOf_2, k_X1_copyOf_5, k_X1_copyOf_8, k_X1_copyOf_9, k_X1_copyOf_10, k_X1_copyOf_13, k_X1_copyOf_16, k_X1_copyOf_17, k_X1_copyOf_18, k_X1_copyOf_19, k_X1_copyOf_21, k_X1_copyOf_24, k_X1_copyOf_25, k_X1_copyOf_28, k_X1_copyOf_29, k_X1_copyOf_30, k_X1_copyOf_33, k_X1_copyOf_34, k_X1_copyOf_35, k_X1_copyOf_36, k_X1_copyOf_37, k_X1_copyOf_40, k_X1_copyOf_41, k_X1_copyOf_42, k_X1_copyOf_45, k_X1_copyOf_46, k_X1_copyOf_47, k_X1_copyOf_48, k_X1_copyOf_51, k_X1_copyOf_54, k_X1_copyOf_55, k_X1_copyOf_56, k_X1_copyOf_57, k_X1_copyOf_59, k_X1_copyOf_62, k_X1_copyOf_63, k_X1_copyOf_64, k_X1_copyOf_65, k_X1_copyOf_66, k_X1_copyOf_69, k_X1_copyOf_72, k_X1_copyOf_75, wp1, wp_s, cutIn, kont, Nat.reduceSub, Nat.reduceAdd, nth, o_const, o_lconst, o_ref, o_iload, o_lload, o_aload, o_istore, o_lstore, o_astore, o_iinc, o_bin, o_div, o_un, o_lbin, o_lsh, o_lcmp, o_i2l, o_l2i, o_if, o_icmp, o_goto, o_dup, o_dup2, o_pop, fav, o_getf, o_putI, o_putZ, o_putL, o_ald, o_ast, o_alen, popn, rst, o_callV, o_callT, o_callS, swx, o_sw, o_ret, o_iret, o_zret, o_cret, o_lret, o_aret, lg, lput, lput2, ls1, isL, entL, wsum, rdI1, rdI2, rdA1, rdA21, rdA22, rdL1, rdL22, rdL21, upN_at, rep, sh_0, F_0_0, F_0_1, F_0_2, F_0_3, F_0_4, F_0_5, F_0_6, F_0_7, F_0_8, sh_1, F_1_0, F_1_1, F_1_2, F_1_3, F_1_4, F_1_5, sh_3, F_3_0, F_3_1, F_3_2, F_3_3, F_3_4, F_3_5, sh_5, F_5_0, F_5_1, F_5_2, F_5_3, F_5_4, F_5_5, F_5_6, F_5_7, F_5_8, sh_12, F_12_0, F_12_1, F_12_2, F_12_3, F_12_4, F_12_5, sh_14, F_14_0, F_14_1, F_14_2, F_14_3, F_14_4, F_14_5, F_14_6, F_14_7, F_14_8, sh_21, F_21_0, F_21_1, F_21_2, F_21_3, F_21_4, F_21_5, F_21_6, F_21_7, F_21_8, sh_28, F_28_0, F_28_1, F_28_2, F_28_3, F_28_4, F_28_5, F_28_6, F_28_7, F_28_8, sh_35, F_35_0, sh_39, F_39_0, F_39_1, F_39_2, F_39_3, F_39_4, F_39_5, F_39_6, F_39_7, F_39_8, F_39_9, F_39_10, F_39_11, F_39_12, F_39_13, A_2, A_4, A_6, A_7, A_8, A_9, A_10, A_11, A_13, A_15, A_16, A_17, A_18, A_19, A_20, A_22, A_23, A_24, A_25, A_26, A_27, A_29, A_30, A_31, A_32, A_33, A_34, A_36, A_37, A_38, A_40, A_41, A_42, A_43, A_44, A_45, A_46, A_47]
        rw [show (8 : Int32) = nI 8 from rfl]
        simp (disch := omega) only [nI_leI, nI_ltI, nI_eq, nI_1, nI_add, one_shl, nI_or, nI_xor, nI_and, bit_0, bit_1, true_or, or_true, true_and, and_true, eq_self, not_true_eq_false, not_false_eq_true, forall_const]
        refine ⟨fun h1 => cut _ _ ⟨rfl, Or.inr ⟨rfl, 0, by omega, ?_, rfl, rfl⟩⟩ (by omega) ⟨rfl, rfl, rfl, trivial⟩, fun h1 => ⟨i, by omega, rfl, i, by omega, rfl, i, by omega, rfl, i, by omega, rfl, cut _ _ ⟨rfl, Or.inl ⟨rfl, i + 1, by omega, ?_, rfl, rfl⟩⟩ (by omega) ⟨rfl, rfl, rfl, trivial⟩⟩⟩
        · rw [show i = 8 by omega]
          unfold o4
          rw [cpy_0, cpy_0, cpy_0, cpy_0]
          exact Eq.symm (Eq.trans (sA_id rfl) (Eq.trans (sA_id rfl) ((Eq.trans (sA_id rfl) (sA_id rfl)))))
        · rw [cpy_s, cpy_s]
          simp only [sA_sA, sA_cm, sI_sA, sI_sI, sI_cm, sL_sA, sL_sI, sL_sL, sL_cm, Nat.reduceLT]
    · rcases hk with ⟨rfl, rfl, rfl, rfl, rfl, rfl⟩ | ⟨rfl, rfl, rfl, rfl, rfl, rfl⟩ | ⟨rfl, rfl, rfl, rfl, rfl, rfl⟩ | ⟨rfl, rfl, rfl, rfl, rfl, rfl⟩ | ⟨rfl, rfl, rfl, rfl, rfl, rfl⟩
      all_goals
        dsimp only [k_X1_copyOf_0, k_X1_copyOf_1, k_X1_copyOf_2, k_X1_copyOf_5, k_X1_copyOf_8, k_X1_copyOf_9, k_X1_copyOf_10, k_X1_copyOf_13, k_X1_copyOf_16, k_X1_copyOf_17, k_X1_copyOf_18, k_X1_copyOf_19, k_X1_copyOf_21, k_X1_copyOf_24, k_X1_copyOf_25, k_X1_copyOf_28, k_X1_copyOf_29, k_X1_copyOf_30, k_X1_copyOf_33, k_X1_copyOf_34, k_X1_copyOf_35, k_X1_copyOf_36, k_X1_copyOf_37, k_X1_copyOf_40, k_X1_copyOf_41, k_X1_copyOf_42, k_X1_copyOf_45, k_X1_copyOf_46, k_X1_copyOf_47, k_X1_copyOf_48, k_X1_copyOf_51, k_X1_copyOf_54, k_X1_copyOf_55, k_X1_copyOf_56, k_X1_copyOf_57, k_X1_copyOf_59, k_X1_copyOf_62, k_X1_copyOf_63, k_X1_copyOf_64, k_X1_copyOf_65, k_X1_copyOf_66, k_X1_copyOf_69, k_X1_copyOf_72, k_X1_copyOf_75, wp1, wp_s, cutIn, kont, Nat.reduceSub, Nat.reduceAdd, nth, o_const, o_lconst, o_ref, o_iload, o_lload, o_aload, o_istore, o_lstore, o_astore, o_iinc, o_bin, o_div, o_un, o_lbin, o_lsh, o_lcmp, o_i2l, o_l2i, o_if, o_icmp, o_goto, o_dup, o_dup2, o_pop, fav, o_getf, o_putI, o_putZ, o_putL, o_ald, o_ast, o_alen, popn, rst, o_callV, o_callT, o_callS, swx, o_sw, o_ret, o_iret, o_zret, o_cret, o_lret, o_aret, lg, lput, lput2, ls1, isL, entL, wsum, rdI1, rdI2, rdA1, rdA21, rdA22, rdL1, rdL22, rdL21, upN_at, rep, sh_0, F_0_0, F_0_1, F_0_2, F_0_3, F_0_4, F_0_5, F_0_6, F_0_7, F_0_8, sh_1, F_1_0, F_1_1, F_1_2, F_1_3, F_1_4, F_1_5, sh_3, F_3_0, F_3_1, F_3_2, F_3_3, F_3_4, F_3_5, sh_5, F_5_0, F_5_1, F_5_2, F_5_3, F_5_4, F_5_5, F_5_6, F_5_7, F_5_8, sh_12, F_12_0, F_12_1, F_12_2, F_12_3, F_12_4, F_12_5, sh_14, F_14_0, F_14_1, F_14_2, F_14_3, F_14_4, F_14_5, F_14_6, F_14_7, F_14_8, sh_21, F_21_0, F_21_1, F_21_2, F_21_3, F_21_4, F_21_5, F_21_6, F_21_7, F_21_8, sh_28, F_28_0, F_28_1, F_28_2, F_28_3, F_28_4, F_28_5, F_28_6, F_28_7, F_28_8, sh_35, F_35_0, sh_39, F_39_0, F_39_1, F_39_2, F_39_3, F_39_4, F_39_5, F_39_6, F_39_7, F_39_8, F_39_9, F_39_10, F_39_11, F_39_12, F_39_13, A_2, A_4, A_6, A_7, A_8, A_9, A_10, A_11, A_13, A_15, A_16, A_17, A_18, A_19, A_20, A_22, A_23, A_24, A_25, A_26, A_27, A_29, A_30, A_31, A_32, A_33, A_34, A_36, A_37, A_38, A_40, A_41, A_42, A_43, A_44, A_45, A_46, A_47]
        rw [show (10 : Int32) = nI 10 from rfl]
        simp (disch := omega) only [nI_leI, nI_ltI, nI_eq, nI_1, nI_add, one_shl, nI_or, nI_xor, nI_and, bit_0, bit_1, true_or, or_true, true_and, and_true, eq_self, not_true_eq_false, not_false_eq_true, forall_const]
        refine ⟨fun h1 => ?_, fun h1 => ?_⟩
        · have e : i = 10 := by omega
          subst e
          exact h
        · refine ⟨_, _, _, _, i, i, rfl, by omega, by omega, (by first | exact Or.inl ⟨rfl, rfl⟩ | exact Or.inr (Or.inl ⟨rfl, rfl⟩) | exact Or.inr (Or.inr ⟨rfl, rfl⟩)), (by first | exact Or.inl ⟨rfl, rfl⟩ | exact Or.inr (Or.inl ⟨rfl, rfl⟩) | exact Or.inr (Or.inr (Or.inl ⟨rfl, rfl⟩)) | exact Or.inr (Or.inr (Or.inr ⟨rfl, rfl⟩))), ?_⟩
          dsimp only [k_X1_copyOf_0, k_X1_copyOf_1, k_X1_copyOf_2, k_X1_copyOf_5, k_X1_copyOf_8, k_X1_copyOf_9, k_X1_copyOf_10, k_X1_copyOf_13, k_X1_copyOf_16, k_X1_copyOf_17, k_X1_copyOf_18, k_X1_copyOf_19, k_X1_copyOf_21, k_X1_copyOf_24, k_X1_copyOf_25, k_X1_copyOf_28, k_X1_copyOf_29, k_X1_copyOf_30, k_X1_copyOf_33, k_X1_copyOf_34, k_X1_copyOf_35, k_X1_copyOf_36, k_X1_copyOf_37, k_X1_copyOf_40, k_X1_copyOf_41, k_X1_copyOf_42, k_X1_copyOf_45, k_X1_copyOf_46, k_X1_copyOf_47, k_X1_copyOf_48, k_X1_copyOf_51, k_X1_copyOf_54, k_X1_copyOf_55, k_X1_copyOf_56, k_X1_copyOf_57, k_X1_copyOf_59, k_X1_copyOf_62, k_X1_copyOf_63, k_X1_copyOf_64, k_X1_copyOf_65, k_X1_copyOf_66, k_X1_copyOf_69, k_X1_copyOf_72, k_X1_copyOf_75, wp1, wp_s, cutIn, kont, Nat.reduceSub, Nat.reduceAdd, nth, o_const, o_lconst, o_ref, o_iload, o_lload, o_aload, o_istore, o_lstore, o_astore, o_iinc, o_bin, o_div, o_un, o_lbin, o_lsh, o_lcmp, o_i2l, o_l2i, o_if, o_icmp, o_goto, o_dup, o_dup2, o_pop, fav, o_getf, o_putI, o_putZ, o_putL, o_ald, o_ast, o_alen, popn, rst, o_callV, o_callT, o_callS, swx, o_sw, o_ret, o_iret, o_zret, o_cret, o_lret, o_aret, lg, lput, lput2, ls1, isL, entL, wsum, rdI1, rdI2, rdA1, rdA21, rdA22, rdL1, rdL22, rdL21, upN_at, rep, sh_0, F_0_0, F_0_1, F_0_2, F_0_3, F_0_4, F_0_5, F_0_6, F_0_7, F_0_8, sh_1, F_1_0, F_1_1, F_1_2, F_1_3, F_1_4, F_1_5, sh_3, F_3_0, F_3_1, F_3_2, F_3_3, F_3_4, F_3_5, sh_5, F_5_0, F_5_1, F_5_2, F_5_3, F_5_4, F_5_5, F_5_6, F_5_7, F_5_8, sh_12, F_12_0, F_12_1, F_12_2, F_12_3, F_12_4, F_12_5, sh_14, F_14_0, F_14_1, F_14_2, F_14_3, F_14_4, F_14_5, F_14_6, F_14_7, F_14_8, sh_21, F_21_0, F_21_1, F_21_2, F_21_3, F_21_4, F_21_5, F_21_6, F_21_7, F_21_8, sh_28, F_28_0, F_28_1, F_28_2, F_28_3, F_28_4, F_28_5, F_28_6, F_28_7, F_28_8, sh_35, F_35_0, sh_39, F_39_0, F_39_1, F_39_2, F_39_3, F_39_4, F_39_5, F_39_6, F_39_7, F_39_8, F_39_9, F_39_10, F_39_11, F_39_12, F_39_13, A_2, A_4, A_6, A_7, A_8, A_9, A_10, A_11, A_13, A_15, A_16, A_17, A_18, A_19, A_20, A_22, A_23, A_24, A_25, A_26, A_27, A_29, A_30, A_31, A_32, A_33, A_34, A_36, A_37, A_38, A_40, A_41, A_42, A_43, A_44, A_45, A_46, A_47]
          refine cut _ _ ⟨rfl, Or.inr ⟨rfl, i + 1, by omega, ?_, rfl, rfl⟩⟩ (by omega) ⟨rfl, rfl, vi_eq (nI_1 _), trivial⟩
          unfold o4
          dsimp only [rdI1, rdI2, rdA1, rdA21, rdA22, rdL1, rdL22, rdL21, upN_at, Nat.reduceAdd, Nat.reduceSub]
          rw [cpy_s, cpy_s, cpy_s, cpy_s]
          simp only [sA_sA, sA_cm, sI_sA, sI_sI, sI_cm, sL_sA, sL_sI, sL_sL, sL_cm, Nat.reduceLT]
  · rcases hk with ⟨rfl, rfl, rfl, rfl, rfl, rfl⟩ | ⟨rfl, rfl, rfl, rfl, rfl, rfl⟩ | ⟨rfl, rfl, rfl, rfl, rfl, rfl⟩ | ⟨rfl, rfl, rfl, rfl, rfl, rfl⟩ | ⟨rfl, rfl, rfl, rfl, rfl, rfl⟩
    all_goals
      dsimp only [k_X1_copyOf_0, k_X1_copyOf_1, k_X1_copyOf_2, k_X1_copyOf_5, k_X1_copyOf_8, k_X1_copyOf_9, k_X1_copyOf_10, k_X1_copyOf_13, k_X1_copyOf_16, k_X1_copyOf_17, k_X1_copyOf_18, k_X1_copyOf_19, k_X1_copyOf_21, k_X1_copyOf_24, k_X1_copyOf_25, k_X1_copyOf_28, k_X1_copyOf_29, k_X1_copyOf_30, k_X1_copyOf_33, k_X1_copyOf_34, k_X1_copyOf_35, k_X1_copyOf_36, k_X1_copyOf_37, k_X1_copyOf_40, k_X1_copyOf_41, k_X1_copyOf_42, k_X1_copyOf_45, k_X1_copyOf_46, k_X1_copyOf_47, k_X1_copyOf_48, k_X1_copyOf_51, k_X1_copyOf_54, k_X1_copyOf_55, k_X1_copyOf_56, k_X1_copyOf_57, k_X1_copyOf_59, k_X1_copyOf_62, k_X1_copyOf_63, k_X1_copyOf_64, k_X1_copyOf_65, k_X1_copyOf_66, k_X1_copyOf_69, k_X1_copyOf_72, k_X1_copyOf_75, wp1, wp_s, cutIn, kont, Nat.reduceSub, Nat.reduceAdd, nth, o_const, o_lconst, o_ref, o_iload, o_lload, o_aload, o_istore, o_lstore, o_astore, o_iinc, o_bin, o_div, o_un, o_lbin, o_lsh, o_lcmp, o_i2l, o_l2i, o_if, o_icmp, o_goto, o_dup, o_dup2, o_pop, fav, o_getf, o_putI, o_putZ, o_putL, o_ald, o_ast, o_alen, popn, rst, o_callV, o_callT, o_callS, swx, o_sw, o_ret, o_iret, o_zret, o_cret, o_lret, o_aret, lg, lput, lput2, ls1, isL, entL, wsum, rdI1, rdI2, rdA1, rdA21, rdA22, rdL1, rdL22, rdL21, upN_at, rep, sh_0, F_0_0, F_0_1, F_0_2, F_0_3, F_0_4, F_0_5, F_0_6, F_0_7, F_0_8, sh_1, F_1_0, F_1_1, F_1_2, F_1_3, F_1_4, F_1_5, sh_3, F_3_0, F_3_1, F_3_2, F_3_3, F_3_4, F_3_5, sh_5, F_5_0, F_5_1, F_5_2, F_5_3, F_5_4, F_5_5, F_5_6, F_5_7, F_5_8, sh_12, F_12_0, F_12_1, F_12_2, F_12_3, F_12_4, F_12_5, sh_14, F_14_0, F_14_1, F_14_2, F_14_3, F_14_4, F_14_5, F_14_6, F_14_7, F_14_8, sh_21, F_21_0, F_21_1, F_21_2, F_21_3, F_21_4, F_21_5, F_21_6, F_21_7, F_21_8, sh_28, F_28_0, F_28_1, F_28_2, F_28_3, F_28_4, F_28_5, F_28_6, F_28_7, F_28_8, sh_35, F_35_0, sh_39, F_39_0, F_39_1, F_39_2, F_39_3, F_39_4, F_39_5, F_39_6, F_39_7, F_39_8, F_39_9, F_39_10, F_39_11, F_39_12, F_39_13, A_2, A_4, A_6, A_7, A_8, A_9, A_10, A_11, A_13, A_15, A_16, A_17, A_18, A_19, A_20, A_22, A_23, A_24, A_25, A_26, A_27, A_29, A_30, A_31, A_32, A_33, A_34, A_36, A_37, A_38, A_40, A_41, A_42, A_43, A_44, A_45, A_46, A_47]
      refine cut _ _ ⟨rfl, Or.inl ⟨rfl, 0, by omega, ?_, rfl, rfl⟩⟩ (by omega) ⟨rfl, rfl, rfl, trivial⟩
      rw [cpy_0, cpy_0]
      exact Eq.symm (Eq.trans (sA_id rfl) (sA_id rfl))
theorem c_X1_remember : Ctr yX1_remember cX1_remember 2 none ({ frames := 2, cells := 0, slots := 0, locals := 44 } : Room) S_X1_remember := ctr_of (T := T_X1_remember) (by decide +kernel) (fun post C hr => t_X1_remember post C hr) v_X1_remember
theorem c_X1_takeBack : Ctr yX1_takeBack cX1_takeBack 2 none ({ frames := 0, cells := 0, slots := 0, locals := 0 } : Room) S_X1_takeBack := ctr_of (T := T_X1_takeBack) (by decide +kernel) (fun post C hr => t_X1_takeBack post C hr) v_X1_takeBack
theorem c_X1_copyOf : Ctr yX1_copyOf cX1_copyOf 3 none ({ frames := 1, cells := 0, slots := 0, locals := 23 } : Room) S_X1_copyOf := ctr_of (T := T_X1_copyOf) (by decide +kernel) (fun post C hr => t_X1_copyOf post C hr) v_X1_copyOf
