/-! The class's wishes, what is wanting. -/
/-- bars: 1 for the rows below i that differ from v by a row of the span -/
def brf (B : Nat → Nat) (v : Nat) (F : Nat → Int32) (i : Nat) : Nat → Int32 := fun j => if j < i ∧ rs B j 9 = rs B v 9 then 1 else F j
def S_X4_barRowsOfSpan : SP := fun as M post => ∃ v B, as = [VR 0, VI (nI v)] ∧ v < 512 ∧ isB M B ∧ post none (sA 28 (brf B v (M.2.2 28) 512) M)
theorem cw_RX4_224 : ∀ w ∈ ([.methodLink RX4 224 yX2_rest, .instanceMethod yX2_rest, .selects yX2_rest.cls yX2_rest yX2_rest, .initialized yX2_rest.cls, .code yX2_rest cX2_rest 4 (some .int)] : List Cond), w ∈ tb := tb_all [524, 462, 463, 58, 464] (by decide +kernel) (by decide +kernel)
theorem fl_RX4_43 : Cond.fieldLink RX4 43 (TX4 6).1 (TX4 6).2.1 (TX4 6).2.2.1 ∈ tb := tb_of 191 (by decide +kernel) (by decide +kernel)
theorem dX4_barRowsOfSpan_0 : decode cX4_barRowsOfSpan 0 = .ok (.aload_n 0, 1) := by decide +kernel
theorem dX4_barRowsOfSpan_1 : decode cX4_barRowsOfSpan 1 = .ok (.getfield 39, 3) := by decide +kernel
theorem dX4_barRowsOfSpan_4 : decode cX4_barRowsOfSpan 4 = .ok (.iload_n 1, 1) := by decide +kernel
theorem dX4_barRowsOfSpan_5 : decode cX4_barRowsOfSpan 5 = .ok (.invokevirtual 224, 3) := by decide +kernel
theorem dX4_barRowsOfSpan_8 : decode cX4_barRowsOfSpan 8 = .ok (.istore_n 2, 1) := by decide +kernel
theorem dX4_barRowsOfSpan_9 : decode cX4_barRowsOfSpan 9 = .ok (.iconst 0, 1) := by decide +kernel
theorem dX4_barRowsOfSpan_10 : decode cX4_barRowsOfSpan 10 = .ok (.istore_n 3, 1) := by decide +kernel
theorem dX4_barRowsOfSpan_11 : decode cX4_barRowsOfSpan 11 = .ok (.iload_n 3, 1) := by decide +kernel
theorem dX4_barRowsOfSpan_12 : decode cX4_barRowsOfSpan 12 = .ok (.sipush 512, 3) := by decide +kernel
theorem dX4_barRowsOfSpan_15 : decode cX4_barRowsOfSpan 15 = .ok (.if_icmp .ge 28, 3) := by decide +kernel
theorem dX4_barRowsOfSpan_18 : decode cX4_barRowsOfSpan 18 = .ok (.aload_n 0, 1) := by decide +kernel
theorem dX4_barRowsOfSpan_19 : decode cX4_barRowsOfSpan 19 = .ok (.getfield 39, 3) := by decide +kernel
theorem dX4_barRowsOfSpan_22 : decode cX4_barRowsOfSpan 22 = .ok (.iload_n 3, 1) := by decide +kernel
theorem dX4_barRowsOfSpan_23 : decode cX4_barRowsOfSpan 23 = .ok (.invokevirtual 224, 3) := by decide +kernel
theorem dX4_barRowsOfSpan_26 : decode cX4_barRowsOfSpan 26 = .ok (.iload_n 2, 1) := by decide +kernel
theorem dX4_barRowsOfSpan_27 : decode cX4_barRowsOfSpan 27 = .ok (.if_icmp .ne 10, 3) := by decide +kernel
theorem dX4_barRowsOfSpan_30 : decode cX4_barRowsOfSpan 30 = .ok (.aload_n 0, 1) := by decide +kernel
theorem dX4_barRowsOfSpan_31 : decode cX4_barRowsOfSpan 31 = .ok (.getfield 43, 3) := by decide +kernel
theorem dX4_barRowsOfSpan_34 : decode cX4_barRowsOfSpan 34 = .ok (.iload_n 3, 1) := by decide +kernel
theorem dX4_barRowsOfSpan_35 : decode cX4_barRowsOfSpan 35 = .ok (.iconst 1, 1) := by decide +kernel
theorem dX4_barRowsOfSpan_36 : decode cX4_barRowsOfSpan 36 = .ok (.bastore, 1) := by decide +kernel
theorem dX4_barRowsOfSpan_37 : decode cX4_barRowsOfSpan 37 = .ok (.iinc 3 1, 3) := by decide +kernel
theorem dX4_barRowsOfSpan_40 : decode cX4_barRowsOfSpan 40 = .ok (.goto (-29), 3) := by decide +kernel
theorem dX4_barRowsOfSpan_43 : decode cX4_barRowsOfSpan 43 = .ok (.return_, 1) := by decide +kernel
def T_X4_barRowsOfSpan (post : PO) : List (Nat × OP) := [(0, o_aload 0 1), (1, o_getf 4 5 4), (4, o_iload 1 5), (5, o_callV 2 S_X2_rest 1 8), (8, o_istore 2 9), (9, o_const 0 10), (10, o_istore 3 11), (11, o_iload 3 12), (12, o_const 512 15), (15, o_icmp (fun x y => y ≤ x) 43 18), (18, o_aload 0 19), (19, o_getf 4 5 22), (22, o_iload 3 23), (23, o_callV 2 S_X2_rest 1 26), (26, o_iload 2 27), (27, o_icmp (fun x y => x = y) 30 37), (30, o_aload 0 31), (31, o_getf 4 6 34), (34, o_iload 3 35), (35, o_const 1 36), (36, o_ast 2 (vp_nar .boolean) 37), (37, o_iinc 3 1 40), (40, o_goto 11), (43, o_ret post)]
theorem k_X4_barRowsOfSpan_0 (post : PO) : lk (T_X4_barRowsOfSpan post) 0 = o_aload 0 1 := rfl
theorem k_X4_barRowsOfSpan_1 (post : PO) : lk (T_X4_barRowsOfSpan post) 1 = o_getf 4 5 4 := rfl
theorem k_X4_barRowsOfSpan_4 (post : PO) : lk (T_X4_barRowsOfSpan post) 4 = o_iload 1 5 := rfl
theorem k_X4_barRowsOfSpan_5 (post : PO) : lk (T_X4_barRowsOfSpan post) 5 = o_callV 2 S_X2_rest 1 8 := rfl
theorem k_X4_barRowsOfSpan_8 (post : PO) : lk (T_X4_barRowsOfSpan post) 8 = o_istore 2 9 := rfl
theorem k_X4_barRowsOfSpan_9 (post : PO) : lk (T_X4_barRowsOfSpan post) 9 = o_const 0 10 := rfl
theorem k_X4_barRowsOfSpan_10 (post : PO) : lk (T_X4_barRowsOfSpan post) 10 = o_istore 3 11 := rfl
theorem k_X4_barRowsOfSpan_11 (post : PO) : lk (T_X4_barRowsOfSpan post) 11 = o_iload 3 12 := rfl
theorem k_X4_barRowsOfSpan_12 (post : PO) : lk (T_X4_barRowsOfSpan post) 12 = o_const 512 15 := rfl
theorem k_X4_barRowsOfSpan_15 (post : PO) : lk (T_X4_barRowsOfSpan post) 15 = o_icmp (fun x y => y ≤ x) 43 18 := rfl
theorem k_X4_barRowsOfSpan_18 (post : PO) : lk (T_X4_barRowsOfSpan post) 18 = o_aload 0 19 := rfl
theorem k_X4_barRowsOfSpan_19 (post : PO) : lk (T_X4_barRowsOfSpan post) 19 = o_getf 4 5 22 := rfl
theorem k_X4_barRowsOfSpan_22 (post : PO) : lk (T_X4_barRowsOfSpan post) 22 = o_iload 3 23 := rfl
theorem k_X4_barRowsOfSpan_23 (post : PO) : lk (T_X4_barRowsOfSpan post) 23 = o_callV 2 S_X2_rest 1 26 := rfl
theorem k_X4_barRowsOfSpan_26 (post : PO) : lk (T_X4_barRowsOfSpan post) 26 = o_iload 2 27 := rfl
theorem k_X4_barRowsOfSpan_27 (post : PO) : lk (T_X4_barRowsOfSpan post) 27 = o_icmp (fun x y => x = y) 30 37 := rfl
theorem k_X4_barRowsOfSpan_30 (post : PO) : lk (T_X4_barRowsOfSpan post) 30 = o_aload 0 31 := rfl
theorem k_X4_barRowsOfSpan_31 (post : PO) : lk (T_X4_barRowsOfSpan post) 31 = o_getf 4 6 34 := rfl
theorem k_X4_barRowsOfSpan_34 (post : PO) : lk (T_X4_barRowsOfSpan post) 34 = o_iload 3 35 := rfl
theorem k_X4_barRowsOfSpan_35 (post : PO) : lk (T_X4_barRowsOfSpan post) 35 = o_const 1 36 := rfl
theorem k_X4_barRowsOfSpan_36 (post : PO) : lk (T_X4_barRowsOfSpan post) 36 = o_ast 2 (vp_nar .boolean) 37 := rfl
theorem k_X4_barRowsOfSpan_37 (post : PO) : lk (T_X4_barRowsOfSpan post) 37 = o_iinc 3 1 40 := rfl
theorem k_X4_barRowsOfSpan_40 (post : PO) : lk (T_X4_barRowsOfSpan post) 40 = o_goto 11 := rfl
theorem k_X4_barRowsOfSpan_43 (post : PO) : lk (T_X4_barRowsOfSpan post) 43 = o_ret post := rfl
set_option maxRecDepth 100000 in
theorem t_X4_barRowsOfSpan {p : Program} {l : Launch} {e : Env} {s : State} {m : MethodId} {args : Array Value} {below : List Frame} {meth : Method} {c : Code} {D : va_G} {dA : Nat → ClassId} {ad : Nat → Nat} (post : PO) (C : CX p s m args meth c cX4_barRowsOfSpan 4 yX4_barRowsOfSpan.cls D dA ad (AA ad s.heap.size)) (hr : meth.sig.returnType = none) : SndL (WW p l e ({ frames := 1, cells := 0, slots := 0, locals := 23 } : Room) s m args below meth c 0 0 (MQ below (CQ D dA ad post (AA ad s.heap.size)) args s 0 0 (AA ad s.heap.size)) 4 D dA ad (AA ad s.heap.size)) (T_X4_barRowsOfSpan post) := by
  refine snd_c (s_aload_n C rfl dX4_barRowsOfSpan_0) ?_
  refine snd_c (s_getf C (ci := 4) (j := 5) (T := TX4) rfl inX4 (by decide) fl_RX4_39 dX4_barRowsOfSpan_1) ?_
  refine snd_c (s_iload_n C rfl dX4_barRowsOfSpan_4) ?_
  refine snd_c (s_callV C (ci := 2) c_X2_rest rfl cw_RX4_224 ⟨rfl, rfl⟩ ⟨by decide +kernel, by decide +kernel, by decide +kernel⟩ ⟨by decide, by decide⟩ ⟨Nat.zero_le _, Nat.zero_le _⟩ dX4_barRowsOfSpan_5) ?_
  refine snd_c (s_istore_n C rfl (by decide) dX4_barRowsOfSpan_8) ?_
  refine snd_c (s_iconst C dX4_barRowsOfSpan_9 rfl) ?_
  refine snd_c (s_istore_n C rfl (by decide) dX4_barRowsOfSpan_10) ?_
  refine snd_c (s_iload_n C rfl dX4_barRowsOfSpan_11) ?_
  refine snd_c (s_sipush C dX4_barRowsOfSpan_12 rfl) ?_
  refine snd_c (s_icmp_ge C dX4_barRowsOfSpan_15 (by decide)) ?_
  refine snd_c (s_aload_n C rfl dX4_barRowsOfSpan_18) ?_
  refine snd_c (s_getf C (ci := 4) (j := 5) (T := TX4) rfl inX4 (by decide) fl_RX4_39 dX4_barRowsOfSpan_19) ?_
  refine snd_c (s_iload_n C rfl dX4_barRowsOfSpan_22) ?_
  refine snd_c (s_callV C (ci := 2) c_X2_rest rfl cw_RX4_224 ⟨rfl, rfl⟩ ⟨by decide +kernel, by decide +kernel, by decide +kernel⟩ ⟨by decide, by decide⟩ ⟨Nat.zero_le _, Nat.zero_le _⟩ dX4_barRowsOfSpan_23) ?_
  refine snd_c (s_iload_n C rfl dX4_barRowsOfSpan_26) ?_
  refine snd_c (s_icmp_ne C dX4_barRowsOfSpan_27 (by decide)) ?_
  refine snd_c (s_aload_n C rfl dX4_barRowsOfSpan_30) ?_
  refine snd_c (s_getf C (ci := 4) (j := 6) (T := TX4) rfl inX4 (by decide) fl_RX4_43 dX4_barRowsOfSpan_31) ?_
  refine snd_c (s_iload_n C rfl dX4_barRowsOfSpan_34) ?_
  refine snd_c (s_iconst C dX4_barRowsOfSpan_35 rfl) ?_
  refine snd_c (s_bast2 C dX4_barRowsOfSpan_36) ?_
  refine snd_c (s_iinc C (by decide) rfl dX4_barRowsOfSpan_37) ?_
  refine snd_c (s_goto C dX4_barRowsOfSpan_40 (by decide)) ?_
  refine snd_c (s_ret C hr dX4_barRowsOfSpan_43) ?_
  exact trivial
theorem brf_s0 {B : Nat → Nat} {v i : Nat} {F : Nat → Int32} (h : ¬ rs B i 9 = rs B v 9) : brf B v F (i + 1) = brf B v F i := by
  funext j
  unfold brf
  by_cases hj : j = i
  · subst hj; simp [h]
  · by_cases hj2 : j < i
    · simp [hj2, show j < i + 1 by omega]
    · simp [hj2, show ¬ j < i + 1 by omega]
theorem brf_s1 {B : Nat → Nat} {v i : Nat} {F : Nat → Int32} (h : rs B i 9 = rs B v 9) : upd (brf B v F i) i 1 = brf B v F (i + 1) := by
  funext j
  unfold brf upd
  by_cases hj : j = i
  · subst hj; simp [h]
  · by_cases hj2 : j < i
    · simp [hj, hj2, show j < i + 1 by omega]
    · simp [hj, hj2, show ¬ j < i + 1 by omega]
set_option maxRecDepth 100000 in
theorem v_X4_barRowsOfSpan : ∀ as M post, S_X4_barRowsOfSpan as M post → wsum as ≤ 4 ∧ RUN (T_X4_barRowsOfSpan post) 0 (entL 4 as) [] M := by
  rintro as M post ⟨v, B, rfl, hv, hB, h⟩
  have hlt := fun w hw => rs_lt (fun j hj => (hB j hj).2) 9 (Nat.le_refl 9) w hw
  have hvl := hlt v hv
  refine ⟨by show 2 ≤ 4; omega, run_of [11] (fun μ pc lv st M' => pc = 11 ∧ st = [] ∧ ∃ i, i ≤ 512 ∧ M' = sA 28 (brf B v (M.2.2 28) i) M ∧ 1000 - i = μ ∧ lv = [some (VR 0), some (VI (nI v)), some (VI (nI (rs B v 9))), some (VI (nI i))]) 40 2000 ?_ ?_⟩
  · rintro μ pc lv st M' ⟨rfl, rfl, i, hi, rfl, rfl, rfl⟩
    dsimp only [k_X4_barRowsOfSpan_0, k_X4_barRowsOfSpan_1, k_X4_barRowsOfSpan_4, k_X4_barRowsOfSpan_5, k_X4_barRowsOfSpan_8, k_X4_barRowsOfSpan_9, k_X4_barRowsOfSpan_10, k_X4_barRowsOfSpan_11, k_X4_barRowsOfSpan_12, k_X4_barRowsOfSpan_15, k_X4_barRowsOfSpan_18, k_X4_barRowsOfSpan_19, k_X4_barRowsOfSpan_22, k_X4_barRowsOfSpan_23, k_X4_barRowsOfSpan_26, k_X4_barRowsOfSpan_27, k_X4_barRowsOfSpan_30, k_X4_barRowsOfSpan_31, k_X4_barRowsOfSpan_34, k_X4_barRowsOfSpan_35, k_X4_barRowsOfSpan_36, k_X4_barRowsOfSpan_37, k_X4_barRowsOfSpan_40, k_X4_barRowsOfSpan_43, wp1, wp_s, cutIn, kont, Nat.reduceSub, Nat.reduceAdd, nth, o_const, o_lconst, o_ref, o_iload, o_lload, o_aload, o_istore, o_lstore, o_astore, o_iinc, o_bin, o_div, o_un, o_lbin, o_lsh, o_lcmp, o_i2l, o_l2i, o_if, o_icmp, o_goto, o_dup, o_dup2, o_pop, fav, o_getf, o_putI, o_putZ, o_putL, o_ald, o_ast, o_alen, popn, rst, o_callV, o_callT, o_callS, swx, o_sw, o_ret, o_iret, o_zret, o_cret, o_lret, o_aret, lg, lput, lput2, ls1, isL, entL, wsum, rdI1, rdI2, rdA1, rdA21, rdA22, rdL1, rdL22, rdL21, upN_at, rep, sh_0, F_0_0, F_0_1, F_0_2, F_0_3, F_0_4, F_0_5, F_0_6, F_0_7, F_0_8, sh_1, F_1_0, F_1_1, F_1_2, F_1_3, F_1_4, F_1_5, sh_3, F_3_0, F_3_1, F_3_2, F_3_3, F_3_4, F_3_5, sh_5, F_5_0, F_5_1, F_5_2, F_5_3, F_5_4, F_5_5, F_5_6, F_5_7, F_5_8, sh_12, F_12_0, F_12_1, F_12_2, F_12_3, F_12_4, F_12_5, sh_14, F_14_0, F_14_1, F_14_2, F_14_3, F_14_4, F_14_5, F_14_6, F_14_7, F_14_8, sh_21, F_21_0, F_21_1, F_21_2, F_21_3, F_21_4, F_21_5, F_21_6, F_21_7, F_21_8, sh_28, F_28_0, F_28_1, F_28_2, F_28_3, F_28_4, F_28_5, F_28_6, F_28_7, F_28_8, sh_35, F_35_0, sh_39, F_39_0, F_39_1, F_39_2, F_39_3, F_39_4, F_39_5, F_39_6, F_39_7, F_39_8, F_39_9, F_39_10, F_39_11, F_39_12, F_39_13, A_2, A_4, A_6, A_7, A_8, A_9, A_10, A_11, A_13, A_15, A_16, A_17, A_18, A_19, A_20, A_22, A_23, A_24, A_25, A_26, A_27, A_29, A_30, A_31, A_32, A_33, A_34, A_36, A_37, A_38, A_40, A_41, A_42, A_43, A_44, A_45, A_46, A_47]
    rw [show (512 : Int32) = nI 512 from rfl]
    simp (disch := omega) only [nI_leI, nI_ltI, nI_eq, nI_1, nI_add, one_shl, nI_or, nI_xor, nI_and, bit_0, bit_1, true_or, or_true, true_and, and_true, eq_self, not_true_eq_false, not_false_eq_true, forall_const]
    refine ⟨fun z => ?_, fun z => ⟨i, B, rfl, by omega, hB, ?_⟩⟩
    · rw [show i = 512 by omega]; exact h
    · have hil := hlt i (by omega)
      dsimp only [k_X4_barRowsOfSpan_0, k_X4_barRowsOfSpan_1, k_X4_barRowsOfSpan_4, k_X4_barRowsOfSpan_5, k_X4_barRowsOfSpan_8, k_X4_barRowsOfSpan_9, k_X4_barRowsOfSpan_10, k_X4_barRowsOfSpan_11, k_X4_barRowsOfSpan_12, k_X4_barRowsOfSpan_15, k_X4_barRowsOfSpan_18, k_X4_barRowsOfSpan_19, k_X4_barRowsOfSpan_22, k_X4_barRowsOfSpan_23, k_X4_barRowsOfSpan_26, k_X4_barRowsOfSpan_27, k_X4_barRowsOfSpan_30, k_X4_barRowsOfSpan_31, k_X4_barRowsOfSpan_34, k_X4_barRowsOfSpan_35, k_X4_barRowsOfSpan_36, k_X4_barRowsOfSpan_37, k_X4_barRowsOfSpan_40, k_X4_barRowsOfSpan_43, wp1, wp_s, cutIn, kont, Nat.reduceSub, Nat.reduceAdd, nth, o_const, o_lconst, o_ref, o_iload, o_lload, o_aload, o_istore, o_lstore, o_astore, o_iinc, o_bin, o_div, o_un, o_lbin, o_lsh, o_lcmp, o_i2l, o_l2i, o_if, o_icmp, o_goto, o_dup, o_dup2, o_pop, fav, o_getf, o_putI, o_putZ, o_putL, o_ald, o_ast, o_alen, popn, rst, o_callV, o_callT, o_callS, swx, o_sw, o_ret, o_iret, o_zret, o_cret, o_lret, o_aret, lg, lput, lput2, ls1, isL, entL, wsum, rdI1, rdI2, rdA1, rdA21, rdA22, rdL1, rdL22, rdL21, upN_at, rep, sh_0, F_0_0, F_0_1, F_0_2, F_0_3, F_0_4, F_0_5, F_0_6, F_0_7, F_0_8, sh_1, F_1_0, F_1_1, F_1_2, F_1_3, F_1_4, F_1_5, sh_3, F_3_0, F_3_1, F_3_2, F_3_3, F_3_4, F_3_5, sh_5, F_5_0, F_5_1, F_5_2, F_5_3, F_5_4, F_5_5, F_5_6, F_5_7, F_5_8, sh_12, F_12_0, F_12_1, F_12_2, F_12_3, F_12_4, F_12_5, sh_14, F_14_0, F_14_1, F_14_2, F_14_3, F_14_4, F_14_5, F_14_6, F_14_7, F_14_8, sh_21, F_21_0, F_21_1, F_21_2, F_21_3, F_21_4, F_21_5, F_21_6, F_21_7, F_21_8, sh_28, F_28_0, F_28_1, F_28_2, F_28_3, F_28_4, F_28_5, F_28_6, F_28_7, F_28_8, sh_35, F_35_0, sh_39, F_39_0, F_39_1, F_39_2, F_39_3, F_39_4, F_39_5, F_39_6, F_39_7, F_39_8, F_39_9, F_39_10, F_39_11, F_39_12, F_39_13, A_2, A_4, A_6, A_7, A_8, A_9, A_10, A_11, A_13, A_15, A_16, A_17, A_18, A_19, A_20, A_22, A_23, A_24, A_25, A_26, A_27, A_29, A_30, A_31, A_32, A_33, A_34, A_36, A_37, A_38, A_40, A_41, A_42, A_43, A_44, A_45, A_46, A_47]
      simp (disch := omega) only [nI_leI, nI_ltI, nI_eq, nI_1, nI_add, one_shl, nI_or, nI_xor, nI_and, bit_0, bit_1, true_or, or_true, true_and, and_true, eq_self, not_true_eq_false, not_false_eq_true, forall_const]
      refine ⟨fun z2 => ⟨i, by omega, rfl, cut _ _ ⟨rfl, rfl, i + 1, by omega, ?_, rfl, rfl⟩ (by omega) ⟨rfl, rfl, rfl, rfl, trivial⟩⟩, fun z2 => cut _ _ ⟨rfl, rfl, i + 1, by omega, ?_, rfl, rfl⟩ (by omega) ⟨rfl, rfl, rfl, rfl, trivial⟩⟩
      · rw [sA_sA, ← brf_s1 z2]; rfl
      · rw [brf_s0 z2]
  · dsimp only [k_X4_barRowsOfSpan_0, k_X4_barRowsOfSpan_1, k_X4_barRowsOfSpan_4, k_X4_barRowsOfSpan_5, k_X4_barRowsOfSpan_8, k_X4_barRowsOfSpan_9, k_X4_barRowsOfSpan_10, k_X4_barRowsOfSpan_11, k_X4_barRowsOfSpan_12, k_X4_barRowsOfSpan_15, k_X4_barRowsOfSpan_18, k_X4_barRowsOfSpan_19, k_X4_barRowsOfSpan_22, k_X4_barRowsOfSpan_23, k_X4_barRowsOfSpan_26, k_X4_barRowsOfSpan_27, k_X4_barRowsOfSpan_30, k_X4_barRowsOfSpan_31, k_X4_barRowsOfSpan_34, k_X4_barRowsOfSpan_35, k_X4_barRowsOfSpan_36, k_X4_barRowsOfSpan_37, k_X4_barRowsOfSpan_40, k_X4_barRowsOfSpan_43, wp1, wp_s, cutIn, kont, Nat.reduceSub, Nat.reduceAdd, nth, o_const, o_lconst, o_ref, o_iload, o_lload, o_aload, o_istore, o_lstore, o_astore, o_iinc, o_bin, o_div, o_un, o_lbin, o_lsh, o_lcmp, o_i2l, o_l2i, o_if, o_icmp, o_goto, o_dup, o_dup2, o_pop, fav, o_getf, o_putI, o_putZ, o_putL, o_ald, o_ast, o_alen, popn, rst, o_callV, o_callT, o_callS, swx, o_sw, o_ret, o_iret, o_zret, o_cret, o_lret, o_aret, lg, lput, lput2, ls1, isL, entL, wsum, rdI1, rdI2, rdA1, rdA21, rdA22, rdL1, rdL22, rdL21, upN_at, rep, sh_0, F_0_0, F_0_1, F_0_2, F_0_3, F_0_4, F_0_5, F_0_6, F_0_7, F_0_8, sh_1, F_1_0, F_1_1, F_1_2, F_1_3, F_1_4, F_1_5, sh_3, F_3_0, F_3_1, F_3_2, F_3_3, F_3_4, F_3_5, sh_5, F_5_0, F_5_1, F_5_2, F_5_3, F_5_4, F_5_5, F_5_6, F_5_7, F_5_8, sh_12, F_12_0, F_12_1, F_12_2, F_12_3, F_12_4, F_12_5, sh_14, F_14_0, F_14_1, F_14_2, F_14_3, F_14_4, F_14_5, F_14_6, F_14_7, F_14_8, sh_21, F_21_0, F_21_1, F_21_2, F_21_3, F_21_4, F_21_5, F_21_6, F_21_7, F_21_8, sh_28, F_28_0, F_28_1, F_28_2, F_28_3, F_28_4, F_28_5, F_28_6, F_28_7, F_28_8, sh_35, F_35_0, sh_39, F_39_0, F_39_1, F_39_2, F_39_3, F_39_4, F_39_5, F_39_6, F_39_7, F_39_8, F_39_9, F_39_10, F_39_11, F_39_12, F_39_13, A_2, A_4, A_6, A_7, A_8, A_9, A_10, A_11, A_13, A_15, A_16, A_17, A_18, A_19, A_20, A_22, A_23, A_24, A_25, A_26, A_27, A_29, A_30, A_31, A_32, A_33, A_34, A_36, A_37, A_38, A_40, A_41, A_42, A_43, A_44, A_45, A_46, A_47]
    refine ⟨v, B, rfl, hv, hB, ?_⟩
    dsimp only [k_X4_barRowsOfSpan_0, k_X4_barRowsOfSpan_1, k_X4_barRowsOfSpan_4, k_X4_barRowsOfSpan_5, k_X4_barRowsOfSpan_8, k_X4_barRowsOfSpan_9, k_X4_barRowsOfSpan_10, k_X4_barRowsOfSpan_11, k_X4_barRowsOfSpan_12, k_X4_barRowsOfSpan_15, k_X4_barRowsOfSpan_18, k_X4_barRowsOfSpan_19, k_X4_barRowsOfSpan_22, k_X4_barRowsOfSpan_23, k_X4_barRowsOfSpan_26, k_X4_barRowsOfSpan_27, k_X4_barRowsOfSpan_30, k_X4_barRowsOfSpan_31, k_X4_barRowsOfSpan_34, k_X4_barRowsOfSpan_35, k_X4_barRowsOfSpan_36, k_X4_barRowsOfSpan_37, k_X4_barRowsOfSpan_40, k_X4_barRowsOfSpan_43, wp1, wp_s, cutIn, kont, Nat.reduceSub, Nat.reduceAdd, nth, o_const, o_lconst, o_ref, o_iload, o_lload, o_aload, o_istore, o_lstore, o_astore, o_iinc, o_bin, o_div, o_un, o_lbin, o_lsh, o_lcmp, o_i2l, o_l2i, o_if, o_icmp, o_goto, o_dup, o_dup2, o_pop, fav, o_getf, o_putI, o_putZ, o_putL, o_ald, o_ast, o_alen, popn, rst, o_callV, o_callT, o_callS, swx, o_sw, o_ret, o_iret, o_zret, o_cret, o_lret, o_aret, lg, lput, lput2, ls1, isL, entL, wsum, rdI1, rdI2, rdA1, rdA21, rdA22, rdL1, rdL22, rdL21, upN_at, rep, sh_0, F_0_0, F_0_1, F_0_2, F_0_3, F_0_4, F_0_5, F_0_6, F_0_7, F_0_8, sh_1, F_1_0, F_1_1, F_1_2, F_1_3, F_1_4, F_1_5, sh_3, F_3_0, F_3_1, F_3_2, F_3_3, F_3_4, F_3_5, sh_5, F_5_0, F_5_1, F_5_2, F_5_3, F_5_4, F_5_5, F_5_6, F_5_7, F_5_8, sh_12, F_12_0, F_12_1, F_12_2, F_12_3, F_12_4, F_12_5, sh_14, F_14_0, F_14_1, F_14_2, F_14_3, F_14_4, F_14_5, F_14_6, F_14_7, F_14_8, sh_21, F_21_0, F_21_1, F_21_2, F_21_3, F_21_4, F_21_5, F_21_6, F_21_7, F_21_8, sh_28, F_28_0, F_28_1, F_28_2, F_28_3, F_28_4, F_28_5, F_28_6, F_28_7, F_28_8, sh_35, F_35_0, sh_39, F_39_0, F_39_1, F_39_2, F_39_3, F_39_4, F_39_5, F_39_6, F_39_7, F_39_8, F_39_9, F_39_10, F_39_11, F_39_12, F_39_13, A_2, A_4, A_6, A_7, A_8, A_9, A_10, A_11, A_13, A_15, A_16, A_17, A_18, A_19, A_20, A_22, A_23, A_24, A_25, A_26, A_27, A_29, A_30, A_31, A_32, A_33, A_34, A_36, A_37, A_38, A_40, A_41, A_42, A_43, A_44, A_45, A_46, A_47]
    refine cut _ _ ⟨rfl, rfl, 0, by omega, ?_, rfl, rfl⟩ (by omega) ⟨rfl, rfl, rfl, rfl, trivial⟩
    refine (sA_id ?_).symm
    funext j
    unfold brf
    simp
theorem c_X4_barRowsOfSpan : Ctr yX4_barRowsOfSpan cX4_barRowsOfSpan 4 none ({ frames := 1, cells := 0, slots := 0, locals := 23 } : Room) S_X4_barRowsOfSpan := ctr_of (T := T_X4_barRowsOfSpan) (by decide +kernel) (fun post C hr => t_X4_barRowsOfSpan post C hr) v_X4_barRowsOfSpan
/-- everybody but q: the span of their keys -/
def eb (r : Nat → Nat) (h : Nat → Int32) (n p q : Nat) : Nat → Nat := fsp r (hd h ((2 ^ p - 1) ^^^ 2 ^ q) p n) n
def Bar (r : Nat → Nat) (h : Nat → Int32) (n p g pp v i row : Nat) : Prop := ∃ q, q < i ∧ g.testBit q = true ∧ q ≠ pp ∧ rs (eb r h n p q) row 9 = rs (eb r h n p q) v 9
/-- the bars as the first i of the group ask -/
def isBar (b : Nat → Int32) (r : Nat → Nat) (h : Nat → Int32) (n p g pp v i : Nat) : Prop := ∀ row, row < 512 → (Bar r h n p g pp v i row → b row = 1) ∧ (¬ Bar r h n p g pp v i row → b row = 0)
def S_X4_barRowsForOthers : SP := fun as M post => ∃ pp g v n c p r h lk, as = [VR 0, VI (nI pp), VI (nI g), VI (nI v)] ∧ pp < p ∧ g < 16 ∧ v < 512 ∧ XW M n c p r h lk ∧
  ((∃ q, q < p ∧ g.testBit q = true ∧ rs (eb r h n p q) v 9 = 0) → ∀ f b, post (some (VI 0)) (sA 28 b (sA 27 f M))) ∧
  ((∀ q, q < p → g.testBit q = true → ¬ rs (eb r h n p q) v 9 = 0) → ∀ f b, isBar b r h n p g pp v p → post (some (VI 1)) (sA 28 b (sA 27 f M)))
theorem cw_RX4_137 : ∀ w ∈ ([.methodLink RX4 137 yX0_everybody, .instanceMethod yX0_everybody, .selects yX0_everybody.cls yX0_everybody yX0_everybody, .initialized yX0_everybody.cls, .code yX0_everybody cX0_everybody 1 (some .int)] : List Cond), w ∈ tb := tb_all [479, 480, 481, 56, 482] (by decide +kernel) (by decide +kernel)
theorem cw_RX4_221 : ∀ w ∈ ([.methodLink RX4 221 yX4_barRowsOfSpan, .instanceMethod yX4_barRowsOfSpan, .selects yX4_barRowsOfSpan.cls yX4_barRowsOfSpan yX4_barRowsOfSpan, .initialized yX4_barRowsOfSpan.cls, .code yX4_barRowsOfSpan cX4_barRowsOfSpan 4 none] : List Cond), w ∈ tb := tb_all [520, 522, 19, 54, 523] (by decide +kernel) (by decide +kernel)
theorem dX4_barRowsForOthers_0 : decode cX4_barRowsForOthers 0 = .ok (.iconst 0, 1) := by decide +kernel
theorem dX4_barRowsForOthers_1 : decode cX4_barRowsForOthers 1 = .ok (.istore 4, 2) := by decide +kernel
theorem dX4_barRowsForOthers_3 : decode cX4_barRowsForOthers 3 = .ok (.iload 4, 2) := by decide +kernel
theorem dX4_barRowsForOthers_5 : decode cX4_barRowsForOthers 5 = .ok (.sipush 512, 3) := by decide +kernel
theorem dX4_barRowsForOthers_8 : decode cX4_barRowsForOthers 8 = .ok (.if_icmp .ge 17, 3) := by decide +kernel
theorem dX4_barRowsForOthers_11 : decode cX4_barRowsForOthers 11 = .ok (.aload_n 0, 1) := by decide +kernel
theorem dX4_barRowsForOthers_12 : decode cX4_barRowsForOthers 12 = .ok (.getfield 43, 3) := by decide +kernel
theorem dX4_barRowsForOthers_15 : decode cX4_barRowsForOthers 15 = .ok (.iload 4, 2) := by decide +kernel
theorem dX4_barRowsForOthers_17 : decode cX4_barRowsForOthers 17 = .ok (.iconst 0, 1) := by decide +kernel
theorem dX4_barRowsForOthers_18 : decode cX4_barRowsForOthers 18 = .ok (.bastore, 1) := by decide +kernel
theorem dX4_barRowsForOthers_19 : decode cX4_barRowsForOthers 19 = .ok (.iinc 4 1, 3) := by decide +kernel
theorem dX4_barRowsForOthers_22 : decode cX4_barRowsForOthers 22 = .ok (.goto (-19), 3) := by decide +kernel
theorem dX4_barRowsForOthers_25 : decode cX4_barRowsForOthers 25 = .ok (.iconst 0, 1) := by decide +kernel
theorem dX4_barRowsForOthers_26 : decode cX4_barRowsForOthers 26 = .ok (.istore 4, 2) := by decide +kernel
theorem dX4_barRowsForOthers_28 : decode cX4_barRowsForOthers 28 = .ok (.iload 4, 2) := by decide +kernel
theorem dX4_barRowsForOthers_30 : decode cX4_barRowsForOthers 30 = .ok (.aload_n 0, 1) := by decide +kernel
theorem dX4_barRowsForOthers_31 : decode cX4_barRowsForOthers 31 = .ok (.getfield 19, 3) := by decide +kernel
theorem dX4_barRowsForOthers_34 : decode cX4_barRowsForOthers 34 = .ok (.getfield 211, 3) := by decide +kernel
theorem dX4_barRowsForOthers_37 : decode cX4_barRowsForOthers 37 = .ok (.if_icmp .ge 67, 3) := by decide +kernel
theorem dX4_barRowsForOthers_40 : decode cX4_barRowsForOthers 40 = .ok (.iload_n 2, 1) := by decide +kernel
theorem dX4_barRowsForOthers_41 : decode cX4_barRowsForOthers 41 = .ok (.iload 4, 2) := by decide +kernel
theorem dX4_barRowsForOthers_43 : decode cX4_barRowsForOthers 43 = .ok (.ishr, 1) := by decide +kernel
theorem dX4_barRowsForOthers_44 : decode cX4_barRowsForOthers 44 = .ok (.iconst 1, 1) := by decide +kernel
theorem dX4_barRowsForOthers_45 : decode cX4_barRowsForOthers 45 = .ok (.iand, 1) := by decide +kernel
theorem dX4_barRowsForOthers_46 : decode cX4_barRowsForOthers 46 = .ok (.ifCond .eq 52, 3) := by decide +kernel
theorem dX4_barRowsForOthers_49 : decode cX4_barRowsForOthers 49 = .ok (.aload_n 0, 1) := by decide +kernel
theorem dX4_barRowsForOthers_50 : decode cX4_barRowsForOthers 50 = .ok (.aload_n 0, 1) := by decide +kernel
theorem dX4_barRowsForOthers_51 : decode cX4_barRowsForOthers 51 = .ok (.getfield 19, 3) := by decide +kernel
theorem dX4_barRowsForOthers_54 : decode cX4_barRowsForOthers 54 = .ok (.aload_n 0, 1) := by decide +kernel
theorem dX4_barRowsForOthers_55 : decode cX4_barRowsForOthers 55 = .ok (.getfield 19, 3) := by decide +kernel
theorem dX4_barRowsForOthers_58 : decode cX4_barRowsForOthers 58 = .ok (.invokevirtual 137, 3) := by decide +kernel
theorem dX4_barRowsForOthers_61 : decode cX4_barRowsForOthers 61 = .ok (.iconst 1, 1) := by decide +kernel
theorem dX4_barRowsForOthers_62 : decode cX4_barRowsForOthers 62 = .ok (.iload 4, 2) := by decide +kernel
theorem dX4_barRowsForOthers_64 : decode cX4_barRowsForOthers 64 = .ok (.ishl, 1) := by decide +kernel
theorem dX4_barRowsForOthers_65 : decode cX4_barRowsForOthers 65 = .ok (.iconst (-1), 1) := by decide +kernel
theorem dX4_barRowsForOthers_66 : decode cX4_barRowsForOthers 66 = .ok (.ixor, 1) := by decide +kernel
theorem dX4_barRowsForOthers_67 : decode cX4_barRowsForOthers 67 = .ok (.iand, 1) := by decide +kernel
theorem dX4_barRowsForOthers_68 : decode cX4_barRowsForOthers 68 = .ok (.invokevirtual 140, 3) := by decide +kernel
theorem dX4_barRowsForOthers_71 : decode cX4_barRowsForOthers 71 = .ok (.invokevirtual 169, 3) := by decide +kernel
theorem dX4_barRowsForOthers_74 : decode cX4_barRowsForOthers 74 = .ok (.aload_n 0, 1) := by decide +kernel
theorem dX4_barRowsForOthers_75 : decode cX4_barRowsForOthers 75 = .ok (.getfield 39, 3) := by decide +kernel
theorem dX4_barRowsForOthers_78 : decode cX4_barRowsForOthers 78 = .ok (.iload_n 3, 1) := by decide +kernel
theorem dX4_barRowsForOthers_79 : decode cX4_barRowsForOthers 79 = .ok (.invokevirtual 172, 3) := by decide +kernel
theorem dX4_barRowsForOthers_82 : decode cX4_barRowsForOthers 82 = .ok (.ifCond .eq 5, 3) := by decide +kernel
theorem dX4_barRowsForOthers_85 : decode cX4_barRowsForOthers 85 = .ok (.iconst 0, 1) := by decide +kernel
theorem dX4_barRowsForOthers_86 : decode cX4_barRowsForOthers 86 = .ok (.ireturn, 1) := by decide +kernel
theorem dX4_barRowsForOthers_87 : decode cX4_barRowsForOthers 87 = .ok (.iload 4, 2) := by decide +kernel
theorem dX4_barRowsForOthers_89 : decode cX4_barRowsForOthers 89 = .ok (.iload_n 1, 1) := by decide +kernel
theorem dX4_barRowsForOthers_90 : decode cX4_barRowsForOthers 90 = .ok (.if_icmp .eq 8, 3) := by decide +kernel
theorem dX4_barRowsForOthers_93 : decode cX4_barRowsForOthers 93 = .ok (.aload_n 0, 1) := by decide +kernel
theorem dX4_barRowsForOthers_94 : decode cX4_barRowsForOthers 94 = .ok (.iload_n 3, 1) := by decide +kernel
theorem dX4_barRowsForOthers_95 : decode cX4_barRowsForOthers 95 = .ok (.invokevirtual 221, 3) := by decide +kernel
theorem dX4_barRowsForOthers_98 : decode cX4_barRowsForOthers 98 = .ok (.iinc 4 1, 3) := by decide +kernel
theorem dX4_barRowsForOthers_101 : decode cX4_barRowsForOthers 101 = .ok (.goto (-73), 3) := by decide +kernel
theorem dX4_barRowsForOthers_104 : decode cX4_barRowsForOthers 104 = .ok (.iconst 1, 1) := by decide +kernel
theorem dX4_barRowsForOthers_105 : decode cX4_barRowsForOthers 105 = .ok (.ireturn, 1) := by decide +kernel
def T_X4_barRowsForOthers (post : PO) : List (Nat × OP) := [(0, o_const 0 1), (1, o_istore 4 3), (3, o_iload 4 5), (5, o_const 512 8), (8, o_icmp (fun x y => y ≤ x) 25 11), (11, o_aload 0 12), (12, o_getf 4 6 15), (15, o_iload 4 17), (17, o_const 0 18), (18, o_ast 2 (vp_nar .boolean) 19), (19, o_iinc 4 1 22), (22, o_goto 3), (25, o_const 0 26), (26, o_istore 4 28), (28, o_iload 4 30), (30, o_aload 0 31), (31, o_getf 4 1 34), (34, o_getf 0 3 37), (37, o_icmp (fun x y => y ≤ x) 104 40), (40, o_iload 2 41), (41, o_iload 4 43), (43, o_bin (fun x y => x >>> (y &&& 31)) 44), (44, o_const 1 45), (45, o_bin (fun x y => x &&& y) 46), (46, o_if (fun x => x = 0) 98 49), (49, o_aload 0 50), (50, o_aload 0 51), (51, o_getf 4 1 54), (54, o_aload 0 55), (55, o_getf 4 1 58), (58, o_callV 0 S_X0_everybody 0 61), (61, o_const 1 62), (62, o_iload 4 64), (64, o_bin (fun x y => x <<< (y &&& 31)) 65), (65, o_const (-1) 66), (66, o_bin (fun x y => x ^^^ y) 67), (67, o_bin (fun x y => x &&& y) 68), (68, o_callV 0 S_X0_heldBy 1 71), (71, o_callV 4 S_X4_fillSpan 1 74), (74, o_aload 0 75), (75, o_getf 4 5 78), (78, o_iload 3 79), (79, o_callV 2 S_X2_makes 1 82), (82, o_if (fun x => x = 0) 87 85), (85, o_const 0 86), (86, o_zret post), (87, o_iload 4 89), (89, o_iload 1 90), (90, o_icmp (fun x y => x = y) 98 93), (93, o_aload 0 94), (94, o_iload 3 95), (95, o_callV 4 S_X4_barRowsOfSpan 1 98), (98, o_iinc 4 1 101), (101, o_goto 28), (104, o_const 1 105), (105, o_zret post)]
theorem k_X4_barRowsForOthers_0 (post : PO) : lk (T_X4_barRowsForOthers post) 0 = o_const 0 1 := rfl
theorem k_X4_barRowsForOthers_1 (post : PO) : lk (T_X4_barRowsForOthers post) 1 = o_istore 4 3 := rfl
theorem k_X4_barRowsForOthers_3 (post : PO) : lk (T_X4_barRowsForOthers post) 3 = o_iload 4 5 := rfl
theorem k_X4_barRowsForOthers_5 (post : PO) : lk (T_X4_barRowsForOthers post) 5 = o_const 512 8 := rfl
theorem k_X4_barRowsForOthers_8 (post : PO) : lk (T_X4_barRowsForOthers post) 8 = o_icmp (fun x y => y ≤ x) 25 11 := rfl
theorem k_X4_barRowsForOthers_11 (post : PO) : lk (T_X4_barRowsForOthers post) 11 = o_aload 0 12 := rfl
theorem k_X4_barRowsForOthers_12 (post : PO) : lk (T_X4_barRowsForOthers post) 12 = o_getf 4 6 15 := rfl
theorem k_X4_barRowsForOthers_15 (post : PO) : lk (T_X4_barRowsForOthers post) 15 = o_iload 4 17 := rfl
theorem k_X4_barRowsForOthers_17 (post : PO) : lk (T_X4_barRowsForOthers post) 17 = o_const 0 18 := rfl
theorem k_X4_barRowsForOthers_18 (post : PO) : lk (T_X4_barRowsForOthers post) 18 = o_ast 2 (vp_nar .boolean) 19 := rfl
theorem k_X4_barRowsForOthers_19 (post : PO) : lk (T_X4_barRowsForOthers post) 19 = o_iinc 4 1 22 := rfl
theorem k_X4_barRowsForOthers_22 (post : PO) : lk (T_X4_barRowsForOthers post) 22 = o_goto 3 := rfl
theorem k_X4_barRowsForOthers_25 (post : PO) : lk (T_X4_barRowsForOthers post) 25 = o_const 0 26 := rfl
theorem k_X4_barRowsForOthers_26 (post : PO) : lk (T_X4_barRowsForOthers post) 26 = o_istore 4 28 := rfl
theorem k_X4_barRowsForOthers_28 (post : PO) : lk (T_X4_barRowsForOthers post) 28 = o_iload 4 30 := rfl
theorem k_X4_barRowsForOthers_30 (post : PO) : lk (T_X4_barRowsForOthers post) 30 = o_aload 0 31 := rfl
theorem k_X4_barRowsForOthers_31 (post : PO) : lk (T_X4_barRowsForOthers post) 31 = o_getf 4 1 34 := rfl
theorem k_X4_barRowsForOthers_34 (post : PO) : lk (T_X4_barRowsForOthers post) 34 = o_getf 0 3 37 := rfl
theorem k_X4_barRowsForOthers_37 (post : PO) : lk (T_X4_barRowsForOthers post) 37 = o_icmp (fun x y => y ≤ x) 104 40 := rfl
theorem k_X4_barRowsForOthers_40 (post : PO) : lk (T_X4_barRowsForOthers post) 40 = o_iload 2 41 := rfl
theorem k_X4_barRowsForOthers_41 (post : PO) : lk (T_X4_barRowsForOthers post) 41 = o_iload 4 43 := rfl
theorem k_X4_barRowsForOthers_43 (post : PO) : lk (T_X4_barRowsForOthers post) 43 = o_bin (fun x y => x >>> (y &&& 31)) 44 := rfl
theorem k_X4_barRowsForOthers_44 (post : PO) : lk (T_X4_barRowsForOthers post) 44 = o_const 1 45 := rfl
theorem k_X4_barRowsForOthers_45 (post : PO) : lk (T_X4_barRowsForOthers post) 45 = o_bin (fun x y => x &&& y) 46 := rfl
theorem k_X4_barRowsForOthers_46 (post : PO) : lk (T_X4_barRowsForOthers post) 46 = o_if (fun x => x = 0) 98 49 := rfl
theorem k_X4_barRowsForOthers_49 (post : PO) : lk (T_X4_barRowsForOthers post) 49 = o_aload 0 50 := rfl
theorem k_X4_barRowsForOthers_50 (post : PO) : lk (T_X4_barRowsForOthers post) 50 = o_aload 0 51 := rfl
theorem k_X4_barRowsForOthers_51 (post : PO) : lk (T_X4_barRowsForOthers post) 51 = o_getf 4 1 54 := rfl
theorem k_X4_barRowsForOthers_54 (post : PO) : lk (T_X4_barRowsForOthers post) 54 = o_aload 0 55 := rfl
theorem k_X4_barRowsForOthers_55 (post : PO) : lk (T_X4_barRowsForOthers post) 55 = o_getf 4 1 58 := rfl
theorem k_X4_barRowsForOthers_58 (post : PO) : lk (T_X4_barRowsForOthers post) 58 = o_callV 0 S_X0_everybody 0 61 := rfl
theorem k_X4_barRowsForOthers_61 (post : PO) : lk (T_X4_barRowsForOthers post) 61 = o_const 1 62 := rfl
theorem k_X4_barRowsForOthers_62 (post : PO) : lk (T_X4_barRowsForOthers post) 62 = o_iload 4 64 := rfl
theorem k_X4_barRowsForOthers_64 (post : PO) : lk (T_X4_barRowsForOthers post) 64 = o_bin (fun x y => x <<< (y &&& 31)) 65 := rfl
theorem k_X4_barRowsForOthers_65 (post : PO) : lk (T_X4_barRowsForOthers post) 65 = o_const (-1) 66 := rfl
theorem k_X4_barRowsForOthers_66 (post : PO) : lk (T_X4_barRowsForOthers post) 66 = o_bin (fun x y => x ^^^ y) 67 := rfl
theorem k_X4_barRowsForOthers_67 (post : PO) : lk (T_X4_barRowsForOthers post) 67 = o_bin (fun x y => x &&& y) 68 := rfl
theorem k_X4_barRowsForOthers_68 (post : PO) : lk (T_X4_barRowsForOthers post) 68 = o_callV 0 S_X0_heldBy 1 71 := rfl
theorem k_X4_barRowsForOthers_71 (post : PO) : lk (T_X4_barRowsForOthers post) 71 = o_callV 4 S_X4_fillSpan 1 74 := rfl
theorem k_X4_barRowsForOthers_74 (post : PO) : lk (T_X4_barRowsForOthers post) 74 = o_aload 0 75 := rfl
theorem k_X4_barRowsForOthers_75 (post : PO) : lk (T_X4_barRowsForOthers post) 75 = o_getf 4 5 78 := rfl
theorem k_X4_barRowsForOthers_78 (post : PO) : lk (T_X4_barRowsForOthers post) 78 = o_iload 3 79 := rfl
theorem k_X4_barRowsForOthers_79 (post : PO) : lk (T_X4_barRowsForOthers post) 79 = o_callV 2 S_X2_makes 1 82 := rfl
theorem k_X4_barRowsForOthers_82 (post : PO) : lk (T_X4_barRowsForOthers post) 82 = o_if (fun x => x = 0) 87 85 := rfl
theorem k_X4_barRowsForOthers_85 (post : PO) : lk (T_X4_barRowsForOthers post) 85 = o_const 0 86 := rfl
theorem k_X4_barRowsForOthers_86 (post : PO) : lk (T_X4_barRowsForOthers post) 86 = o_zret post := rfl
theorem k_X4_barRowsForOthers_87 (post : PO) : lk (T_X4_barRowsForOthers post) 87 = o_iload 4 89 := rfl
theorem k_X4_barRowsForOthers_89 (post : PO) : lk (T_X4_barRowsForOthers post) 89 = o_iload 1 90 := rfl
theorem k_X4_barRowsForOthers_90 (post : PO) : lk (T_X4_barRowsForOthers post) 90 = o_icmp (fun x y => x = y) 98 93 := rfl
theorem k_X4_barRowsForOthers_93 (post : PO) : lk (T_X4_barRowsForOthers post) 93 = o_aload 0 94 := rfl
theorem k_X4_barRowsForOthers_94 (post : PO) : lk (T_X4_barRowsForOthers post) 94 = o_iload 3 95 := rfl
theorem k_X4_barRowsForOthers_95 (post : PO) : lk (T_X4_barRowsForOthers post) 95 = o_callV 4 S_X4_barRowsOfSpan 1 98 := rfl
theorem k_X4_barRowsForOthers_98 (post : PO) : lk (T_X4_barRowsForOthers post) 98 = o_iinc 4 1 101 := rfl
theorem k_X4_barRowsForOthers_101 (post : PO) : lk (T_X4_barRowsForOthers post) 101 = o_goto 28 := rfl
theorem k_X4_barRowsForOthers_104 (post : PO) : lk (T_X4_barRowsForOthers post) 104 = o_const 1 105 := rfl
theorem k_X4_barRowsForOthers_105 (post : PO) : lk (T_X4_barRowsForOthers post) 105 = o_zret post := rfl
set_option maxRecDepth 100000 in
theorem t_X4_barRowsForOthers {p : Program} {l : Launch} {e : Env} {s : State} {m : MethodId} {args : Array Value} {below : List Frame} {meth : Method} {c : Code} {D : va_G} {dA : Nat → ClassId} {ad : Nat → Nat} (post : PO) (C : CX p s m args meth c cX4_barRowsForOthers 5 yX4_barRowsForOthers.cls D dA ad (AA ad s.heap.size)) (hr : meth.sig.returnType = (some .boolean)) : SndL (WW p l e ({ frames := 3, cells := 0, slots := 0, locals := 68 } : Room) s m args below meth c 0 0 (MQ below (CQ D dA ad post (AA ad s.heap.size)) args s 0 0 (AA ad s.heap.size)) 5 D dA ad (AA ad s.heap.size)) (T_X4_barRowsForOthers post) := by
  refine snd_c (s_iconst C dX4_barRowsForOthers_0 rfl) ?_
  refine snd_c (s_istore C (by decide) dX4_barRowsForOthers_1) ?_
  refine snd_c (s_iload C dX4_barRowsForOthers_3) ?_
  refine snd_c (s_sipush C dX4_barRowsForOthers_5 rfl) ?_
  refine snd_c (s_icmp_ge C dX4_barRowsForOthers_8 (by decide)) ?_
  refine snd_c (s_aload_n C rfl dX4_barRowsForOthers_11) ?_
  refine snd_c (s_getf C (ci := 4) (j := 6) (T := TX4) rfl inX4 (by decide) fl_RX4_43 dX4_barRowsForOthers_12) ?_
  refine snd_c (s_iload C dX4_barRowsForOthers_15) ?_
  refine snd_c (s_iconst C dX4_barRowsForOthers_17 rfl) ?_
  refine snd_c (s_bast2 C dX4_barRowsForOthers_18) ?_
  refine snd_c (s_iinc C (by decide) rfl dX4_barRowsForOthers_19) ?_
  refine snd_c (s_goto C dX4_barRowsForOthers_22 (by decide)) ?_
  refine snd_c (s_iconst C dX4_barRowsForOthers_25 rfl) ?_
  refine snd_c (s_istore C (by decide) dX4_barRowsForOthers_26) ?_
  refine snd_c (s_iload C dX4_barRowsForOthers_28) ?_
  refine snd_c (s_aload_n C rfl dX4_barRowsForOthers_30) ?_
  refine snd_c (s_getf C (ci := 4) (j := 1) (T := TX4) rfl inX4 (by decide) fl_RX4_19 dX4_barRowsForOthers_31) ?_
  refine snd_c (s_getf C (ci := 0) (j := 3) (T := TX0) rfl inX0 (by decide) fl_RX4_211 dX4_barRowsForOthers_34) ?_
  refine snd_c (s_icmp_ge C dX4_barRowsForOthers_37 (by decide)) ?_
  refine snd_c (s_iload_n C rfl dX4_barRowsForOthers_40) ?_
  refine snd_c (s_iload C dX4_barRowsForOthers_41) ?_
  refine snd_c (s_ishr C dX4_barRowsForOthers_43) ?_
  refine snd_c (s_iconst C dX4_barRowsForOthers_44 rfl) ?_
  refine snd_c (s_iand C dX4_barRowsForOthers_45) ?_
  refine snd_c (s_if_eq C dX4_barRowsForOthers_46 (by decide)) ?_
  refine snd_c (s_aload_n C rfl dX4_barRowsForOthers_49) ?_
  refine snd_c (s_aload_n C rfl dX4_barRowsForOthers_50) ?_
  refine snd_c (s_getf C (ci := 4) (j := 1) (T := TX4) rfl inX4 (by decide) fl_RX4_19 dX4_barRowsForOthers_51) ?_
  refine snd_c (s_aload_n C rfl dX4_barRowsForOthers_54) ?_
  refine snd_c (s_getf C (ci := 4) (j := 1) (T := TX4) rfl inX4 (by decide) fl_RX4_19 dX4_barRowsForOthers_55) ?_
  refine snd_c (s_callV C (ci := 0) c_X0_everybody rfl cw_RX4_137 ⟨rfl, rfl⟩ ⟨by decide +kernel, by decide +kernel, by decide +kernel⟩ ⟨by decide, by decide⟩ ⟨Nat.zero_le _, Nat.zero_le _⟩ dX4_barRowsForOthers_58) ?_
  refine snd_c (s_iconst C dX4_barRowsForOthers_61 rfl) ?_
  refine snd_c (s_iload C dX4_barRowsForOthers_62) ?_
  refine snd_c (s_ishl C dX4_barRowsForOthers_64) ?_
  refine snd_c (s_iconst C dX4_barRowsForOthers_65 rfl) ?_
  refine snd_c (s_ixor C dX4_barRowsForOthers_66) ?_
  refine snd_c (s_iand C dX4_barRowsForOthers_67) ?_
  refine snd_c (s_callV C (ci := 0) c_X0_heldBy rfl cw_RX4_140 ⟨rfl, rfl⟩ ⟨by decide +kernel, by decide +kernel, by decide +kernel⟩ ⟨by decide, by decide⟩ ⟨Nat.zero_le _, Nat.zero_le _⟩ dX4_barRowsForOthers_68) ?_
  refine snd_c (s_callV C (ci := 4) c_X4_fillSpan rfl cw_RX4_169 ⟨rfl, rfl⟩ ⟨by decide +kernel, by decide +kernel, by decide +kernel⟩ ⟨by decide, by decide⟩ ⟨Nat.zero_le _, Nat.zero_le _⟩ dX4_barRowsForOthers_71) ?_
  refine snd_c (s_aload_n C rfl dX4_barRowsForOthers_74) ?_
  refine snd_c (s_getf C (ci := 4) (j := 5) (T := TX4) rfl inX4 (by decide) fl_RX4_39 dX4_barRowsForOthers_75) ?_
  refine snd_c (s_iload_n C rfl dX4_barRowsForOthers_78) ?_
  refine snd_c (s_callV C (ci := 2) c_X2_makes rfl cw_RX4_172 ⟨rfl, rfl⟩ ⟨by decide +kernel, by decide +kernel, by decide +kernel⟩ ⟨by decide, by decide⟩ ⟨Nat.zero_le _, Nat.zero_le _⟩ dX4_barRowsForOthers_79) ?_
  refine snd_c (s_if_eq C dX4_barRowsForOthers_82 (by decide)) ?_
  refine snd_c (s_iconst C dX4_barRowsForOthers_85 rfl) ?_
  refine snd_c (s_zret C hr ⟨rfl, rfl⟩ dX4_barRowsForOthers_86) ?_
  refine snd_c (s_iload C dX4_barRowsForOthers_87) ?_
  refine snd_c (s_iload_n C rfl dX4_barRowsForOthers_89) ?_
  refine snd_c (s_icmp_eq C dX4_barRowsForOthers_90 (by decide)) ?_
  refine snd_c (s_aload_n C rfl dX4_barRowsForOthers_93) ?_
  refine snd_c (s_iload_n C rfl dX4_barRowsForOthers_94) ?_
  refine snd_c (s_callV C (ci := 4) c_X4_barRowsOfSpan rfl cw_RX4_221 ⟨rfl, rfl⟩ ⟨by decide +kernel, by decide +kernel, by decide +kernel⟩ ⟨by decide, by decide⟩ ⟨Nat.zero_le _, Nat.zero_le _⟩ dX4_barRowsForOthers_95) ?_
  refine snd_c (s_iinc C (by decide) rfl dX4_barRowsForOthers_98) ?_
  refine snd_c (s_goto C dX4_barRowsForOthers_101 (by decide)) ?_
  refine snd_c (s_iconst C dX4_barRowsForOthers_104 rfl) ?_
  refine snd_c (s_zret C hr ⟨rfl, rfl⟩ dX4_barRowsForOthers_105) ?_
  exact trivial
theorem ev_bit {p q : Nat} (hq : q < p) : (2 ^ p - 1).testBit q = true := by rw [Nat.testBit_two_pow_sub_one]; simpa using hq
theorem ev_lt {p : Nat} (hp : p ≤ 4) : 2 ^ p - 1 < 16 := by
  have := Nat.pow_le_pow_right (n := 2) (by omega) hp
  omega
theorem XW_2 {M : AM} {n c p : Nat} {r : Nat → Nat} {h : Nat → Int32} {lk : Nat → Nat} (hX : XW M n c p r h lk) (f b : Nat → Int32) : XW (sA 28 b (sA 27 f M)) n c p r h lk := XW_of hX rfl rfl rfl rfl rfl rfl
set_option maxRecDepth 100000 in
theorem v_X4_barRowsForOthers : ∀ as M post, S_X4_barRowsForOthers as M post → wsum as ≤ 5 ∧ RUN (T_X4_barRowsForOthers post) 0 (entL 5 as) [] M := by
  rintro as M post ⟨pp, g, v, n, c, p, r, h0, lk, rfl, hpp, hg, hv, hX, h1, h2⟩
  have hX0 := hX
  obtain ⟨hn, hn8, hc, hc6, hp, hp4, hr, hhk, hl⟩ := hX
  refine ⟨by show 4 ≤ 5; omega, run_of [3, 28] (fun μ pc lv st M' => st = [] ∧ ((pc = 3 ∧ ∃ i, i ≤ 512 ∧ M' = sA 28 (cpy (M.2.2 28) (fun _ => 0) i) M ∧ 2000 - i = μ ∧ lv = [some (VR 0), some (VI (nI pp)), some (VI (nI g)), some (VI (nI v)), some (VI (nI i))]) ∨ (pc = 28 ∧ ∃ i f b, i ≤ p ∧ M' = sA 28 b (sA 27 f M) ∧ isBar b r h0 n p g pp v i ∧ (∀ q, q < i → g.testBit q = true → ¬ rs (eb r h0 n p q) v 9 = 0) ∧ 100 - i = μ ∧ lv = [some (VR 0), some (VI (nI pp)), some (VI (nI g)), some (VI (nI v)), some (VI (nI i))]))) 80 3000 ?_ ?_⟩
  · rintro μ pc lv st M' ⟨rfl, ⟨rfl, i, hi, rfl, rfl, rfl⟩ | ⟨rfl, i, f, b, hi, rfl, hb, hq, rfl, rfl⟩⟩
    · dsimp only [k_X4_barRowsForOthers_0, k_X4_barRowsForOthers_1, k_X4_barRowsForOthers_3, k_X4_barRowsForOthers_5, k_X4_barRowsForOthers_8, k_X4_barRowsForOthers_11, k_X4_barRowsForOthers_12, k_X4_barRowsForOthers_15, k_X4_barRowsForOthers_17, k_X4_barRowsForOthers_18, k_X4_barRowsForOthers_19, k_X4_barRowsForOthers_22, k_X4_barRowsForOthers_25, k_X4_barRowsForOthers_26, k_X4_barRowsForOthers_28, k_X4_barRowsForOthers_30, k_X4_barRowsForOthers_31, k_X4_barRowsForOthers_34, k_X4_barRowsForOthers_37, k_X4_barRowsForOthers_40, k_X4_barRowsForOthers_41, k_X4_barRowsForOthers_43, k_X4_barRowsForOthers_44, k_X4_barRowsForOthers_45, k_X4_barRowsForOthers_46, k_X4_barRowsForOthers_49, k_X4_barRowsForOthers_50, k_X4_barRowsForOthers_51, k_X4_barRowsForOthers_54, k_X4_barRowsForOthers_55, k_X4_barRowsForOthers_58, k_X4_barRowsForOthers_61, k_X4_barRowsForOthers_62, k_X4_barRowsForOthers_64, k_X4_barRowsForOthers_65, k_X4_barRowsForOthers_66, k_X4_barRowsForOthers_67, k_X4_barRowsForOthers_68, k_X4_barRowsForOthers_71, k_X4_barRowsForOthers_74, k_X4_barRowsForOthers_75, k_X4_barRowsForOthers_78, k_X4_barRowsForOthers_79, k_X4_barRowsForOthers_82, k_X4_barRowsForOthers_85, k_X4_barRowsForOthers_86, k_X4_barRowsForOthers_87, k_X4_barRowsForOthers_89, k_X4_barRowsForOthers_90, k_X4_barRowsForOthers_93, k_X4_barRowsForOthers_94, k_X4_barRowsForOthers_95, k_X4_barRowsForOthers_98, k_X4_barRowsForOthers_101, k_X4_barRowsForOthers_104, k_X4_barRowsForOthers_105, wp1, wp_s, cutIn, kont, Nat.reduceSub, Nat.reduceAdd, nth, o_const, o_lconst, o_ref, o_iload, o_lload, o_aload, o_istore, o_lstore, o_astore, o_iinc, o_bin, o_div, o_un, o_lbin, o_lsh, o_lcmp, o_i2l, o_l2i, o_if, o_icmp, o_goto, o_dup, o_dup2, o_pop, fav, o_getf, o_putI, o_putZ, o_putL, o_ald, o_ast, o_alen, popn, rst, o_callV, o_callT, o_callS, swx, o_sw, o_ret, o_iret, o_zret, o_cret, o_lret, o_aret, lg, lput, lput2, ls1, isL, entL, wsum, rdI1, rdI2, rdA1, rdA21, rdA22, rdL1, rdL22, rdL21, upN_at, rep, sh_0, F_0_0, F_0_1, F_0_2, F_0_3, F_0_4, F_0_5, F_0_6, F_0_7, F_0_8, sh_1, F_1_0, F_1_1, F_1_2, F_1_3, F_1_4, F_1_5, sh_3, F_3_0, F_3_1, F_3_2, F_3_3, F_3_4, F_3_5, sh_5, F_5_0, F_5_1, F_5_2, F_5_3, F_5_4, F_5_5, F_5_6, F_5_7, F_5_8, sh_12, F_12_0, F_12_1, F_12_2, F_12_3, F_12_4, F_12_5, sh_14, F_14_0, F_14_1, F_14_2, F_14_3, F_14_4, F_14_5, F_14_6, F_14_7, F_14_8, sh_21, F_21_0, F_21_1, F_21_2, F_21_3, F_21_4, F_21_5, F_21_6, F_21_7, F_21_8, sh_28, F_28_0, F_28_1, F_28_2, F_28_3, F_28_4, F_28_5, F_28_6, F_28_7, F_28_8, sh_35, F_35_0, sh_39, F_39_0, F_39_1, F_39_2, F_39_3, F_39_4, F_39_5, F_39_6, F_39_7, F_39_8, F_39_9, F_39_10, F_39_11, F_39_12, F_39_13, A_2, A_4, A_6, A_7, A_8, A_9, A_10, A_11, A_13, A_15, A_16, A_17, A_18, A_19, A_20, A_22, A_23, A_24, A_25, A_26, A_27, A_29, A_30, A_31, A_32, A_33, A_34, A_36, A_37, A_38, A_40, A_41, A_42, A_43, A_44, A_45, A_46, A_47]
      rw [show (512 : Int32) = nI 512 from rfl]
      simp (disch := omega) only [nI_leI, nI_ltI, nI_eq, nI_1, nI_add, one_shl, nI_or, nI_xor, nI_and, bit_0, bit_1, true_or, or_true, true_and, and_true, eq_self, not_true_eq_false, not_false_eq_true, forall_const]
      refine ⟨fun z => cut _ _ ⟨rfl, Or.inr ⟨rfl, 0, M.2.2 27, cpy (M.2.2 28) (fun _ => 0) i, by omega, ?_, ?_, fun q hq => absurd hq (by omega), rfl, rfl⟩⟩ (by omega) ⟨rfl, rfl, rfl, rfl, rfl, trivial⟩, fun z => ⟨i, by omega, rfl, cut _ _ ⟨rfl, Or.inl ⟨rfl, i + 1, by omega, ?_, rfl, rfl⟩⟩ (by omega) ⟨rfl, rfl, rfl, rfl, rfl, trivial⟩⟩⟩
      · rw [sA_self]
      · intro row hrow
        refine ⟨fun z2 => ?_, fun _ => ?_⟩
        · obtain ⟨q, hq, -⟩ := z2
          exact absurd hq (by omega)
        · unfold cpy; rw [if_pos (by omega)]
      · rw [sA_sA]
        exact congrArg (fun f => sA 28 f M) (cpy_s (M.2.2 28) (fun _ => 0) i)
    · dsimp only [k_X4_barRowsForOthers_0, k_X4_barRowsForOthers_1, k_X4_barRowsForOthers_3, k_X4_barRowsForOthers_5, k_X4_barRowsForOthers_8, k_X4_barRowsForOthers_11, k_X4_barRowsForOthers_12, k_X4_barRowsForOthers_15, k_X4_barRowsForOthers_17, k_X4_barRowsForOthers_18, k_X4_barRowsForOthers_19, k_X4_barRowsForOthers_22, k_X4_barRowsForOthers_25, k_X4_barRowsForOthers_26, k_X4_barRowsForOthers_28, k_X4_barRowsForOthers_30, k_X4_barRowsForOthers_31, k_X4_barRowsForOthers_34, k_X4_barRowsForOthers_37, k_X4_barRowsForOthers_40, k_X4_barRowsForOthers_41, k_X4_barRowsForOthers_43, k_X4_barRowsForOthers_44, k_X4_barRowsForOthers_45, k_X4_barRowsForOthers_46, k_X4_barRowsForOthers_49, k_X4_barRowsForOthers_50, k_X4_barRowsForOthers_51, k_X4_barRowsForOthers_54, k_X4_barRowsForOthers_55, k_X4_barRowsForOthers_58, k_X4_barRowsForOthers_61, k_X4_barRowsForOthers_62, k_X4_barRowsForOthers_64, k_X4_barRowsForOthers_65, k_X4_barRowsForOthers_66, k_X4_barRowsForOthers_67, k_X4_barRowsForOthers_68, k_X4_barRowsForOthers_71, k_X4_barRowsForOthers_74, k_X4_barRowsForOthers_75, k_X4_barRowsForOthers_78, k_X4_barRowsForOthers_79, k_X4_barRowsForOthers_82, k_X4_barRowsForOthers_85, k_X4_barRowsForOthers_86, k_X4_barRowsForOthers_87, k_X4_barRowsForOthers_89, k_X4_barRowsForOthers_90, k_X4_barRowsForOthers_93, k_X4_barRowsForOthers_94, k_X4_barRowsForOthers_95, k_X4_barRowsForOthers_98, k_X4_barRowsForOthers_101, k_X4_barRowsForOthers_104, k_X4_barRowsForOthers_105, wp1, wp_s, cutIn, kont, Nat.reduceSub, Nat.reduceAdd, nth, o_const, o_lconst, o_ref, o_iload, o_lload, o_aload, o_istore, o_lstore, o_astore, o_iinc, o_bin, o_div, o_un, o_lbin, o_lsh, o_lcmp, o_i2l, o_l2i, o_if, o_icmp, o_goto, o_dup, o_dup2, o_pop, fav, o_getf, o_putI, o_putZ, o_putL, o_ald, o_ast, o_alen, popn, rst, o_callV, o_callT, o_callS, swx, o_sw, o_ret, o_iret, o_zret, o_cret, o_lret, o_aret, lg, lput, lput2, ls1, isL, entL, wsum, rdI1, rdI2, rdA1, rdA21, rdA22, rdL1, rdL22, rdL21, upN_at, rep, sh_0, F_0_0, F_0_1, F_0_2, F_0_3, F_0_4, F_0_5, F_0_6, F_0_7, F_0_8, sh_1, F_1_0, F_1_1, F_1_2, F_1_3, F_1_4, F_1_5, sh_3, F_3_0, F_3_1, F_3_2, F_3_3, F_3_4, F_3_5, sh_5, F_5_0, F_5_1, F_5_2, F_5_3, F_5_4, F_5_5, F_5_6, F_5_7, F_5_8, sh_12, F_12_0, F_12_1, F_12_2, F_12_3, F_12_4, F_12_5, sh_14, F_14_0, F_14_1, F_14_2, F_14_3, F_14_4, F_14_5, F_14_6, F_14_7, F_14_8, sh_21, F_21_0, F_21_1, F_21_2, F_21_3, F_21_4, F_21_5, F_21_6, F_21_7, F_21_8, sh_28, F_28_0, F_28_1, F_28_2, F_28_3, F_28_4, F_28_5, F_28_6, F_28_7, F_28_8, sh_35, F_35_0, sh_39, F_39_0, F_39_1, F_39_2, F_39_3, F_39_4, F_39_5, F_39_6, F_39_7, F_39_8, F_39_9, F_39_10, F_39_11, F_39_12, F_39_13, A_2, A_4, A_6, A_7, A_8, A_9, A_10, A_11, A_13, A_15, A_16, A_17, A_18, A_19, A_20, A_22, A_23, A_24, A_25, A_26, A_27, A_29, A_30, A_31, A_32, A_33, A_34, A_36, A_37, A_38, A_40, A_41, A_42, A_43, A_44, A_45, A_46, A_47]
      rw [hp]
      simp (disch := omega) only [nI_leI, nI_ltI, nI_eq, nI_1, nI_add, one_shl, nI_or, nI_xor, nI_and, bit_0, bit_1, true_or, or_true, true_and, and_true, eq_self, not_true_eq_false, not_false_eq_true, forall_const]
      have nb : (g.testBit i = true → i = pp) → isBar b r h0 n p g pp v (i + 1) := by
        intro z row hrow
        obtain ⟨b1, b2⟩ := hb row hrow
        refine ⟨fun z2 => b1 ?_, fun z2 => b2 fun z3 => z2 ?_⟩
        · obtain ⟨q, g1, g2, g3, g4⟩ := z2
          refine ⟨q, ?_, g2, g3, g4⟩
          rcases Nat.lt_or_ge q i with e | e
          · exact e
          · have e2 : q = i := by omega
            rw [e2] at g2 g3
            exact absurd (z g2) g3
        · obtain ⟨q, g1, g2, g3, g4⟩ := z3
          exact ⟨q, by omega, g2, g3, g4⟩
      refine ⟨fun z => ?_, fun z => ⟨fun z2 => cut _ _ ⟨rfl, Or.inr ⟨rfl, i + 1, f, b, by omega, rfl, nb (fun z3 => by rw [z2] at z3; cases z3), ?_, rfl, rfl⟩⟩ (by omega) ⟨rfl, rfl, rfl, rfl, rfl, trivial⟩, fun z2 => ⟨p, rfl, hp, hp4, ?_⟩⟩⟩
      · have e : p = i := by omega
        refine h2 (fun q hq2 => hq q (by omega)) f b ?_
        intro row hrow
        have := hb row hrow
        rw [← e] at this
        exact this
      · intro q hq2 hq3
        rcases Nat.lt_or_ge q i with e | e
        · exact hq q e hq3
        · rw [show q = i by omega, z2] at hq3; cases hq3
      · have z3 : g.testBit i = true := by simpa using z2
        have hev := ev_lt hp4
        dsimp only [k_X4_barRowsForOthers_0, k_X4_barRowsForOthers_1, k_X4_barRowsForOthers_3, k_X4_barRowsForOthers_5, k_X4_barRowsForOthers_8, k_X4_barRowsForOthers_11, k_X4_barRowsForOthers_12, k_X4_barRowsForOthers_15, k_X4_barRowsForOthers_17, k_X4_barRowsForOthers_18, k_X4_barRowsForOthers_19, k_X4_barRowsForOthers_22, k_X4_barRowsForOthers_25, k_X4_barRowsForOthers_26, k_X4_barRowsForOthers_28, k_X4_barRowsForOthers_30, k_X4_barRowsForOthers_31, k_X4_barRowsForOthers_34, k_X4_barRowsForOthers_37, k_X4_barRowsForOthers_40, k_X4_barRowsForOthers_41, k_X4_barRowsForOthers_43, k_X4_barRowsForOthers_44, k_X4_barRowsForOthers_45, k_X4_barRowsForOthers_46, k_X4_barRowsForOthers_49, k_X4_barRowsForOthers_50, k_X4_barRowsForOthers_51, k_X4_barRowsForOthers_54, k_X4_barRowsForOthers_55, k_X4_barRowsForOthers_58, k_X4_barRowsForOthers_61, k_X4_barRowsForOthers_62, k_X4_barRowsForOthers_64, k_X4_barRowsForOthers_65, k_X4_barRowsForOthers_66, k_X4_barRowsForOthers_67, k_X4_barRowsForOthers_68, k_X4_barRowsForOthers_71, k_X4_barRowsForOthers_74, k_X4_barRowsForOthers_75, k_X4_barRowsForOthers_78, k_X4_barRowsForOthers_79, k_X4_barRowsForOthers_82, k_X4_barRowsForOthers_85, k_X4_barRowsForOthers_86, k_X4_barRowsForOthers_87, k_X4_barRowsForOthers_89, k_X4_barRowsForOthers_90, k_X4_barRowsForOthers_93, k_X4_barRowsForOthers_94, k_X4_barRowsForOthers_95, k_X4_barRowsForOthers_98, k_X4_barRowsForOthers_101, k_X4_barRowsForOthers_104, k_X4_barRowsForOthers_105, wp1, wp_s, cutIn, kont, Nat.reduceSub, Nat.reduceAdd, nth, o_const, o_lconst, o_ref, o_iload, o_lload, o_aload, o_istore, o_lstore, o_astore, o_iinc, o_bin, o_div, o_un, o_lbin, o_lsh, o_lcmp, o_i2l, o_l2i, o_if, o_icmp, o_goto, o_dup, o_dup2, o_pop, fav, o_getf, o_putI, o_putZ, o_putL, o_ald, o_ast, o_alen, popn, rst, o_callV, o_callT, o_callS, swx, o_sw, o_ret, o_iret, o_zret, o_cret, o_lret, o_aret, lg, lput, lput2, ls1, isL, entL, wsum, rdI1, rdI2, rdA1, rdA21, rdA22, rdL1, rdL22, rdL21, upN_at, rep, sh_0, F_0_0, F_0_1, F_0_2, F_0_3, F_0_4, F_0_5, F_0_6, F_0_7, F_0_8, sh_1, F_1_0, F_1_1, F_1_2, F_1_3, F_1_4, F_1_5, sh_3, F_3_0, F_3_1, F_3_2, F_3_3, F_3_4, F_3_5, sh_5, F_5_0, F_5_1, F_5_2, F_5_3, F_5_4, F_5_5, F_5_6, F_5_7, F_5_8, sh_12, F_12_0, F_12_1, F_12_2, F_12_3, F_12_4, F_12_5, sh_14, F_14_0, F_14_1, F_14_2, F_14_3, F_14_4, F_14_5, F_14_6, F_14_7, F_14_8, sh_21, F_21_0, F_21_1, F_21_2, F_21_3, F_21_4, F_21_5, F_21_6, F_21_7, F_21_8, sh_28, F_28_0, F_28_1, F_28_2, F_28_3, F_28_4, F_28_5, F_28_6, F_28_7, F_28_8, sh_35, F_35_0, sh_39, F_39_0, F_39_1, F_39_2, F_39_3, F_39_4, F_39_5, F_39_6, F_39_7, F_39_8, F_39_9, F_39_10, F_39_11, F_39_12, F_39_13, A_2, A_4, A_6, A_7, A_8, A_9, A_10, A_11, A_13, A_15, A_16, A_17, A_18, A_19, A_20, A_22, A_23, A_24, A_25, A_26, A_27, A_29, A_30, A_31, A_32, A_33, A_34, A_36, A_37, A_38, A_40, A_41, A_42, A_43, A_44, A_45, A_46, A_47]
        rw [one_shl (by omega), clr (by omega) (by omega) (ev_bit (by omega))]
        have hx := x16 hev (show i < 4 by omega)
        refine ⟨_, p, n, rfl, by omega, hp, hp4, hn, hn8, ?_⟩
        rw [show mk (hh ((sA 28 b (sA 27 f M)).2.2 3) ((2 ^ p - 1) ^^^ 2 ^ i) p) n = hd h0 ((2 ^ p - 1) ^^^ 2 ^ i) p n from hd_congr hhk _ p]
        have hdl := hd_lt h0 ((2 ^ p - 1) ^^^ 2 ^ i) p hn8
        dsimp only [k_X4_barRowsForOthers_0, k_X4_barRowsForOthers_1, k_X4_barRowsForOthers_3, k_X4_barRowsForOthers_5, k_X4_barRowsForOthers_8, k_X4_barRowsForOthers_11, k_X4_barRowsForOthers_12, k_X4_barRowsForOthers_15, k_X4_barRowsForOthers_17, k_X4_barRowsForOthers_18, k_X4_barRowsForOthers_19, k_X4_barRowsForOthers_22, k_X4_barRowsForOthers_25, k_X4_barRowsForOthers_26, k_X4_barRowsForOthers_28, k_X4_barRowsForOthers_30, k_X4_barRowsForOthers_31, k_X4_barRowsForOthers_34, k_X4_barRowsForOthers_37, k_X4_barRowsForOthers_40, k_X4_barRowsForOthers_41, k_X4_barRowsForOthers_43, k_X4_barRowsForOthers_44, k_X4_barRowsForOthers_45, k_X4_barRowsForOthers_46, k_X4_barRowsForOthers_49, k_X4_barRowsForOthers_50, k_X4_barRowsForOthers_51, k_X4_barRowsForOthers_54, k_X4_barRowsForOthers_55, k_X4_barRowsForOthers_58, k_X4_barRowsForOthers_61, k_X4_barRowsForOthers_62, k_X4_barRowsForOthers_64, k_X4_barRowsForOthers_65, k_X4_barRowsForOthers_66, k_X4_barRowsForOthers_67, k_X4_barRowsForOthers_68, k_X4_barRowsForOthers_71, k_X4_barRowsForOthers_74, k_X4_barRowsForOthers_75, k_X4_barRowsForOthers_78, k_X4_barRowsForOthers_79, k_X4_barRowsForOthers_82, k_X4_barRowsForOthers_85, k_X4_barRowsForOthers_86, k_X4_barRowsForOthers_87, k_X4_barRowsForOthers_89, k_X4_barRowsForOthers_90, k_X4_barRowsForOthers_93, k_X4_barRowsForOthers_94, k_X4_barRowsForOthers_95, k_X4_barRowsForOthers_98, k_X4_barRowsForOthers_101, k_X4_barRowsForOthers_104, k_X4_barRowsForOthers_105, wp1, wp_s, cutIn, kont, Nat.reduceSub, Nat.reduceAdd, nth, o_const, o_lconst, o_ref, o_iload, o_lload, o_aload, o_istore, o_lstore, o_astore, o_iinc, o_bin, o_div, o_un, o_lbin, o_lsh, o_lcmp, o_i2l, o_l2i, o_if, o_icmp, o_goto, o_dup, o_dup2, o_pop, fav, o_getf, o_putI, o_putZ, o_putL, o_ald, o_ast, o_alen, popn, rst, o_callV, o_callT, o_callS, swx, o_sw, o_ret, o_iret, o_zret, o_cret, o_lret, o_aret, lg, lput, lput2, ls1, isL, entL, wsum, rdI1, rdI2, rdA1, rdA21, rdA22, rdL1, rdL22, rdL21, upN_at, rep, sh_0, F_0_0, F_0_1, F_0_2, F_0_3, F_0_4, F_0_5, F_0_6, F_0_7, F_0_8, sh_1, F_1_0, F_1_1, F_1_2, F_1_3, F_1_4, F_1_5, sh_3, F_3_0, F_3_1, F_3_2, F_3_3, F_3_4, F_3_5, sh_5, F_5_0, F_5_1, F_5_2, F_5_3, F_5_4, F_5_5, F_5_6, F_5_7, F_5_8, sh_12, F_12_0, F_12_1, F_12_2, F_12_3, F_12_4, F_12_5, sh_14, F_14_0, F_14_1, F_14_2, F_14_3, F_14_4, F_14_5, F_14_6, F_14_7, F_14_8, sh_21, F_21_0, F_21_1, F_21_2, F_21_3, F_21_4, F_21_5, F_21_6, F_21_7, F_21_8, sh_28, F_28_0, F_28_1, F_28_2, F_28_3, F_28_4, F_28_5, F_28_6, F_28_7, F_28_8, sh_35, F_35_0, sh_39, F_39_0, F_39_1, F_39_2, F_39_3, F_39_4, F_39_5, F_39_6, F_39_7, F_39_8, F_39_9, F_39_10, F_39_11, F_39_12, F_39_13, A_2, A_4, A_6, A_7, A_8, A_9, A_10, A_11, A_13, A_15, A_16, A_17, A_18, A_19, A_20, A_22, A_23, A_24, A_25, A_26, A_27, A_29, A_30, A_31, A_32, A_33, A_34, A_36, A_37, A_38, A_40, A_41, A_42, A_43, A_44, A_45, A_46, A_47]
        refine ⟨_, n, c, p, r, h0, lk, rfl, by omega, XW_2 hX0 f b, fun f2 hf2 => ?_⟩
        have hlt := fsp_lt (r := r) (T := hd h0 ((2 ^ p - 1) ^^^ 2 ^ i) p n) n (fun k hk => (hr k hk).2)
        dsimp only [k_X4_barRowsForOthers_0, k_X4_barRowsForOthers_1, k_X4_barRowsForOthers_3, k_X4_barRowsForOthers_5, k_X4_barRowsForOthers_8, k_X4_barRowsForOthers_11, k_X4_barRowsForOthers_12, k_X4_barRowsForOthers_15, k_X4_barRowsForOthers_17, k_X4_barRowsForOthers_18, k_X4_barRowsForOthers_19, k_X4_barRowsForOthers_22, k_X4_barRowsForOthers_25, k_X4_barRowsForOthers_26, k_X4_barRowsForOthers_28, k_X4_barRowsForOthers_30, k_X4_barRowsForOthers_31, k_X4_barRowsForOthers_34, k_X4_barRowsForOthers_37, k_X4_barRowsForOthers_40, k_X4_barRowsForOthers_41, k_X4_barRowsForOthers_43, k_X4_barRowsForOthers_44, k_X4_barRowsForOthers_45, k_X4_barRowsForOthers_46, k_X4_barRowsForOthers_49, k_X4_barRowsForOthers_50, k_X4_barRowsForOthers_51, k_X4_barRowsForOthers_54, k_X4_barRowsForOthers_55, k_X4_barRowsForOthers_58, k_X4_barRowsForOthers_61, k_X4_barRowsForOthers_62, k_X4_barRowsForOthers_64, k_X4_barRowsForOthers_65, k_X4_barRowsForOthers_66, k_X4_barRowsForOthers_67, k_X4_barRowsForOthers_68, k_X4_barRowsForOthers_71, k_X4_barRowsForOthers_74, k_X4_barRowsForOthers_75, k_X4_barRowsForOthers_78, k_X4_barRowsForOthers_79, k_X4_barRowsForOthers_82, k_X4_barRowsForOthers_85, k_X4_barRowsForOthers_86, k_X4_barRowsForOthers_87, k_X4_barRowsForOthers_89, k_X4_barRowsForOthers_90, k_X4_barRowsForOthers_93, k_X4_barRowsForOthers_94, k_X4_barRowsForOthers_95, k_X4_barRowsForOthers_98, k_X4_barRowsForOthers_101, k_X4_barRowsForOthers_104, k_X4_barRowsForOthers_105, wp1, wp_s, cutIn, kont, Nat.reduceSub, Nat.reduceAdd, nth, o_const, o_lconst, o_ref, o_iload, o_lload, o_aload, o_istore, o_lstore, o_astore, o_iinc, o_bin, o_div, o_un, o_lbin, o_lsh, o_lcmp, o_i2l, o_l2i, o_if, o_icmp, o_goto, o_dup, o_dup2, o_pop, fav, o_getf, o_putI, o_putZ, o_putL, o_ald, o_ast, o_alen, popn, rst, o_callV, o_callT, o_callS, swx, o_sw, o_ret, o_iret, o_zret, o_cret, o_lret, o_aret, lg, lput, lput2, ls1, isL, entL, wsum, rdI1, rdI2, rdA1, rdA21, rdA22, rdL1, rdL22, rdL21, upN_at, rep, sh_0, F_0_0, F_0_1, F_0_2, F_0_3, F_0_4, F_0_5, F_0_6, F_0_7, F_0_8, sh_1, F_1_0, F_1_1, F_1_2, F_1_3, F_1_4, F_1_5, sh_3, F_3_0, F_3_1, F_3_2, F_3_3, F_3_4, F_3_5, sh_5, F_5_0, F_5_1, F_5_2, F_5_3, F_5_4, F_5_5, F_5_6, F_5_7, F_5_8, sh_12, F_12_0, F_12_1, F_12_2, F_12_3, F_12_4, F_12_5, sh_14, F_14_0, F_14_1, F_14_2, F_14_3, F_14_4, F_14_5, F_14_6, F_14_7, F_14_8, sh_21, F_21_0, F_21_1, F_21_2, F_21_3, F_21_4, F_21_5, F_21_6, F_21_7, F_21_8, sh_28, F_28_0, F_28_1, F_28_2, F_28_3, F_28_4, F_28_5, F_28_6, F_28_7, F_28_8, sh_35, F_35_0, sh_39, F_39_0, F_39_1, F_39_2, F_39_3, F_39_4, F_39_5, F_39_6, F_39_7, F_39_8, F_39_9, F_39_10, F_39_11, F_39_12, F_39_13, A_2, A_4, A_6, A_7, A_8, A_9, A_10, A_11, A_13, A_15, A_16, A_17, A_18, A_19, A_20, A_22, A_23, A_24, A_25, A_26, A_27, A_29, A_30, A_31, A_32, A_33, A_34, A_36, A_37, A_38, A_40, A_41, A_42, A_43, A_44, A_45, A_46, A_47]
        refine ⟨v, eb r h0 n p i, rfl, hv, fun j hj => ⟨hf2 j hj, hlt j hj⟩, fun z4 => ?_, fun z4 => ?_⟩
        · dsimp only [k_X4_barRowsForOthers_0, k_X4_barRowsForOthers_1, k_X4_barRowsForOthers_3, k_X4_barRowsForOthers_5, k_X4_barRowsForOthers_8, k_X4_barRowsForOthers_11, k_X4_barRowsForOthers_12, k_X4_barRowsForOthers_15, k_X4_barRowsForOthers_17, k_X4_barRowsForOthers_18, k_X4_barRowsForOthers_19, k_X4_barRowsForOthers_22, k_X4_barRowsForOthers_25, k_X4_barRowsForOthers_26, k_X4_barRowsForOthers_28, k_X4_barRowsForOthers_30, k_X4_barRowsForOthers_31, k_X4_barRowsForOthers_34, k_X4_barRowsForOthers_37, k_X4_barRowsForOthers_40, k_X4_barRowsForOthers_41, k_X4_barRowsForOthers_43, k_X4_barRowsForOthers_44, k_X4_barRowsForOthers_45, k_X4_barRowsForOthers_46, k_X4_barRowsForOthers_49, k_X4_barRowsForOthers_50, k_X4_barRowsForOthers_51, k_X4_barRowsForOthers_54, k_X4_barRowsForOthers_55, k_X4_barRowsForOthers_58, k_X4_barRowsForOthers_61, k_X4_barRowsForOthers_62, k_X4_barRowsForOthers_64, k_X4_barRowsForOthers_65, k_X4_barRowsForOthers_66, k_X4_barRowsForOthers_67, k_X4_barRowsForOthers_68, k_X4_barRowsForOthers_71, k_X4_barRowsForOthers_74, k_X4_barRowsForOthers_75, k_X4_barRowsForOthers_78, k_X4_barRowsForOthers_79, k_X4_barRowsForOthers_82, k_X4_barRowsForOthers_85, k_X4_barRowsForOthers_86, k_X4_barRowsForOthers_87, k_X4_barRowsForOthers_89, k_X4_barRowsForOthers_90, k_X4_barRowsForOthers_93, k_X4_barRowsForOthers_94, k_X4_barRowsForOthers_95, k_X4_barRowsForOthers_98, k_X4_barRowsForOthers_101, k_X4_barRowsForOthers_104, k_X4_barRowsForOthers_105, wp1, wp_s, cutIn, kont, Nat.reduceSub, Nat.reduceAdd, nth, o_const, o_lconst, o_ref, o_iload, o_lload, o_aload, o_istore, o_lstore, o_astore, o_iinc, o_bin, o_div, o_un, o_lbin, o_lsh, o_lcmp, o_i2l, o_l2i, o_if, o_icmp, o_goto, o_dup, o_dup2, o_pop, fav, o_getf, o_putI, o_putZ, o_putL, o_ald, o_ast, o_alen, popn, rst, o_callV, o_callT, o_callS, swx, o_sw, o_ret, o_iret, o_zret, o_cret, o_lret, o_aret, lg, lput, lput2, ls1, isL, entL, wsum, rdI1, rdI2, rdA1, rdA21, rdA22, rdL1, rdL22, rdL21, upN_at, rep, sh_0, F_0_0, F_0_1, F_0_2, F_0_3, F_0_4, F_0_5, F_0_6, F_0_7, F_0_8, sh_1, F_1_0, F_1_1, F_1_2, F_1_3, F_1_4, F_1_5, sh_3, F_3_0, F_3_1, F_3_2, F_3_3, F_3_4, F_3_5, sh_5, F_5_0, F_5_1, F_5_2, F_5_3, F_5_4, F_5_5, F_5_6, F_5_7, F_5_8, sh_12, F_12_0, F_12_1, F_12_2, F_12_3, F_12_4, F_12_5, sh_14, F_14_0, F_14_1, F_14_2, F_14_3, F_14_4, F_14_5, F_14_6, F_14_7, F_14_8, sh_21, F_21_0, F_21_1, F_21_2, F_21_3, F_21_4, F_21_5, F_21_6, F_21_7, F_21_8, sh_28, F_28_0, F_28_1, F_28_2, F_28_3, F_28_4, F_28_5, F_28_6, F_28_7, F_28_8, sh_35, F_35_0, sh_39, F_39_0, F_39_1, F_39_2, F_39_3, F_39_4, F_39_5, F_39_6, F_39_7, F_39_8, F_39_9, F_39_10, F_39_11, F_39_12, F_39_13, A_2, A_4, A_6, A_7, A_8, A_9, A_10, A_11, A_13, A_15, A_16, A_17, A_18, A_19, A_20, A_22, A_23, A_24, A_25, A_26, A_27, A_29, A_30, A_31, A_32, A_33, A_34, A_36, A_37, A_38, A_40, A_41, A_42, A_43, A_44, A_45, A_46, A_47]
          refine ⟨fun q => absurd q (by decide), fun _ => ⟨Or.inl rfl, ?_⟩⟩
          have := h1 ⟨i, by omega, z3, z4⟩ f2 b
          simp only [sA_sA, sA_cm, sI_sA, sI_sI, sI_cm, sL_sA, sL_sI, sL_sL, sL_cm, Nat.reduceLT] at this ⊢
          exact this
        · have nz : ∀ q, q < i + 1 → g.testBit q = true → ¬ rs (eb r h0 n p q) v 9 = 0 := by
            intro q hq2 hq3
            rcases Nat.lt_or_ge q i with e | e
            · exact hq q e hq3
            · rw [show q = i by omega]; exact z4
          dsimp only [k_X4_barRowsForOthers_0, k_X4_barRowsForOthers_1, k_X4_barRowsForOthers_3, k_X4_barRowsForOthers_5, k_X4_barRowsForOthers_8, k_X4_barRowsForOthers_11, k_X4_barRowsForOthers_12, k_X4_barRowsForOthers_15, k_X4_barRowsForOthers_17, k_X4_barRowsForOthers_18, k_X4_barRowsForOthers_19, k_X4_barRowsForOthers_22, k_X4_barRowsForOthers_25, k_X4_barRowsForOthers_26, k_X4_barRowsForOthers_28, k_X4_barRowsForOthers_30, k_X4_barRowsForOthers_31, k_X4_barRowsForOthers_34, k_X4_barRowsForOthers_37, k_X4_barRowsForOthers_40, k_X4_barRowsForOthers_41, k_X4_barRowsForOthers_43, k_X4_barRowsForOthers_44, k_X4_barRowsForOthers_45, k_X4_barRowsForOthers_46, k_X4_barRowsForOthers_49, k_X4_barRowsForOthers_50, k_X4_barRowsForOthers_51, k_X4_barRowsForOthers_54, k_X4_barRowsForOthers_55, k_X4_barRowsForOthers_58, k_X4_barRowsForOthers_61, k_X4_barRowsForOthers_62, k_X4_barRowsForOthers_64, k_X4_barRowsForOthers_65, k_X4_barRowsForOthers_66, k_X4_barRowsForOthers_67, k_X4_barRowsForOthers_68, k_X4_barRowsForOthers_71, k_X4_barRowsForOthers_74, k_X4_barRowsForOthers_75, k_X4_barRowsForOthers_78, k_X4_barRowsForOthers_79, k_X4_barRowsForOthers_82, k_X4_barRowsForOthers_85, k_X4_barRowsForOthers_86, k_X4_barRowsForOthers_87, k_X4_barRowsForOthers_89, k_X4_barRowsForOthers_90, k_X4_barRowsForOthers_93, k_X4_barRowsForOthers_94, k_X4_barRowsForOthers_95, k_X4_barRowsForOthers_98, k_X4_barRowsForOthers_101, k_X4_barRowsForOthers_104, k_X4_barRowsForOthers_105, wp1, wp_s, cutIn, kont, Nat.reduceSub, Nat.reduceAdd, nth, o_const, o_lconst, o_ref, o_iload, o_lload, o_aload, o_istore, o_lstore, o_astore, o_iinc, o_bin, o_div, o_un, o_lbin, o_lsh, o_lcmp, o_i2l, o_l2i, o_if, o_icmp, o_goto, o_dup, o_dup2, o_pop, fav, o_getf, o_putI, o_putZ, o_putL, o_ald, o_ast, o_alen, popn, rst, o_callV, o_callT, o_callS, swx, o_sw, o_ret, o_iret, o_zret, o_cret, o_lret, o_aret, lg, lput, lput2, ls1, isL, entL, wsum, rdI1, rdI2, rdA1, rdA21, rdA22, rdL1, rdL22, rdL21, upN_at, rep, sh_0, F_0_0, F_0_1, F_0_2, F_0_3, F_0_4, F_0_5, F_0_6, F_0_7, F_0_8, sh_1, F_1_0, F_1_1, F_1_2, F_1_3, F_1_4, F_1_5, sh_3, F_3_0, F_3_1, F_3_2, F_3_3, F_3_4, F_3_5, sh_5, F_5_0, F_5_1, F_5_2, F_5_3, F_5_4, F_5_5, F_5_6, F_5_7, F_5_8, sh_12, F_12_0, F_12_1, F_12_2, F_12_3, F_12_4, F_12_5, sh_14, F_14_0, F_14_1, F_14_2, F_14_3, F_14_4, F_14_5, F_14_6, F_14_7, F_14_8, sh_21, F_21_0, F_21_1, F_21_2, F_21_3, F_21_4, F_21_5, F_21_6, F_21_7, F_21_8, sh_28, F_28_0, F_28_1, F_28_2, F_28_3, F_28_4, F_28_5, F_28_6, F_28_7, F_28_8, sh_35, F_35_0, sh_39, F_39_0, F_39_1, F_39_2, F_39_3, F_39_4, F_39_5, F_39_6, F_39_7, F_39_8, F_39_9, F_39_10, F_39_11, F_39_12, F_39_13, A_2, A_4, A_6, A_7, A_8, A_9, A_10, A_11, A_13, A_15, A_16, A_17, A_18, A_19, A_20, A_22, A_23, A_24, A_25, A_26, A_27, A_29, A_30, A_31, A_32, A_33, A_34, A_36, A_37, A_38, A_40, A_41, A_42, A_43, A_44, A_45, A_46, A_47]
          refine ⟨fun _ => ?_, fun q => absurd rfl q⟩
          simp (disch := omega) only [nI_leI, nI_ltI, nI_eq, nI_1, nI_add, one_shl, nI_or, nI_xor, nI_and, bit_0, bit_1, true_or, or_true, true_and, and_true, eq_self, not_true_eq_false, not_false_eq_true, forall_const]
          refine ⟨fun z5 => cut _ _ ⟨rfl, Or.inr ⟨rfl, i + 1, f2, b, by omega, ?_, nb (fun _ => z5), nz, rfl, rfl⟩⟩ (by omega) ⟨rfl, rfl, rfl, rfl, rfl, trivial⟩, fun z5 => ⟨v, eb r h0 n p i, rfl, hv, fun j hj => ⟨hf2 j hj, hlt j hj⟩, ?_⟩⟩
          · simp only [sA_sA, sA_cm, sI_sA, sI_sI, sI_cm, sL_sA, sL_sI, sL_sL, sL_cm, Nat.reduceLT]
          · dsimp only [k_X4_barRowsForOthers_0, k_X4_barRowsForOthers_1, k_X4_barRowsForOthers_3, k_X4_barRowsForOthers_5, k_X4_barRowsForOthers_8, k_X4_barRowsForOthers_11, k_X4_barRowsForOthers_12, k_X4_barRowsForOthers_15, k_X4_barRowsForOthers_17, k_X4_barRowsForOthers_18, k_X4_barRowsForOthers_19, k_X4_barRowsForOthers_22, k_X4_barRowsForOthers_25, k_X4_barRowsForOthers_26, k_X4_barRowsForOthers_28, k_X4_barRowsForOthers_30, k_X4_barRowsForOthers_31, k_X4_barRowsForOthers_34, k_X4_barRowsForOthers_37, k_X4_barRowsForOthers_40, k_X4_barRowsForOthers_41, k_X4_barRowsForOthers_43, k_X4_barRowsForOthers_44, k_X4_barRowsForOthers_45, k_X4_barRowsForOthers_46, k_X4_barRowsForOthers_49, k_X4_barRowsForOthers_50, k_X4_barRowsForOthers_51, k_X4_barRowsForOthers_54, k_X4_barRowsForOthers_55, k_X4_barRowsForOthers_58, k_X4_barRowsForOthers_61, k_X4_barRowsForOthers_62, k_X4_barRowsForOthers_64, k_X4_barRowsForOthers_65, k_X4_barRowsForOthers_66, k_X4_barRowsForOthers_67, k_X4_barRowsForOthers_68, k_X4_barRowsForOthers_71, k_X4_barRowsForOthers_74, k_X4_barRowsForOthers_75, k_X4_barRowsForOthers_78, k_X4_barRowsForOthers_79, k_X4_barRowsForOthers_82, k_X4_barRowsForOthers_85, k_X4_barRowsForOthers_86, k_X4_barRowsForOthers_87, k_X4_barRowsForOthers_89, k_X4_barRowsForOthers_90, k_X4_barRowsForOthers_93, k_X4_barRowsForOthers_94, k_X4_barRowsForOthers_95, k_X4_barRowsForOthers_98, k_X4_barRowsForOthers_101, k_X4_barRowsForOthers_104, k_X4_barRowsForOthers_105, wp1, wp_s, cutIn, kont, Nat.reduceSub, Nat.reduceAdd, nth, o_const, o_lconst, o_ref, o_iload, o_lload, o_aload, o_istore, o_lstore, o_astore, o_iinc, o_bin, o_div, o_un, o_lbin, o_lsh, o_lcmp, o_i2l, o_l2i, o_if, o_icmp, o_goto, o_dup, o_dup2, o_pop, fav, o_getf, o_putI, o_putZ, o_putL, o_ald, o_ast, o_alen, popn, rst, o_callV, o_callT, o_callS, swx, o_sw, o_ret, o_iret, o_zret, o_cret, o_lret, o_aret, lg, lput, lput2, ls1, isL, entL, wsum, rdI1, rdI2, rdA1, rdA21, rdA22, rdL1, rdL22, rdL21, upN_at, rep, sh_0, F_0_0, F_0_1, F_0_2, F_0_3, F_0_4, F_0_5, F_0_6, F_0_7, F_0_8, sh_1, F_1_0, F_1_1, F_1_2, F_1_3, F_1_4, F_1_5, sh_3, F_3_0, F_3_1, F_3_2, F_3_3, F_3_4, F_3_5, sh_5, F_5_0, F_5_1, F_5_2, F_5_3, F_5_4, F_5_5, F_5_6, F_5_7, F_5_8, sh_12, F_12_0, F_12_1, F_12_2, F_12_3, F_12_4, F_12_5, sh_14, F_14_0, F_14_1, F_14_2, F_14_3, F_14_4, F_14_5, F_14_6, F_14_7, F_14_8, sh_21, F_21_0, F_21_1, F_21_2, F_21_3, F_21_4, F_21_5, F_21_6, F_21_7, F_21_8, sh_28, F_28_0, F_28_1, F_28_2, F_28_3, F_28_4, F_28_5, F_28_6, F_28_7, F_28_8, sh_35, F_35_0, sh_39, F_39_0, F_39_1, F_39_2, F_39_3, F_39_4, F_39_5, F_39_6, F_39_7, F_39_8, F_39_9, F_39_10, F_39_11, F_39_12, F_39_13, A_2, A_4, A_6, A_7, A_8, A_9, A_10, A_11, A_13, A_15, A_16, A_17, A_18, A_19, A_20, A_22, A_23, A_24, A_25, A_26, A_27, A_29, A_30, A_31, A_32, A_33, A_34, A_36, A_37, A_38, A_40, A_41, A_42, A_43, A_44, A_45, A_46, A_47]
            refine cut _ _ ⟨rfl, Or.inr ⟨rfl, i + 1, f2, brf (eb r h0 n p i) v b 512, by omega, ?_, ?_, nz, rfl, rfl⟩⟩ (by omega) ⟨rfl, rfl, rfl, rfl, vi_eq (nI_1 _), trivial⟩
            · simp only [sA_sA, sA_cm, sI_sA, sI_sI, sI_cm, sL_sA, sL_sI, sL_sL, sL_cm, Nat.reduceLT]
            · intro row hrow
              obtain ⟨b1, b2⟩ := hb row hrow
              unfold brf
              by_cases e : rs (eb r h0 n p i) row 9 = rs (eb r h0 n p i) v 9
              · rw [if_pos ⟨hrow, e⟩]
                exact ⟨fun _ => rfl, fun z6 => absurd ⟨i, by omega, z3, z5, e⟩ z6⟩
              · rw [if_neg (fun z6 => e z6.2)]
                refine ⟨fun z6 => b1 ?_, fun z6 => b2 fun z7 => z6 ?_⟩
                · obtain ⟨q, g1, g2, g3, g4⟩ := z6
                  refine ⟨q, ?_, g2, g3, g4⟩
                  rcases Nat.lt_or_ge q i with e2 | e2
                  · exact e2
                  · exact absurd (by rw [← show q = i by omega]; exact g4) e
                · obtain ⟨q, g1, g2, g3, g4⟩ := z7
                  exact ⟨q, by omega, g2, g3, g4⟩
  · dsimp only [k_X4_barRowsForOthers_0, k_X4_barRowsForOthers_1, k_X4_barRowsForOthers_3, k_X4_barRowsForOthers_5, k_X4_barRowsForOthers_8, k_X4_barRowsForOthers_11, k_X4_barRowsForOthers_12, k_X4_barRowsForOthers_15, k_X4_barRowsForOthers_17, k_X4_barRowsForOthers_18, k_X4_barRowsForOthers_19, k_X4_barRowsForOthers_22, k_X4_barRowsForOthers_25, k_X4_barRowsForOthers_26, k_X4_barRowsForOthers_28, k_X4_barRowsForOthers_30, k_X4_barRowsForOthers_31, k_X4_barRowsForOthers_34, k_X4_barRowsForOthers_37, k_X4_barRowsForOthers_40, k_X4_barRowsForOthers_41, k_X4_barRowsForOthers_43, k_X4_barRowsForOthers_44, k_X4_barRowsForOthers_45, k_X4_barRowsForOthers_46, k_X4_barRowsForOthers_49, k_X4_barRowsForOthers_50, k_X4_barRowsForOthers_51, k_X4_barRowsForOthers_54, k_X4_barRowsForOthers_55, k_X4_barRowsForOthers_58, k_X4_barRowsForOthers_61, k_X4_barRowsForOthers_62, k_X4_barRowsForOthers_64, k_X4_barRowsForOthers_65, k_X4_barRowsForOthers_66, k_X4_barRowsForOthers_67, k_X4_barRowsForOthers_68, k_X4_barRowsForOthers_71, k_X4_barRowsForOthers_74, k_X4_barRowsForOthers_75, k_X4_barRowsForOthers_78, k_X4_barRowsForOthers_79, k_X4_barRowsForOthers_82, k_X4_barRowsForOthers_85, k_X4_barRowsForOthers_86, k_X4_barRowsForOthers_87, k_X4_barRowsForOthers_89, k_X4_barRowsForOthers_90, k_X4_barRowsForOthers_93, k_X4_barRowsForOthers_94, k_X4_barRowsForOthers_95, k_X4_barRowsForOthers_98, k_X4_barRowsForOthers_101, k_X4_barRowsForOthers_104, k_X4_barRowsForOthers_105, wp1, wp_s, cutIn, kont, Nat.reduceSub, Nat.reduceAdd, nth, o_const, o_lconst, o_ref, o_iload, o_lload, o_aload, o_istore, o_lstore, o_astore, o_iinc, o_bin, o_div, o_un, o_lbin, o_lsh, o_lcmp, o_i2l, o_l2i, o_if, o_icmp, o_goto, o_dup, o_dup2, o_pop, fav, o_getf, o_putI, o_putZ, o_putL, o_ald, o_ast, o_alen, popn, rst, o_callV, o_callT, o_callS, swx, o_sw, o_ret, o_iret, o_zret, o_cret, o_lret, o_aret, lg, lput, lput2, ls1, isL, entL, wsum, rdI1, rdI2, rdA1, rdA21, rdA22, rdL1, rdL22, rdL21, upN_at, rep, sh_0, F_0_0, F_0_1, F_0_2, F_0_3, F_0_4, F_0_5, F_0_6, F_0_7, F_0_8, sh_1, F_1_0, F_1_1, F_1_2, F_1_3, F_1_4, F_1_5, sh_3, F_3_0, F_3_1, F_3_2, F_3_3, F_3_4, F_3_5, sh_5, F_5_0, F_5_1, F_5_2, F_5_3, F_5_4, F_5_5, F_5_6, F_5_7, F_5_8, sh_12, F_12_0, F_12_1, F_12_2, F_12_3, F_12_4, F_12_5, sh_14, F_14_0, F_14_1, F_14_2, F_14_3, F_14_4, F_14_5, F_14_6, F_14_7, F_14_8, sh_21, F_21_0, F_21_1, F_21_2, F_21_3, F_21_4, F_21_5, F_21_6, F_21_7, F_21_8, sh_28, F_28_0, F_28_1, F_28_2, F_28_3, F_28_4, F_28_5, F_28_6, F_28_7, F_28_8, sh_35, F_35_0, sh_39, F_39_0, F_39_1, F_39_2, F_39_3, F_39_4, F_39_5, F_39_6, F_39_7, F_39_8, F_39_9, F_39_10, F_39_11, F_39_12, F_39_13, A_2, A_4, A_6, A_7, A_8, A_9, A_10, A_11, A_13, A_15, A_16, A_17, A_18, A_19, A_20, A_22, A_23, A_24, A_25, A_26, A_27, A_29, A_30, A_31, A_32, A_33, A_34, A_36, A_37, A_38, A_40, A_41, A_42, A_43, A_44, A_45, A_46, A_47]
    refine cut _ _ ⟨rfl, Or.inl ⟨rfl, 0, by omega, ?_, rfl, rfl⟩⟩ (by omega) ⟨rfl, rfl, rfl, rfl, rfl, trivial⟩
    rw [cpy_0, sA_self]
theorem c_X4_barRowsForOthers : Ctr yX4_barRowsForOthers cX4_barRowsForOthers 5 (some .boolean) ({ frames := 3, cells := 0, slots := 0, locals := 68 } : Room) S_X4_barRowsForOthers := ctr_of (T := T_X4_barRowsForOthers) (by decide +kernel) (fun post C hr => t_X4_barRowsForOthers post C hr) v_X4_barRowsForOthers
