/-! The class's spans. -/
/-- what stays of a row: from bit n - 1 on down -/
def rs (B : Nat → Nat) : Nat → Nat → Nat
  | v, 0 => v
  | v, n + 1 => rs B (if v.testBit n = true then v ^^^ B n else v) n
def isB (M : AM) (B : Nat → Nat) : Prop := ∀ j, j < 9 → M.2.2 27 j = nI (B j) ∧ B j < 512
theorem xor512 {a b : Nat} (ha : a < 512) (hb : b < 512) : a ^^^ b < 512 := Nat.xor_lt_two_pow (n := 9) ha hb
def S_X2_empty : SP := fun as M post => as = [VR 35] ∧ post none (sA 27 (cpy (M.2.2 27) (fun _ => 0) 9) M)
def S_X2_rest : SP := fun as M post => ∃ v B, as = [VR 35, VI (nI v)] ∧ v < 512 ∧ isB M B ∧ post (some (VI (nI (rs B v 9)))) M
def S_X2_makes : SP := fun as M post => ∃ v B, as = [VR 35, VI (nI v)] ∧ v < 512 ∧ isB M B ∧ pz (rs B v 9 = 0) post M
def S_X2_widen : SP := fun as M post => ∃ v B, as = [VR 35, VI (nI v)] ∧ v < 512 ∧ isB M B ∧ (rs B v 9 = 0 → post (some (VI 0)) M) ∧ (∀ t, t < 9 → (rs B v 9).testBit t = true → (∀ j, t < j → j < 9 → (rs B v 9).testBit j = false) → post (some (VI 1)) (sA 27 (upd (M.2.2 27) t (nI (rs B v 9))) M))
theorem rs_lt {B : Nat → Nat} (hB : ∀ j, j < 9 → B j < 512) : ∀ n, n ≤ 9 → ∀ v, v < 512 → rs B v n < 512 := by
  intro n
  induction n with
  | zero => intro _ v hv; exact hv
  | succ n ih =>
    intro hn v hv
    rw [rs]
    refine ih (by omega) _ ?_
    split
    · exact xor512 hv (hB n (by omega))
    · exact hv
theorem fl_RX2_9 : Cond.fieldLink RX2 9 (TX2 0).1 (TX2 0).2.1 (TX2 0).2.2.1 ∈ tb := tb_of 181 (by decide +kernel) (by decide +kernel)
theorem dX2_empty_0 : decode cX2_empty 0 = .ok (.iconst 0, 1) := by decide +kernel
theorem dX2_empty_1 : decode cX2_empty 1 = .ok (.istore_n 1, 1) := by decide +kernel
theorem dX2_empty_2 : decode cX2_empty 2 = .ok (.iload_n 1, 1) := by decide +kernel
theorem dX2_empty_3 : decode cX2_empty 3 = .ok (.bipush 9, 2) := by decide +kernel
theorem dX2_empty_5 : decode cX2_empty 5 = .ok (.if_icmp .ge 16, 3) := by decide +kernel
theorem dX2_empty_8 : decode cX2_empty 8 = .ok (.aload_n 0, 1) := by decide +kernel
theorem dX2_empty_9 : decode cX2_empty 9 = .ok (.getfield 9, 3) := by decide +kernel
theorem dX2_empty_12 : decode cX2_empty 12 = .ok (.iload_n 1, 1) := by decide +kernel
theorem dX2_empty_13 : decode cX2_empty 13 = .ok (.iconst 0, 1) := by decide +kernel
theorem dX2_empty_14 : decode cX2_empty 14 = .ok (.iastore, 1) := by decide +kernel
theorem dX2_empty_15 : decode cX2_empty 15 = .ok (.iinc 1 1, 3) := by decide +kernel
theorem dX2_empty_18 : decode cX2_empty 18 = .ok (.goto (-16), 3) := by decide +kernel
theorem dX2_empty_21 : decode cX2_empty 21 = .ok (.return_, 1) := by decide +kernel
def T_X2_empty (post : PO) : List (Nat × OP) := [(0, o_const 0 1), (1, o_istore 1 2), (2, o_iload 1 3), (3, o_const 9 5), (5, o_icmp (fun x y => y ≤ x) 21 8), (8, o_aload 0 9), (9, o_getf 2 0 12), (12, o_iload 1 13), (13, o_const 0 14), (14, o_ast 0 (fun x => x) 15), (15, o_iinc 1 1 18), (18, o_goto 2), (21, o_ret post)]
theorem k_X2_empty_0 (post : PO) : lk (T_X2_empty post) 0 = o_const 0 1 := rfl
theorem k_X2_empty_1 (post : PO) : lk (T_X2_empty post) 1 = o_istore 1 2 := rfl
theorem k_X2_empty_2 (post : PO) : lk (T_X2_empty post) 2 = o_iload 1 3 := rfl
theorem k_X2_empty_3 (post : PO) : lk (T_X2_empty post) 3 = o_const 9 5 := rfl
theorem k_X2_empty_5 (post : PO) : lk (T_X2_empty post) 5 = o_icmp (fun x y => y ≤ x) 21 8 := rfl
theorem k_X2_empty_8 (post : PO) : lk (T_X2_empty post) 8 = o_aload 0 9 := rfl
theorem k_X2_empty_9 (post : PO) : lk (T_X2_empty post) 9 = o_getf 2 0 12 := rfl
theorem k_X2_empty_12 (post : PO) : lk (T_X2_empty post) 12 = o_iload 1 13 := rfl
theorem k_X2_empty_13 (post : PO) : lk (T_X2_empty post) 13 = o_const 0 14 := rfl
theorem k_X2_empty_14 (post : PO) : lk (T_X2_empty post) 14 = o_ast 0 (fun x => x) 15 := rfl
theorem k_X2_empty_15 (post : PO) : lk (T_X2_empty post) 15 = o_iinc 1 1 18 := rfl
theorem k_X2_empty_18 (post : PO) : lk (T_X2_empty post) 18 = o_goto 2 := rfl
theorem k_X2_empty_21 (post : PO) : lk (T_X2_empty post) 21 = o_ret post := rfl
set_option maxRecDepth 100000 in
theorem t_X2_empty {p : Program} {l : Launch} {e : Env} {s : State} {m : MethodId} {args : Array Value} {below : List Frame} {meth : Method} {c : Code} {D : va_G} {dA : Nat → ClassId} {ad : Nat → Nat} (post : PO) (C : CX p s m args meth c cX2_empty 2 yX2_empty.cls D dA ad (AA ad s.heap.size)) (hr : meth.sig.returnType = none) : SndL (WW p l e ({ frames := 0, cells := 0, slots := 0, locals := 0 } : Room) s m args below meth c 0 0 (MQ below (CQ D dA ad post (AA ad s.heap.size)) args s 0 0 (AA ad s.heap.size)) 2 D dA ad (AA ad s.heap.size)) (T_X2_empty post) := by
  refine snd_c (s_iconst C dX2_empty_0 rfl) ?_
  refine snd_c (s_istore_n C rfl (by decide) dX2_empty_1) ?_
  refine snd_c (s_iload_n C rfl dX2_empty_2) ?_
  refine snd_c (s_bipush C dX2_empty_3 rfl) ?_
  refine snd_c (s_icmp_ge C dX2_empty_5 (by decide)) ?_
  refine snd_c (s_aload_n C rfl dX2_empty_8) ?_
  refine snd_c (s_getf C (ci := 2) (j := 0) (T := TX2) rfl inX2 (by decide) fl_RX2_9 dX2_empty_9) ?_
  refine snd_c (s_iload_n C rfl dX2_empty_12) ?_
  refine snd_c (s_iconst C dX2_empty_13 rfl) ?_
  refine snd_c (s_iast C dX2_empty_14) ?_
  refine snd_c (s_iinc C (by decide) rfl dX2_empty_15) ?_
  refine snd_c (s_goto C dX2_empty_18 (by decide)) ?_
  refine snd_c (s_ret C hr dX2_empty_21) ?_
  exact trivial
theorem dX2_rest_0 : decode cX2_rest 0 = .ok (.iload_n 1, 1) := by decide +kernel
theorem dX2_rest_1 : decode cX2_rest 1 = .ok (.istore_n 2, 1) := by decide +kernel
theorem dX2_rest_2 : decode cX2_rest 2 = .ok (.bipush 8, 2) := by decide +kernel
theorem dX2_rest_4 : decode cX2_rest 4 = .ok (.istore_n 3, 1) := by decide +kernel
theorem dX2_rest_5 : decode cX2_rest 5 = .ok (.iload_n 3, 1) := by decide +kernel
theorem dX2_rest_6 : decode cX2_rest 6 = .ok (.ifCond .lt 26, 3) := by decide +kernel
theorem dX2_rest_9 : decode cX2_rest 9 = .ok (.iload_n 2, 1) := by decide +kernel
theorem dX2_rest_10 : decode cX2_rest 10 = .ok (.iload_n 3, 1) := by decide +kernel
theorem dX2_rest_11 : decode cX2_rest 11 = .ok (.ishr, 1) := by decide +kernel
theorem dX2_rest_12 : decode cX2_rest 12 = .ok (.iconst 1, 1) := by decide +kernel
theorem dX2_rest_13 : decode cX2_rest 13 = .ok (.iand, 1) := by decide +kernel
theorem dX2_rest_14 : decode cX2_rest 14 = .ok (.ifCond .eq 12, 3) := by decide +kernel
theorem dX2_rest_17 : decode cX2_rest 17 = .ok (.iload_n 2, 1) := by decide +kernel
theorem dX2_rest_18 : decode cX2_rest 18 = .ok (.aload_n 0, 1) := by decide +kernel
theorem dX2_rest_19 : decode cX2_rest 19 = .ok (.getfield 9, 3) := by decide +kernel
theorem dX2_rest_22 : decode cX2_rest 22 = .ok (.iload_n 3, 1) := by decide +kernel
theorem dX2_rest_23 : decode cX2_rest 23 = .ok (.iaload, 1) := by decide +kernel
theorem dX2_rest_24 : decode cX2_rest 24 = .ok (.ixor, 1) := by decide +kernel
theorem dX2_rest_25 : decode cX2_rest 25 = .ok (.istore_n 2, 1) := by decide +kernel
theorem dX2_rest_26 : decode cX2_rest 26 = .ok (.iinc 3 (-1), 3) := by decide +kernel
theorem dX2_rest_29 : decode cX2_rest 29 = .ok (.goto (-24), 3) := by decide +kernel
theorem dX2_rest_32 : decode cX2_rest 32 = .ok (.iload_n 2, 1) := by decide +kernel
theorem dX2_rest_33 : decode cX2_rest 33 = .ok (.ireturn, 1) := by decide +kernel
def T_X2_rest (post : PO) : List (Nat × OP) := [(0, o_iload 1 1), (1, o_istore 2 2), (2, o_const 8 4), (4, o_istore 3 5), (5, o_iload 3 6), (6, o_if (fun x => x < 0) 32 9), (9, o_iload 2 10), (10, o_iload 3 11), (11, o_bin (fun x y => x >>> (y &&& 31)) 12), (12, o_const 1 13), (13, o_bin (fun x y => x &&& y) 14), (14, o_if (fun x => x = 0) 26 17), (17, o_iload 2 18), (18, o_aload 0 19), (19, o_getf 2 0 22), (22, o_iload 3 23), (23, o_ald 0 24), (24, o_bin (fun x y => x ^^^ y) 25), (25, o_istore 2 26), (26, o_iinc 3 (-1) 29), (29, o_goto 5), (32, o_iload 2 33), (33, o_iret post)]
theorem k_X2_rest_0 (post : PO) : lk (T_X2_rest post) 0 = o_iload 1 1 := rfl
theorem k_X2_rest_1 (post : PO) : lk (T_X2_rest post) 1 = o_istore 2 2 := rfl
theorem k_X2_rest_2 (post : PO) : lk (T_X2_rest post) 2 = o_const 8 4 := rfl
theorem k_X2_rest_4 (post : PO) : lk (T_X2_rest post) 4 = o_istore 3 5 := rfl
theorem k_X2_rest_5 (post : PO) : lk (T_X2_rest post) 5 = o_iload 3 6 := rfl
theorem k_X2_rest_6 (post : PO) : lk (T_X2_rest post) 6 = o_if (fun x => x < 0) 32 9 := rfl
theorem k_X2_rest_9 (post : PO) : lk (T_X2_rest post) 9 = o_iload 2 10 := rfl
theorem k_X2_rest_10 (post : PO) : lk (T_X2_rest post) 10 = o_iload 3 11 := rfl
theorem k_X2_rest_11 (post : PO) : lk (T_X2_rest post) 11 = o_bin (fun x y => x >>> (y &&& 31)) 12 := rfl
theorem k_X2_rest_12 (post : PO) : lk (T_X2_rest post) 12 = o_const 1 13 := rfl
theorem k_X2_rest_13 (post : PO) : lk (T_X2_rest post) 13 = o_bin (fun x y => x &&& y) 14 := rfl
theorem k_X2_rest_14 (post : PO) : lk (T_X2_rest post) 14 = o_if (fun x => x = 0) 26 17 := rfl
theorem k_X2_rest_17 (post : PO) : lk (T_X2_rest post) 17 = o_iload 2 18 := rfl
theorem k_X2_rest_18 (post : PO) : lk (T_X2_rest post) 18 = o_aload 0 19 := rfl
theorem k_X2_rest_19 (post : PO) : lk (T_X2_rest post) 19 = o_getf 2 0 22 := rfl
theorem k_X2_rest_22 (post : PO) : lk (T_X2_rest post) 22 = o_iload 3 23 := rfl
theorem k_X2_rest_23 (post : PO) : lk (T_X2_rest post) 23 = o_ald 0 24 := rfl
theorem k_X2_rest_24 (post : PO) : lk (T_X2_rest post) 24 = o_bin (fun x y => x ^^^ y) 25 := rfl
theorem k_X2_rest_25 (post : PO) : lk (T_X2_rest post) 25 = o_istore 2 26 := rfl
theorem k_X2_rest_26 (post : PO) : lk (T_X2_rest post) 26 = o_iinc 3 (-1) 29 := rfl
theorem k_X2_rest_29 (post : PO) : lk (T_X2_rest post) 29 = o_goto 5 := rfl
theorem k_X2_rest_32 (post : PO) : lk (T_X2_rest post) 32 = o_iload 2 33 := rfl
theorem k_X2_rest_33 (post : PO) : lk (T_X2_rest post) 33 = o_iret post := rfl
set_option maxRecDepth 100000 in
theorem t_X2_rest {p : Program} {l : Launch} {e : Env} {s : State} {m : MethodId} {args : Array Value} {below : List Frame} {meth : Method} {c : Code} {D : va_G} {dA : Nat → ClassId} {ad : Nat → Nat} (post : PO) (C : CX p s m args meth c cX2_rest 4 yX2_rest.cls D dA ad (AA ad s.heap.size)) (hr : meth.sig.returnType = (some .int)) : SndL (WW p l e ({ frames := 0, cells := 0, slots := 0, locals := 0 } : Room) s m args below meth c 0 0 (MQ below (CQ D dA ad post (AA ad s.heap.size)) args s 0 0 (AA ad s.heap.size)) 4 D dA ad (AA ad s.heap.size)) (T_X2_rest post) := by
  refine snd_c (s_iload_n C rfl dX2_rest_0) ?_
  refine snd_c (s_istore_n C rfl (by decide) dX2_rest_1) ?_
  refine snd_c (s_bipush C dX2_rest_2 rfl) ?_
  refine snd_c (s_istore_n C rfl (by decide) dX2_rest_4) ?_
  refine snd_c (s_iload_n C rfl dX2_rest_5) ?_
  refine snd_c (s_if_lt C dX2_rest_6 (by decide)) ?_
  refine snd_c (s_iload_n C rfl dX2_rest_9) ?_
  refine snd_c (s_iload_n C rfl dX2_rest_10) ?_
  refine snd_c (s_ishr C dX2_rest_11) ?_
  refine snd_c (s_iconst C dX2_rest_12 rfl) ?_
  refine snd_c (s_iand C dX2_rest_13) ?_
  refine snd_c (s_if_eq C dX2_rest_14 (by decide)) ?_
  refine snd_c (s_iload_n C rfl dX2_rest_17) ?_
  refine snd_c (s_aload_n C rfl dX2_rest_18) ?_
  refine snd_c (s_getf C (ci := 2) (j := 0) (T := TX2) rfl inX2 (by decide) fl_RX2_9 dX2_rest_19) ?_
  refine snd_c (s_iload_n C rfl dX2_rest_22) ?_
  refine snd_c (s_iald C dX2_rest_23) ?_
  refine snd_c (s_ixor C dX2_rest_24) ?_
  refine snd_c (s_istore_n C rfl (by decide) dX2_rest_25) ?_
  refine snd_c (s_iinc C (by decide) rfl dX2_rest_26) ?_
  refine snd_c (s_goto C dX2_rest_29 (by decide)) ?_
  refine snd_c (s_iload_n C rfl dX2_rest_32) ?_
  refine snd_c (s_iret C hr dX2_rest_33) ?_
  exact trivial
set_option maxRecDepth 100000 in
theorem v_X2_empty : ∀ as M post, S_X2_empty as M post → wsum as ≤ 2 ∧ RUN (T_X2_empty post) 0 (entL 2 as) [] M := by
  rintro as M post ⟨rfl, h⟩
  refine ⟨by show 1 ≤ 2; omega, run_of [2] (fun μ pc lv st M' => pc = 2 ∧ st = [] ∧ ∃ i, i ≤ 9 ∧ M' = sA 27 (cpy (M.2.2 27) (fun _ => 0) i) M ∧ μ = 9 - i ∧ lv = [some (VR 35), some (VI (nI i))]) 40 10 ?_ ?_⟩
  · rintro μ pc lv st M' ⟨rfl, rfl, i, hi, rfl, rfl, rfl⟩
    dsimp only [k_X2_empty_0, k_X2_empty_1, k_X2_empty_2, k_X2_empty_3, k_X2_empty_5, k_X2_empty_8, k_X2_empty_9, k_X2_empty_12, k_X2_empty_13, k_X2_empty_14, k_X2_empty_15, k_X2_empty_18, k_X2_empty_21, wp1, wp_s, cutIn, kont, Nat.reduceSub, Nat.reduceAdd, nth, o_const, o_lconst, o_ref, o_iload, o_lload, o_aload, o_istore, o_lstore, o_astore, o_iinc, o_bin, o_div, o_un, o_lbin, o_lsh, o_lcmp, o_i2l, o_l2i, o_if, o_icmp, o_goto, o_dup, o_dup2, o_pop, fav, o_getf, o_putI, o_putZ, o_putL, o_ald, o_ast, o_alen, popn, rst, o_callV, o_callT, o_callS, swx, o_sw, o_ret, o_iret, o_zret, o_cret, o_lret, o_aret, lg, lput, lput2, ls1, isL, entL, wsum, rdI1, rdI2, rdA1, rdA21, rdA22, rdL1, rdL22, rdL21, upN_at, rep, sh_0, F_0_0, F_0_1, F_0_2, F_0_3, F_0_4, F_0_5, F_0_6, F_0_7, F_0_8, sh_1, F_1_0, F_1_1, F_1_2, F_1_3, F_1_4, F_1_5, sh_3, F_3_0, F_3_1, F_3_2, F_3_3, F_3_4, F_3_5, sh_5, F_5_0, F_5_1, F_5_2, F_5_3, F_5_4, F_5_5, F_5_6, F_5_7, F_5_8, sh_12, F_12_0, F_12_1, F_12_2, F_12_3, F_12_4, F_12_5, sh_14, F_14_0, F_14_1, F_14_2, F_14_3, F_14_4, F_14_5, F_14_6, F_14_7, F_14_8, sh_21, F_21_0, F_21_1, F_21_2, F_21_3, F_21_4, F_21_5, F_21_6, F_21_7, F_21_8, sh_28, F_28_0, F_28_1, F_28_2, F_28_3, F_28_4, F_28_5, F_28_6, F_28_7, F_28_8, sh_35, F_35_0, sh_39, F_39_0, F_39_1, F_39_2, F_39_3, F_39_4, F_39_5, F_39_6, F_39_7, F_39_8, F_39_9, F_39_10, F_39_11, F_39_12, F_39_13, A_2, A_4, A_6, A_7, A_8, A_9, A_10, A_11, A_13, A_15, A_16, A_17, A_18, A_19, A_20, A_22, A_23, A_24, A_25, A_26, A_27, A_29, A_30, A_31, A_32, A_33, A_34, A_36, A_37, A_38, A_40, A_41, A_42, A_43, A_44, A_45, A_46, A_47]
    rw [show (9 : Int32) = nI 9 from rfl]
    simp (disch := omega) only [nI_leI, nI_ltI, nI_eq, nI_1, nI_add, one_shl, nI_or, nI_xor, nI_and, bit_0, bit_1, true_or, or_true, true_and, and_true, eq_self, not_true_eq_false, not_false_eq_true, forall_const]
    refine ⟨fun h1 => ?_, fun h1 => ⟨i, by omega, rfl, cut _ _ ⟨rfl, rfl, i + 1, by omega, ?_, rfl, rfl⟩ (by omega) ⟨rfl, rfl, trivial⟩⟩⟩
    · rw [show i = 9 by omega]; exact h
    · rw [sA_sA]
      exact congrArg (fun f => sA 27 f M) (cpy_s (M.2.2 27) (fun _ => 0) i)
  · dsimp only [k_X2_empty_0, k_X2_empty_1, k_X2_empty_2, k_X2_empty_3, k_X2_empty_5, k_X2_empty_8, k_X2_empty_9, k_X2_empty_12, k_X2_empty_13, k_X2_empty_14, k_X2_empty_15, k_X2_empty_18, k_X2_empty_21, wp1, wp_s, cutIn, kont, Nat.reduceSub, Nat.reduceAdd, nth, o_const, o_lconst, o_ref, o_iload, o_lload, o_aload, o_istore, o_lstore, o_astore, o_iinc, o_bin, o_div, o_un, o_lbin, o_lsh, o_lcmp, o_i2l, o_l2i, o_if, o_icmp, o_goto, o_dup, o_dup2, o_pop, fav, o_getf, o_putI, o_putZ, o_putL, o_ald, o_ast, o_alen, popn, rst, o_callV, o_callT, o_callS, swx, o_sw, o_ret, o_iret, o_zret, o_cret, o_lret, o_aret, lg, lput, lput2, ls1, isL, entL, wsum, rdI1, rdI2, rdA1, rdA21, rdA22, rdL1, rdL22, rdL21, upN_at, rep, sh_0, F_0_0, F_0_1, F_0_2, F_0_3, F_0_4, F_0_5, F_0_6, F_0_7, F_0_8, sh_1, F_1_0, F_1_1, F_1_2, F_1_3, F_1_4, F_1_5, sh_3, F_3_0, F_3_1, F_3_2, F_3_3, F_3_4, F_3_5, sh_5, F_5_0, F_5_1, F_5_2, F_5_3, F_5_4, F_5_5, F_5_6, F_5_7, F_5_8, sh_12, F_12_0, F_12_1, F_12_2, F_12_3, F_12_4, F_12_5, sh_14, F_14_0, F_14_1, F_14_2, F_14_3, F_14_4, F_14_5, F_14_6, F_14_7, F_14_8, sh_21, F_21_0, F_21_1, F_21_2, F_21_3, F_21_4, F_21_5, F_21_6, F_21_7, F_21_8, sh_28, F_28_0, F_28_1, F_28_2, F_28_3, F_28_4, F_28_5, F_28_6, F_28_7, F_28_8, sh_35, F_35_0, sh_39, F_39_0, F_39_1, F_39_2, F_39_3, F_39_4, F_39_5, F_39_6, F_39_7, F_39_8, F_39_9, F_39_10, F_39_11, F_39_12, F_39_13, A_2, A_4, A_6, A_7, A_8, A_9, A_10, A_11, A_13, A_15, A_16, A_17, A_18, A_19, A_20, A_22, A_23, A_24, A_25, A_26, A_27, A_29, A_30, A_31, A_32, A_33, A_34, A_36, A_37, A_38, A_40, A_41, A_42, A_43, A_44, A_45, A_46, A_47]
    refine cut _ _ ⟨rfl, rfl, 0, by omega, ?_, rfl, rfl⟩ (by omega) ⟨rfl, rfl, trivial⟩
    rw [cpy_0, sA_self]
set_option maxRecDepth 100000 in
theorem v_X2_rest : ∀ as M post, S_X2_rest as M post → wsum as ≤ 4 ∧ RUN (T_X2_rest post) 0 (entL 4 as) [] M := by
  rintro as M post ⟨v, B, rfl, hv, hB, h⟩
  refine ⟨by show 2 ≤ 4; omega, run_of [5] (fun μ pc lv st M' => pc = 5 ∧ st = [] ∧ M' = M ∧ ∃ n v', n ≤ 9 ∧ v' < 512 ∧ rs B v' n = rs B v 9 ∧ n = μ ∧ lv = [some (VR 35), some (VI (nI v)), some (VI (nI v')), some (VI (nI n - 1))]) 40 10 ?_ ?_⟩
  · rintro μ pc lv st M' ⟨rfl, rfl, rfl, n, v', hn, hv', he, rfl, rfl⟩
    cases n with
    | zero =>
      dsimp only [k_X2_rest_0, k_X2_rest_1, k_X2_rest_2, k_X2_rest_4, k_X2_rest_5, k_X2_rest_6, k_X2_rest_9, k_X2_rest_10, k_X2_rest_11, k_X2_rest_12, k_X2_rest_13, k_X2_rest_14, k_X2_rest_17, k_X2_rest_18, k_X2_rest_19, k_X2_rest_22, k_X2_rest_23, k_X2_rest_24, k_X2_rest_25, k_X2_rest_26, k_X2_rest_29, k_X2_rest_32, k_X2_rest_33, wp1, wp_s, cutIn, kont, Nat.reduceSub, Nat.reduceAdd, nth, o_const, o_lconst, o_ref, o_iload, o_lload, o_aload, o_istore, o_lstore, o_astore, o_iinc, o_bin, o_div, o_un, o_lbin, o_lsh, o_lcmp, o_i2l, o_l2i, o_if, o_icmp, o_goto, o_dup, o_dup2, o_pop, fav, o_getf, o_putI, o_putZ, o_putL, o_ald, o_ast, o_alen, popn, rst, o_callV, o_callT, o_callS, swx, o_sw, o_ret, o_iret, o_zret, o_cret, o_lret, o_aret, lg, lput, lput2, ls1, isL, entL, wsum, rdI1, rdI2, rdA1, rdA21, rdA22, rdL1, rdL22, rdL21, upN_at, rep, sh_0, F_0_0, F_0_1, F_0_2, F_0_3, F_0_4, F_0_5, F_0_6, F_0_7, F_0_8, sh_1, F_1_0, F_1_1, F_1_2, F_1_3, F_1_4, F_1_5, sh_3, F_3_0, F_3_1, F_3_2, F_3_3, F_3_4, F_3_5, sh_5, F_5_0, F_5_1, F_5_2, F_5_3, F_5_4, F_5_5, F_5_6, F_5_7, F_5_8, sh_12, F_12_0, F_12_1, F_12_2, F_12_3, F_12_4, F_12_5, sh_14, F_14_0, F_14_1, F_14_2, F_14_3, F_14_4, F_14_5, F_14_6, F_14_7, F_14_8, sh_21, F_21_0, F_21_1, F_21_2, F_21_3, F_21_4, F_21_5, F_21_6, F_21_7, F_21_8, sh_28, F_28_0, F_28_1, F_28_2, F_28_3, F_28_4, F_28_5, F_28_6, F_28_7, F_28_8, sh_35, F_35_0, sh_39, F_39_0, F_39_1, F_39_2, F_39_3, F_39_4, F_39_5, F_39_6, F_39_7, F_39_8, F_39_9, F_39_10, F_39_11, F_39_12, F_39_13, A_2, A_4, A_6, A_7, A_8, A_9, A_10, A_11, A_13, A_15, A_16, A_17, A_18, A_19, A_20, A_22, A_23, A_24, A_25, A_26, A_27, A_29, A_30, A_31, A_32, A_33, A_34, A_36, A_37, A_38, A_40, A_41, A_42, A_43, A_44, A_45, A_46, A_47]
      have he : v' = rs B v 9 := he
      rw [he]
      exact ⟨fun _ => h, fun h1 => absurd cnt0 h1⟩
    | succ n =>
      rw [nI_pred]
      dsimp only [k_X2_rest_0, k_X2_rest_1, k_X2_rest_2, k_X2_rest_4, k_X2_rest_5, k_X2_rest_6, k_X2_rest_9, k_X2_rest_10, k_X2_rest_11, k_X2_rest_12, k_X2_rest_13, k_X2_rest_14, k_X2_rest_17, k_X2_rest_18, k_X2_rest_19, k_X2_rest_22, k_X2_rest_23, k_X2_rest_24, k_X2_rest_25, k_X2_rest_26, k_X2_rest_29, k_X2_rest_32, k_X2_rest_33, wp1, wp_s, cutIn, kont, Nat.reduceSub, Nat.reduceAdd, nth, o_const, o_lconst, o_ref, o_iload, o_lload, o_aload, o_istore, o_lstore, o_astore, o_iinc, o_bin, o_div, o_un, o_lbin, o_lsh, o_lcmp, o_i2l, o_l2i, o_if, o_icmp, o_goto, o_dup, o_dup2, o_pop, fav, o_getf, o_putI, o_putZ, o_putL, o_ald, o_ast, o_alen, popn, rst, o_callV, o_callT, o_callS, swx, o_sw, o_ret, o_iret, o_zret, o_cret, o_lret, o_aret, lg, lput, lput2, ls1, isL, entL, wsum, rdI1, rdI2, rdA1, rdA21, rdA22, rdL1, rdL22, rdL21, upN_at, rep, sh_0, F_0_0, F_0_1, F_0_2, F_0_3, F_0_4, F_0_5, F_0_6, F_0_7, F_0_8, sh_1, F_1_0, F_1_1, F_1_2, F_1_3, F_1_4, F_1_5, sh_3, F_3_0, F_3_1, F_3_2, F_3_3, F_3_4, F_3_5, sh_5, F_5_0, F_5_1, F_5_2, F_5_3, F_5_4, F_5_5, F_5_6, F_5_7, F_5_8, sh_12, F_12_0, F_12_1, F_12_2, F_12_3, F_12_4, F_12_5, sh_14, F_14_0, F_14_1, F_14_2, F_14_3, F_14_4, F_14_5, F_14_6, F_14_7, F_14_8, sh_21, F_21_0, F_21_1, F_21_2, F_21_3, F_21_4, F_21_5, F_21_6, F_21_7, F_21_8, sh_28, F_28_0, F_28_1, F_28_2, F_28_3, F_28_4, F_28_5, F_28_6, F_28_7, F_28_8, sh_35, F_35_0, sh_39, F_39_0, F_39_1, F_39_2, F_39_3, F_39_4, F_39_5, F_39_6, F_39_7, F_39_8, F_39_9, F_39_10, F_39_11, F_39_12, F_39_13, A_2, A_4, A_6, A_7, A_8, A_9, A_10, A_11, A_13, A_15, A_16, A_17, A_18, A_19, A_20, A_22, A_23, A_24, A_25, A_26, A_27, A_29, A_30, A_31, A_32, A_33, A_34, A_36, A_37, A_38, A_40, A_41, A_42, A_43, A_44, A_45, A_46, A_47]
      simp (disch := omega) only [nI_leI, nI_ltI, nI_eq, nI_1, nI_add, one_shl, nI_or, nI_xor, nI_and, bit_0, bit_1, true_or, or_true, true_and, and_true, eq_self, not_true_eq_false, not_false_eq_true, forall_const]
      rw [rs] at he
      refine ⟨fun h1 => absurd h1 (nI_pos (by omega)), fun h1 => ⟨fun h2 => ?_, fun h2 => ⟨n, by omega, rfl, ?_⟩⟩⟩
      · rw [if_neg (by rw [h2]; decide)] at he
        exact cut _ _ ⟨rfl, rfl, rfl, n, v', by omega, hv', he, rfl, rfl⟩ (by omega) ⟨rfl, rfl, rfl, vi_eq (m1 _), trivial⟩
      · rw [if_pos (by simpa using h2)] at he
        refine cut _ _ ⟨rfl, rfl, rfl, n, v' ^^^ B n, by omega, xor512 hv' (hB n (by omega)).2, he, rfl, rfl⟩ (by omega) ⟨rfl, rfl, vi_eq ?_, vi_eq (m1 _), trivial⟩
        rw [(hB n (by omega)).1, nI_xor]
  · dsimp only [k_X2_rest_0, k_X2_rest_1, k_X2_rest_2, k_X2_rest_4, k_X2_rest_5, k_X2_rest_6, k_X2_rest_9, k_X2_rest_10, k_X2_rest_11, k_X2_rest_12, k_X2_rest_13, k_X2_rest_14, k_X2_rest_17, k_X2_rest_18, k_X2_rest_19, k_X2_rest_22, k_X2_rest_23, k_X2_rest_24, k_X2_rest_25, k_X2_rest_26, k_X2_rest_29, k_X2_rest_32, k_X2_rest_33, wp1, wp_s, cutIn, kont, Nat.reduceSub, Nat.reduceAdd, nth, o_const, o_lconst, o_ref, o_iload, o_lload, o_aload, o_istore, o_lstore, o_astore, o_iinc, o_bin, o_div, o_un, o_lbin, o_lsh, o_lcmp, o_i2l, o_l2i, o_if, o_icmp, o_goto, o_dup, o_dup2, o_pop, fav, o_getf, o_putI, o_putZ, o_putL, o_ald, o_ast, o_alen, popn, rst, o_callV, o_callT, o_callS, swx, o_sw, o_ret, o_iret, o_zret, o_cret, o_lret, o_aret, lg, lput, lput2, ls1, isL, entL, wsum, rdI1, rdI2, rdA1, rdA21, rdA22, rdL1, rdL22, rdL21, upN_at, rep, sh_0, F_0_0, F_0_1, F_0_2, F_0_3, F_0_4, F_0_5, F_0_6, F_0_7, F_0_8, sh_1, F_1_0, F_1_1, F_1_2, F_1_3, F_1_4, F_1_5, sh_3, F_3_0, F_3_1, F_3_2, F_3_3, F_3_4, F_3_5, sh_5, F_5_0, F_5_1, F_5_2, F_5_3, F_5_4, F_5_5, F_5_6, F_5_7, F_5_8, sh_12, F_12_0, F_12_1, F_12_2, F_12_3, F_12_4, F_12_5, sh_14, F_14_0, F_14_1, F_14_2, F_14_3, F_14_4, F_14_5, F_14_6, F_14_7, F_14_8, sh_21, F_21_0, F_21_1, F_21_2, F_21_3, F_21_4, F_21_5, F_21_6, F_21_7, F_21_8, sh_28, F_28_0, F_28_1, F_28_2, F_28_3, F_28_4, F_28_5, F_28_6, F_28_7, F_28_8, sh_35, F_35_0, sh_39, F_39_0, F_39_1, F_39_2, F_39_3, F_39_4, F_39_5, F_39_6, F_39_7, F_39_8, F_39_9, F_39_10, F_39_11, F_39_12, F_39_13, A_2, A_4, A_6, A_7, A_8, A_9, A_10, A_11, A_13, A_15, A_16, A_17, A_18, A_19, A_20, A_22, A_23, A_24, A_25, A_26, A_27, A_29, A_30, A_31, A_32, A_33, A_34, A_36, A_37, A_38, A_40, A_41, A_42, A_43, A_44, A_45, A_46, A_47]
    exact cut _ _ ⟨rfl, rfl, rfl, 9, v, by omega, hv, rfl, rfl, rfl⟩ (by omega) ⟨rfl, rfl, rfl, rfl, trivial⟩
theorem c_X2_empty : Ctr yX2_empty cX2_empty 2 none ({ frames := 0, cells := 0, slots := 0, locals := 0 } : Room) S_X2_empty := ctr_of (T := T_X2_empty) (by decide +kernel) (fun post C hr => t_X2_empty post C hr) v_X2_empty
theorem c_X2_rest : Ctr yX2_rest cX2_rest 4 (some .int) ({ frames := 0, cells := 0, slots := 0, locals := 0 } : Room) S_X2_rest := ctr_of (T := T_X2_rest) (by decide +kernel) (fun post C hr => t_X2_rest post C hr) v_X2_rest
theorem cw_RX2_15 : ∀ w ∈ ([.methodLink RX2 15 yX2_rest, .instanceMethod yX2_rest, .selects yX2_rest.cls yX2_rest yX2_rest, .initialized yX2_rest.cls, .code yX2_rest cX2_rest 4 (some .int)] : List Cond), w ∈ tb := tb_all [461, 462, 463, 58, 464] (by decide +kernel) (by decide +kernel)
theorem dX2_makes_0 : decode cX2_makes 0 = .ok (.aload_n 0, 1) := by decide +kernel
theorem dX2_makes_1 : decode cX2_makes 1 = .ok (.iload_n 1, 1) := by decide +kernel
theorem dX2_makes_2 : decode cX2_makes 2 = .ok (.invokevirtual 15, 3) := by decide +kernel
theorem dX2_makes_5 : decode cX2_makes 5 = .ok (.ifCond .ne 7, 3) := by decide +kernel
theorem dX2_makes_8 : decode cX2_makes 8 = .ok (.iconst 1, 1) := by decide +kernel
theorem dX2_makes_9 : decode cX2_makes 9 = .ok (.goto 4, 3) := by decide +kernel
theorem dX2_makes_12 : decode cX2_makes 12 = .ok (.iconst 0, 1) := by decide +kernel
theorem dX2_makes_13 : decode cX2_makes 13 = .ok (.ireturn, 1) := by decide +kernel
def T_X2_makes (post : PO) : List (Nat × OP) := [(0, o_aload 0 1), (1, o_iload 1 2), (2, o_callV 2 S_X2_rest 1 5), (5, o_if (fun x => x = 0) 8 12), (8, o_const 1 9), (9, o_goto 13), (12, o_const 0 13), (13, o_zret post)]
theorem k_X2_makes_0 (post : PO) : lk (T_X2_makes post) 0 = o_aload 0 1 := rfl
theorem k_X2_makes_1 (post : PO) : lk (T_X2_makes post) 1 = o_iload 1 2 := rfl
theorem k_X2_makes_2 (post : PO) : lk (T_X2_makes post) 2 = o_callV 2 S_X2_rest 1 5 := rfl
theorem k_X2_makes_5 (post : PO) : lk (T_X2_makes post) 5 = o_if (fun x => x = 0) 8 12 := rfl
theorem k_X2_makes_8 (post : PO) : lk (T_X2_makes post) 8 = o_const 1 9 := rfl
theorem k_X2_makes_9 (post : PO) : lk (T_X2_makes post) 9 = o_goto 13 := rfl
theorem k_X2_makes_12 (post : PO) : lk (T_X2_makes post) 12 = o_const 0 13 := rfl
theorem k_X2_makes_13 (post : PO) : lk (T_X2_makes post) 13 = o_zret post := rfl
set_option maxRecDepth 100000 in
theorem t_X2_makes {p : Program} {l : Launch} {e : Env} {s : State} {m : MethodId} {args : Array Value} {below : List Frame} {meth : Method} {c : Code} {D : va_G} {dA : Nat → ClassId} {ad : Nat → Nat} (post : PO) (C : CX p s m args meth c cX2_makes 2 yX2_makes.cls D dA ad (AA ad s.heap.size)) (hr : meth.sig.returnType = (some .boolean)) : SndL (WW p l e ({ frames := 1, cells := 0, slots := 0, locals := 23 } : Room) s m args below meth c 0 0 (MQ below (CQ D dA ad post (AA ad s.heap.size)) args s 0 0 (AA ad s.heap.size)) 2 D dA ad (AA ad s.heap.size)) (T_X2_makes post) := by
  refine snd_c (s_aload_n C rfl dX2_makes_0) ?_
  refine snd_c (s_iload_n C rfl dX2_makes_1) ?_
  refine snd_c (s_callV C (ci := 2) c_X2_rest rfl cw_RX2_15 ⟨rfl, rfl⟩ ⟨by decide +kernel, by decide +kernel, by decide +kernel⟩ ⟨by decide, by decide⟩ ⟨Nat.zero_le _, Nat.zero_le _⟩ dX2_makes_2) ?_
  refine snd_c (s_if_ne C dX2_makes_5 (by decide)) ?_
  refine snd_c (s_iconst C dX2_makes_8 rfl) ?_
  refine snd_c (s_goto C dX2_makes_9 (by decide)) ?_
  refine snd_c (s_iconst C dX2_makes_12 rfl) ?_
  refine snd_c (s_zret C hr ⟨rfl, rfl⟩ dX2_makes_13) ?_
  exact trivial
theorem dX2_widen_0 : decode cX2_widen 0 = .ok (.aload_n 0, 1) := by decide +kernel
theorem dX2_widen_1 : decode cX2_widen 1 = .ok (.iload_n 1, 1) := by decide +kernel
theorem dX2_widen_2 : decode cX2_widen 2 = .ok (.invokevirtual 15, 3) := by decide +kernel
theorem dX2_widen_5 : decode cX2_widen 5 = .ok (.istore_n 2, 1) := by decide +kernel
theorem dX2_widen_6 : decode cX2_widen 6 = .ok (.bipush 8, 2) := by decide +kernel
theorem dX2_widen_8 : decode cX2_widen 8 = .ok (.istore_n 3, 1) := by decide +kernel
theorem dX2_widen_9 : decode cX2_widen 9 = .ok (.iload_n 3, 1) := by decide +kernel
theorem dX2_widen_10 : decode cX2_widen 10 = .ok (.ifCond .lt 26, 3) := by decide +kernel
theorem dX2_widen_13 : decode cX2_widen 13 = .ok (.iload_n 2, 1) := by decide +kernel
theorem dX2_widen_14 : decode cX2_widen 14 = .ok (.iload_n 3, 1) := by decide +kernel
theorem dX2_widen_15 : decode cX2_widen 15 = .ok (.ishr, 1) := by decide +kernel
theorem dX2_widen_16 : decode cX2_widen 16 = .ok (.iconst 1, 1) := by decide +kernel
theorem dX2_widen_17 : decode cX2_widen 17 = .ok (.iand, 1) := by decide +kernel
theorem dX2_widen_18 : decode cX2_widen 18 = .ok (.ifCond .eq 12, 3) := by decide +kernel
theorem dX2_widen_21 : decode cX2_widen 21 = .ok (.aload_n 0, 1) := by decide +kernel
theorem dX2_widen_22 : decode cX2_widen 22 = .ok (.getfield 9, 3) := by decide +kernel
theorem dX2_widen_25 : decode cX2_widen 25 = .ok (.iload_n 3, 1) := by decide +kernel
theorem dX2_widen_26 : decode cX2_widen 26 = .ok (.iload_n 2, 1) := by decide +kernel
theorem dX2_widen_27 : decode cX2_widen 27 = .ok (.iastore, 1) := by decide +kernel
theorem dX2_widen_28 : decode cX2_widen 28 = .ok (.iconst 1, 1) := by decide +kernel
theorem dX2_widen_29 : decode cX2_widen 29 = .ok (.ireturn, 1) := by decide +kernel
theorem dX2_widen_30 : decode cX2_widen 30 = .ok (.iinc 3 (-1), 3) := by decide +kernel
theorem dX2_widen_33 : decode cX2_widen 33 = .ok (.goto (-24), 3) := by decide +kernel
theorem dX2_widen_36 : decode cX2_widen 36 = .ok (.iconst 0, 1) := by decide +kernel
theorem dX2_widen_37 : decode cX2_widen 37 = .ok (.ireturn, 1) := by decide +kernel
def T_X2_widen (post : PO) : List (Nat × OP) := [(0, o_aload 0 1), (1, o_iload 1 2), (2, o_callV 2 S_X2_rest 1 5), (5, o_istore 2 6), (6, o_const 8 8), (8, o_istore 3 9), (9, o_iload 3 10), (10, o_if (fun x => x < 0) 36 13), (13, o_iload 2 14), (14, o_iload 3 15), (15, o_bin (fun x y => x >>> (y &&& 31)) 16), (16, o_const 1 17), (17, o_bin (fun x y => x &&& y) 18), (18, o_if (fun x => x = 0) 30 21), (21, o_aload 0 22), (22, o_getf 2 0 25), (25, o_iload 3 26), (26, o_iload 2 27), (27, o_ast 0 (fun x => x) 28), (28, o_const 1 29), (29, o_zret post), (30, o_iinc 3 (-1) 33), (33, o_goto 9), (36, o_const 0 37), (37, o_zret post)]
theorem k_X2_widen_0 (post : PO) : lk (T_X2_widen post) 0 = o_aload 0 1 := rfl
theorem k_X2_widen_1 (post : PO) : lk (T_X2_widen post) 1 = o_iload 1 2 := rfl
theorem k_X2_widen_2 (post : PO) : lk (T_X2_widen post) 2 = o_callV 2 S_X2_rest 1 5 := rfl
theorem k_X2_widen_5 (post : PO) : lk (T_X2_widen post) 5 = o_istore 2 6 := rfl
theorem k_X2_widen_6 (post : PO) : lk (T_X2_widen post) 6 = o_const 8 8 := rfl
theorem k_X2_widen_8 (post : PO) : lk (T_X2_widen post) 8 = o_istore 3 9 := rfl
theorem k_X2_widen_9 (post : PO) : lk (T_X2_widen post) 9 = o_iload 3 10 := rfl
theorem k_X2_widen_10 (post : PO) : lk (T_X2_widen post) 10 = o_if (fun x => x < 0) 36 13 := rfl
theorem k_X2_widen_13 (post : PO) : lk (T_X2_widen post) 13 = o_iload 2 14 := rfl
theorem k_X2_widen_14 (post : PO) : lk (T_X2_widen post) 14 = o_iload 3 15 := rfl
theorem k_X2_widen_15 (post : PO) : lk (T_X2_widen post) 15 = o_bin (fun x y => x >>> (y &&& 31)) 16 := rfl
theorem k_X2_widen_16 (post : PO) : lk (T_X2_widen post) 16 = o_const 1 17 := rfl
theorem k_X2_widen_17 (post : PO) : lk (T_X2_widen post) 17 = o_bin (fun x y => x &&& y) 18 := rfl
theorem k_X2_widen_18 (post : PO) : lk (T_X2_widen post) 18 = o_if (fun x => x = 0) 30 21 := rfl
theorem k_X2_widen_21 (post : PO) : lk (T_X2_widen post) 21 = o_aload 0 22 := rfl
theorem k_X2_widen_22 (post : PO) : lk (T_X2_widen post) 22 = o_getf 2 0 25 := rfl
theorem k_X2_widen_25 (post : PO) : lk (T_X2_widen post) 25 = o_iload 3 26 := rfl
theorem k_X2_widen_26 (post : PO) : lk (T_X2_widen post) 26 = o_iload 2 27 := rfl
theorem k_X2_widen_27 (post : PO) : lk (T_X2_widen post) 27 = o_ast 0 (fun x => x) 28 := rfl
theorem k_X2_widen_28 (post : PO) : lk (T_X2_widen post) 28 = o_const 1 29 := rfl
theorem k_X2_widen_29 (post : PO) : lk (T_X2_widen post) 29 = o_zret post := rfl
theorem k_X2_widen_30 (post : PO) : lk (T_X2_widen post) 30 = o_iinc 3 (-1) 33 := rfl
theorem k_X2_widen_33 (post : PO) : lk (T_X2_widen post) 33 = o_goto 9 := rfl
theorem k_X2_widen_36 (post : PO) : lk (T_X2_widen post) 36 = o_const 0 37 := rfl
theorem k_X2_widen_37 (post : PO) : lk (T_X2_widen post) 37 = o_zret post := rfl
set_option maxRecDepth 100000 in
theorem t_X2_widen {p : Program} {l : Launch} {e : Env} {s : State} {m : MethodId} {args : Array Value} {below : List Frame} {meth : Method} {c : Code} {D : va_G} {dA : Nat → ClassId} {ad : Nat → Nat} (post : PO) (C : CX p s m args meth c cX2_widen 4 yX2_widen.cls D dA ad (AA ad s.heap.size)) (hr : meth.sig.returnType = (some .boolean)) : SndL (WW p l e ({ frames := 1, cells := 0, slots := 0, locals := 23 } : Room) s m args below meth c 0 0 (MQ below (CQ D dA ad post (AA ad s.heap.size)) args s 0 0 (AA ad s.heap.size)) 4 D dA ad (AA ad s.heap.size)) (T_X2_widen post) := by
  refine snd_c (s_aload_n C rfl dX2_widen_0) ?_
  refine snd_c (s_iload_n C rfl dX2_widen_1) ?_
  refine snd_c (s_callV C (ci := 2) c_X2_rest rfl cw_RX2_15 ⟨rfl, rfl⟩ ⟨by decide +kernel, by decide +kernel, by decide +kernel⟩ ⟨by decide, by decide⟩ ⟨Nat.zero_le _, Nat.zero_le _⟩ dX2_widen_2) ?_
  refine snd_c (s_istore_n C rfl (by decide) dX2_widen_5) ?_
  refine snd_c (s_bipush C dX2_widen_6 rfl) ?_
  refine snd_c (s_istore_n C rfl (by decide) dX2_widen_8) ?_
  refine snd_c (s_iload_n C rfl dX2_widen_9) ?_
  refine snd_c (s_if_lt C dX2_widen_10 (by decide)) ?_
  refine snd_c (s_iload_n C rfl dX2_widen_13) ?_
  refine snd_c (s_iload_n C rfl dX2_widen_14) ?_
  refine snd_c (s_ishr C dX2_widen_15) ?_
  refine snd_c (s_iconst C dX2_widen_16 rfl) ?_
  refine snd_c (s_iand C dX2_widen_17) ?_
  refine snd_c (s_if_eq C dX2_widen_18 (by decide)) ?_
  refine snd_c (s_aload_n C rfl dX2_widen_21) ?_
  refine snd_c (s_getf C (ci := 2) (j := 0) (T := TX2) rfl inX2 (by decide) fl_RX2_9 dX2_widen_22) ?_
  refine snd_c (s_iload_n C rfl dX2_widen_25) ?_
  refine snd_c (s_iload_n C rfl dX2_widen_26) ?_
  refine snd_c (s_iast C dX2_widen_27) ?_
  refine snd_c (s_iconst C dX2_widen_28 rfl) ?_
  refine snd_c (s_zret C hr ⟨rfl, rfl⟩ dX2_widen_29) ?_
  refine snd_c (s_iinc C (by decide) rfl dX2_widen_30) ?_
  refine snd_c (s_goto C dX2_widen_33 (by decide)) ?_
  refine snd_c (s_iconst C dX2_widen_36 rfl) ?_
  refine snd_c (s_zret C hr ⟨rfl, rfl⟩ dX2_widen_37) ?_
  exact trivial
set_option maxRecDepth 100000 in
theorem v_X2_makes : ∀ as M post, S_X2_makes as M post → wsum as ≤ 2 ∧ RUN (T_X2_makes post) 0 (entL 2 as) [] M := by
  rintro as M post ⟨v, B, rfl, hv, hB, h⟩
  refine ⟨Nat.le_refl 2, run_wp 30 ?_⟩
  dsimp only [k_X2_makes_0, k_X2_makes_1, k_X2_makes_2, k_X2_makes_5, k_X2_makes_8, k_X2_makes_9, k_X2_makes_12, k_X2_makes_13, wp1, wp_s, cutIn, kont, Nat.reduceSub, Nat.reduceAdd, nth, o_const, o_lconst, o_ref, o_iload, o_lload, o_aload, o_istore, o_lstore, o_astore, o_iinc, o_bin, o_div, o_un, o_lbin, o_lsh, o_lcmp, o_i2l, o_l2i, o_if, o_icmp, o_goto, o_dup, o_dup2, o_pop, fav, o_getf, o_putI, o_putZ, o_putL, o_ald, o_ast, o_alen, popn, rst, o_callV, o_callT, o_callS, swx, o_sw, o_ret, o_iret, o_zret, o_cret, o_lret, o_aret, lg, lput, lput2, ls1, isL, entL, wsum, rdI1, rdI2, rdA1, rdA21, rdA22, rdL1, rdL22, rdL21, upN_at, rep, sh_0, F_0_0, F_0_1, F_0_2, F_0_3, F_0_4, F_0_5, F_0_6, F_0_7, F_0_8, sh_1, F_1_0, F_1_1, F_1_2, F_1_3, F_1_4, F_1_5, sh_3, F_3_0, F_3_1, F_3_2, F_3_3, F_3_4, F_3_5, sh_5, F_5_0, F_5_1, F_5_2, F_5_3, F_5_4, F_5_5, F_5_6, F_5_7, F_5_8, sh_12, F_12_0, F_12_1, F_12_2, F_12_3, F_12_4, F_12_5, sh_14, F_14_0, F_14_1, F_14_2, F_14_3, F_14_4, F_14_5, F_14_6, F_14_7, F_14_8, sh_21, F_21_0, F_21_1, F_21_2, F_21_3, F_21_4, F_21_5, F_21_6, F_21_7, F_21_8, sh_28, F_28_0, F_28_1, F_28_2, F_28_3, F_28_4, F_28_5, F_28_6, F_28_7, F_28_8, sh_35, F_35_0, sh_39, F_39_0, F_39_1, F_39_2, F_39_3, F_39_4, F_39_5, F_39_6, F_39_7, F_39_8, F_39_9, F_39_10, F_39_11, F_39_12, F_39_13, A_2, A_4, A_6, A_7, A_8, A_9, A_10, A_11, A_13, A_15, A_16, A_17, A_18, A_19, A_20, A_22, A_23, A_24, A_25, A_26, A_27, A_29, A_30, A_31, A_32, A_33, A_34, A_36, A_37, A_38, A_40, A_41, A_42, A_43, A_44, A_45, A_46, A_47, S_X2_rest]
  refine ⟨v, B, rfl, hv, hB, ?_⟩
  have hl := rs_lt (fun j hj => (hB j hj).2) 9 (Nat.le_refl 9) v hv
  rw [show (0 : Int32) = nI 0 from rfl]
  simp (disch := omega) only [nI_leI, nI_ltI, nI_eq, nI_1, nI_add, one_shl, nI_or, nI_xor, nI_and, bit_0, bit_1, true_or, or_true, true_and, and_true, eq_self, not_true_eq_false, not_false_eq_true, forall_const]
  exact ⟨fun h1 => h.1 h1, fun h1 => h.2 h1⟩
set_option maxRecDepth 100000 in
theorem v_X2_widen : ∀ as M post, S_X2_widen as M post → wsum as ≤ 4 ∧ RUN (T_X2_widen post) 0 (entL 4 as) [] M := by
  rintro as M post ⟨v, B, rfl, hv, hB, h0, h1⟩
  have hl := rs_lt (fun j hj => (hB j hj).2) 9 (Nat.le_refl 9) v hv
  refine ⟨by show 2 ≤ 4; omega, run_of [9] (fun μ pc lv st M' => pc = 9 ∧ st = [] ∧ M' = M ∧ ∃ n, n ≤ 9 ∧ (∀ j, n ≤ j → j < 9 → (rs B v 9).testBit j = false) ∧ n = μ ∧ lv = [some (VR 35), some (VI (nI v)), some (VI (nI (rs B v 9))), some (VI (nI n - 1))]) 40 10 ?_ ?_⟩
  · rintro μ pc lv st M' ⟨rfl, rfl, rfl, n, hn, hz, rfl, rfl⟩
    cases n with
    | zero =>
      dsimp only [k_X2_widen_0, k_X2_widen_1, k_X2_widen_2, k_X2_widen_5, k_X2_widen_6, k_X2_widen_8, k_X2_widen_9, k_X2_widen_10, k_X2_widen_13, k_X2_widen_14, k_X2_widen_15, k_X2_widen_16, k_X2_widen_17, k_X2_widen_18, k_X2_widen_21, k_X2_widen_22, k_X2_widen_25, k_X2_widen_26, k_X2_widen_27, k_X2_widen_28, k_X2_widen_29, k_X2_widen_30, k_X2_widen_33, k_X2_widen_36, k_X2_widen_37, wp1, wp_s, cutIn, kont, Nat.reduceSub, Nat.reduceAdd, nth, o_const, o_lconst, o_ref, o_iload, o_lload, o_aload, o_istore, o_lstore, o_astore, o_iinc, o_bin, o_div, o_un, o_lbin, o_lsh, o_lcmp, o_i2l, o_l2i, o_if, o_icmp, o_goto, o_dup, o_dup2, o_pop, fav, o_getf, o_putI, o_putZ, o_putL, o_ald, o_ast, o_alen, popn, rst, o_callV, o_callT, o_callS, swx, o_sw, o_ret, o_iret, o_zret, o_cret, o_lret, o_aret, lg, lput, lput2, ls1, isL, entL, wsum, rdI1, rdI2, rdA1, rdA21, rdA22, rdL1, rdL22, rdL21, upN_at, rep, sh_0, F_0_0, F_0_1, F_0_2, F_0_3, F_0_4, F_0_5, F_0_6, F_0_7, F_0_8, sh_1, F_1_0, F_1_1, F_1_2, F_1_3, F_1_4, F_1_5, sh_3, F_3_0, F_3_1, F_3_2, F_3_3, F_3_4, F_3_5, sh_5, F_5_0, F_5_1, F_5_2, F_5_3, F_5_4, F_5_5, F_5_6, F_5_7, F_5_8, sh_12, F_12_0, F_12_1, F_12_2, F_12_3, F_12_4, F_12_5, sh_14, F_14_0, F_14_1, F_14_2, F_14_3, F_14_4, F_14_5, F_14_6, F_14_7, F_14_8, sh_21, F_21_0, F_21_1, F_21_2, F_21_3, F_21_4, F_21_5, F_21_6, F_21_7, F_21_8, sh_28, F_28_0, F_28_1, F_28_2, F_28_3, F_28_4, F_28_5, F_28_6, F_28_7, F_28_8, sh_35, F_35_0, sh_39, F_39_0, F_39_1, F_39_2, F_39_3, F_39_4, F_39_5, F_39_6, F_39_7, F_39_8, F_39_9, F_39_10, F_39_11, F_39_12, F_39_13, A_2, A_4, A_6, A_7, A_8, A_9, A_10, A_11, A_13, A_15, A_16, A_17, A_18, A_19, A_20, A_22, A_23, A_24, A_25, A_26, A_27, A_29, A_30, A_31, A_32, A_33, A_34, A_36, A_37, A_38, A_40, A_41, A_42, A_43, A_44, A_45, A_46, A_47]
      simp (disch := omega) only [nI_leI, nI_ltI, nI_eq, nI_1, nI_add, one_shl, nI_or, nI_xor, nI_and, bit_0, bit_1, true_or, or_true, true_and, and_true, eq_self, not_true_eq_false, not_false_eq_true, forall_const]
      refine ⟨fun _ => h0 ?_, fun h1 => absurd cnt0 h1⟩
      refine Nat.eq_of_testBit_eq fun j => ?_
      rw [Nat.zero_testBit]
      rcases Nat.lt_or_ge j 9 with q | q
      · exact hz j (Nat.zero_le j) q
      · exact Nat.testBit_lt_two_pow (Nat.lt_of_lt_of_le hl (Nat.pow_le_pow_right (n := 2) (by omega) q))
    | succ n =>
      rw [nI_pred]
      dsimp only [k_X2_widen_0, k_X2_widen_1, k_X2_widen_2, k_X2_widen_5, k_X2_widen_6, k_X2_widen_8, k_X2_widen_9, k_X2_widen_10, k_X2_widen_13, k_X2_widen_14, k_X2_widen_15, k_X2_widen_16, k_X2_widen_17, k_X2_widen_18, k_X2_widen_21, k_X2_widen_22, k_X2_widen_25, k_X2_widen_26, k_X2_widen_27, k_X2_widen_28, k_X2_widen_29, k_X2_widen_30, k_X2_widen_33, k_X2_widen_36, k_X2_widen_37, wp1, wp_s, cutIn, kont, Nat.reduceSub, Nat.reduceAdd, nth, o_const, o_lconst, o_ref, o_iload, o_lload, o_aload, o_istore, o_lstore, o_astore, o_iinc, o_bin, o_div, o_un, o_lbin, o_lsh, o_lcmp, o_i2l, o_l2i, o_if, o_icmp, o_goto, o_dup, o_dup2, o_pop, fav, o_getf, o_putI, o_putZ, o_putL, o_ald, o_ast, o_alen, popn, rst, o_callV, o_callT, o_callS, swx, o_sw, o_ret, o_iret, o_zret, o_cret, o_lret, o_aret, lg, lput, lput2, ls1, isL, entL, wsum, rdI1, rdI2, rdA1, rdA21, rdA22, rdL1, rdL22, rdL21, upN_at, rep, sh_0, F_0_0, F_0_1, F_0_2, F_0_3, F_0_4, F_0_5, F_0_6, F_0_7, F_0_8, sh_1, F_1_0, F_1_1, F_1_2, F_1_3, F_1_4, F_1_5, sh_3, F_3_0, F_3_1, F_3_2, F_3_3, F_3_4, F_3_5, sh_5, F_5_0, F_5_1, F_5_2, F_5_3, F_5_4, F_5_5, F_5_6, F_5_7, F_5_8, sh_12, F_12_0, F_12_1, F_12_2, F_12_3, F_12_4, F_12_5, sh_14, F_14_0, F_14_1, F_14_2, F_14_3, F_14_4, F_14_5, F_14_6, F_14_7, F_14_8, sh_21, F_21_0, F_21_1, F_21_2, F_21_3, F_21_4, F_21_5, F_21_6, F_21_7, F_21_8, sh_28, F_28_0, F_28_1, F_28_2, F_28_3, F_28_4, F_28_5, F_28_6, F_28_7, F_28_8, sh_35, F_35_0, sh_39, F_39_0, F_39_1, F_39_2, F_39_3, F_39_4, F_39_5, F_39_6, F_39_7, F_39_8, F_39_9, F_39_10, F_39_11, F_39_12, F_39_13, A_2, A_4, A_6, A_7, A_8, A_9, A_10, A_11, A_13, A_15, A_16, A_17, A_18, A_19, A_20, A_22, A_23, A_24, A_25, A_26, A_27, A_29, A_30, A_31, A_32, A_33, A_34, A_36, A_37, A_38, A_40, A_41, A_42, A_43, A_44, A_45, A_46, A_47]
      simp (disch := omega) only [nI_leI, nI_ltI, nI_eq, nI_1, nI_add, one_shl, nI_or, nI_xor, nI_and, bit_0, bit_1, true_or, or_true, true_and, and_true, eq_self, not_true_eq_false, not_false_eq_true, forall_const]
      refine ⟨fun h1 => absurd h1 (nI_pos (by omega)), fun _ => ⟨fun h2 => ?_, fun h2 => ⟨n, by omega, rfl, ?_⟩⟩⟩
      · refine cut _ _ ⟨rfl, rfl, rfl, n, by omega, fun j hj1 hj2 => ?_, rfl, rfl⟩ (by omega) ⟨rfl, rfl, rfl, vi_eq (m1 _), trivial⟩
        rcases Nat.eq_or_lt_of_le hj1 with rfl | q
        · exact h2
        · exact hz j q hj2
      · exact h1 n (by omega) (by simpa using h2) (fun j hj1 hj2 => hz j hj1 hj2)
  · dsimp only [k_X2_widen_0, k_X2_widen_1, k_X2_widen_2, k_X2_widen_5, k_X2_widen_6, k_X2_widen_8, k_X2_widen_9, k_X2_widen_10, k_X2_widen_13, k_X2_widen_14, k_X2_widen_15, k_X2_widen_16, k_X2_widen_17, k_X2_widen_18, k_X2_widen_21, k_X2_widen_22, k_X2_widen_25, k_X2_widen_26, k_X2_widen_27, k_X2_widen_28, k_X2_widen_29, k_X2_widen_30, k_X2_widen_33, k_X2_widen_36, k_X2_widen_37, wp1, wp_s, cutIn, kont, Nat.reduceSub, Nat.reduceAdd, nth, o_const, o_lconst, o_ref, o_iload, o_lload, o_aload, o_istore, o_lstore, o_astore, o_iinc, o_bin, o_div, o_un, o_lbin, o_lsh, o_lcmp, o_i2l, o_l2i, o_if, o_icmp, o_goto, o_dup, o_dup2, o_pop, fav, o_getf, o_putI, o_putZ, o_putL, o_ald, o_ast, o_alen, popn, rst, o_callV, o_callT, o_callS, swx, o_sw, o_ret, o_iret, o_zret, o_cret, o_lret, o_aret, lg, lput, lput2, ls1, isL, entL, wsum, rdI1, rdI2, rdA1, rdA21, rdA22, rdL1, rdL22, rdL21, upN_at, rep, sh_0, F_0_0, F_0_1, F_0_2, F_0_3, F_0_4, F_0_5, F_0_6, F_0_7, F_0_8, sh_1, F_1_0, F_1_1, F_1_2, F_1_3, F_1_4, F_1_5, sh_3, F_3_0, F_3_1, F_3_2, F_3_3, F_3_4, F_3_5, sh_5, F_5_0, F_5_1, F_5_2, F_5_3, F_5_4, F_5_5, F_5_6, F_5_7, F_5_8, sh_12, F_12_0, F_12_1, F_12_2, F_12_3, F_12_4, F_12_5, sh_14, F_14_0, F_14_1, F_14_2, F_14_3, F_14_4, F_14_5, F_14_6, F_14_7, F_14_8, sh_21, F_21_0, F_21_1, F_21_2, F_21_3, F_21_4, F_21_5, F_21_6, F_21_7, F_21_8, sh_28, F_28_0, F_28_1, F_28_2, F_28_3, F_28_4, F_28_5, F_28_6, F_28_7, F_28_8, sh_35, F_35_0, sh_39, F_39_0, F_39_1, F_39_2, F_39_3, F_39_4, F_39_5, F_39_6, F_39_7, F_39_8, F_39_9, F_39_10, F_39_11, F_39_12, F_39_13, A_2, A_4, A_6, A_7, A_8, A_9, A_10, A_11, A_13, A_15, A_16, A_17, A_18, A_19, A_20, A_22, A_23, A_24, A_25, A_26, A_27, A_29, A_30, A_31, A_32, A_33, A_34, A_36, A_37, A_38, A_40, A_41, A_42, A_43, A_44, A_45, A_46, A_47, S_X2_rest]
    refine ⟨v, B, rfl, hv, hB, ?_⟩
    exact cut _ _ ⟨rfl, rfl, rfl, 9, by omega, fun j hj1 hj2 => absurd hj1 (by omega), rfl, rfl⟩ (by omega) ⟨rfl, rfl, rfl, rfl, trivial⟩
theorem c_X2_makes : Ctr yX2_makes cX2_makes 2 (some .boolean) ({ frames := 1, cells := 0, slots := 0, locals := 23 } : Room) S_X2_makes := ctr_of (T := T_X2_makes) (by decide +kernel) (fun post C hr => t_X2_makes post C hr) v_X2_makes
theorem c_X2_widen : Ctr yX2_widen cX2_widen 4 (some .boolean) ({ frames := 1, cells := 0, slots := 0, locals := 23 } : Room) S_X2_widen := ctr_of (T := T_X2_widen) (by decide +kernel) (fun post C hr => t_X2_widen post C hr) v_X2_widen
