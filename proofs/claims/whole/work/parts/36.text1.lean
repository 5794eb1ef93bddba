/-! The model's text: a token. -/
def TT (M : AM) (L : Nat) (t : Nat → Nat) : Prop := M.1 25 = nI L ∧ L ≤ 300 ∧ ∀ j, j < L → M.2.2 30 j = nI (t j) ∧ t j < 256
theorem TT_of {M M' : AM} {L : Nat} {t : Nat → Nat} (h : TT M L t) (e1 : M'.1 25 = M.1 25) (e2 : M'.2.2 30 = M.2.2 30) : TT M' L t := by
  unfold TT at h ⊢
  rw [e1, e2]; exact h
/-- a byte's sort -/
def so (b : Nat) : Int32 := if isW b = true then 1 else if isD b = true then 2 else if b = 59 then 3 else 4
def srA (t : Nat → Nat) (L i : Nat) : Int32 := if i < L then so (t i) else 0
def S_X5_byteAt : SP := fun as M post => ∃ L t i, as = [VR 39, VI (nI i)] ∧ TT M L t ∧ i < 1000 ∧ post (some (VI (bAt t L i))) M
def S_X5_sortOf : SP := fun as M post => ∃ L t i, as = [VI (bAt t L i)] ∧ (∀ j, j < L → t j < 256) ∧ post (some (VI (srA t L i))) M
theorem fl_RX5_7 : Cond.fieldLink RX5 7 (TX5 1).1 (TX5 1).2.1 (TX5 1).2.2.1 ∈ tb := tb_of 634 (by decide +kernel) (by decide +kernel)
theorem dX5_byteAt_0 : decode cX5_byteAt 0 = .ok (.iload_n 1, 1) := by decide +kernel
theorem dX5_byteAt_1 : decode cX5_byteAt 1 = .ok (.aload_n 0, 1) := by decide +kernel
theorem dX5_byteAt_2 : decode cX5_byteAt 2 = .ok (.getfield 39, 3) := by decide +kernel
theorem dX5_byteAt_5 : decode cX5_byteAt 5 = .ok (.if_icmp .ge 12, 3) := by decide +kernel
theorem dX5_byteAt_8 : decode cX5_byteAt 8 = .ok (.aload_n 0, 1) := by decide +kernel
theorem dX5_byteAt_9 : decode cX5_byteAt 9 = .ok (.getfield 7, 3) := by decide +kernel
theorem dX5_byteAt_12 : decode cX5_byteAt 12 = .ok (.iload_n 1, 1) := by decide +kernel
theorem dX5_byteAt_13 : decode cX5_byteAt 13 = .ok (.iaload, 1) := by decide +kernel
theorem dX5_byteAt_14 : decode cX5_byteAt 14 = .ok (.goto 4, 3) := by decide +kernel
theorem dX5_byteAt_17 : decode cX5_byteAt 17 = .ok (.iconst (-1), 1) := by decide +kernel
theorem dX5_byteAt_18 : decode cX5_byteAt 18 = .ok (.ireturn, 1) := by decide +kernel
def T_X5_byteAt (post : PO) : List (Nat × OP) := [(0, o_iload 1 1), (1, o_aload 0 2), (2, o_getf 5 2 5), (5, o_icmp (fun x y => y ≤ x) 17 8), (8, o_aload 0 9), (9, o_getf 5 1 12), (12, o_iload 1 13), (13, o_ald 0 14), (14, o_goto 18), (17, o_const (-1) 18), (18, o_iret post)]
theorem k_X5_byteAt_0 (post : PO) : lk (T_X5_byteAt post) 0 = o_iload 1 1 := rfl
theorem k_X5_byteAt_1 (post : PO) : lk (T_X5_byteAt post) 1 = o_aload 0 2 := rfl
theorem k_X5_byteAt_2 (post : PO) : lk (T_X5_byteAt post) 2 = o_getf 5 2 5 := rfl
theorem k_X5_byteAt_5 (post : PO) : lk (T_X5_byteAt post) 5 = o_icmp (fun x y => y ≤ x) 17 8 := rfl
theorem k_X5_byteAt_8 (post : PO) : lk (T_X5_byteAt post) 8 = o_aload 0 9 := rfl
theorem k_X5_byteAt_9 (post : PO) : lk (T_X5_byteAt post) 9 = o_getf 5 1 12 := rfl
theorem k_X5_byteAt_12 (post : PO) : lk (T_X5_byteAt post) 12 = o_iload 1 13 := rfl
theorem k_X5_byteAt_13 (post : PO) : lk (T_X5_byteAt post) 13 = o_ald 0 14 := rfl
theorem k_X5_byteAt_14 (post : PO) : lk (T_X5_byteAt post) 14 = o_goto 18 := rfl
theorem k_X5_byteAt_17 (post : PO) : lk (T_X5_byteAt post) 17 = o_const (-1) 18 := rfl
theorem k_X5_byteAt_18 (post : PO) : lk (T_X5_byteAt post) 18 = o_iret post := rfl
set_option maxRecDepth 100000 in
theorem t_X5_byteAt {p : Program} {l : Launch} {e : Env} {s : State} {m : MethodId} {args : Array Value} {below : List Frame} {meth : Method} {c : Code} {D : va_G} {dA : Nat → ClassId} {ad : Nat → Nat} (post : PO) (C : CX p s m args meth c cX5_byteAt 2 yX5_byteAt.cls D dA ad (AA ad s.heap.size)) (hr : meth.sig.returnType = (some .int)) : SndL (WW p l e ({ frames := 0, cells := 0, slots := 0, locals := 0 } : Room) s m args below meth c 0 0 (MQ below (CQ D dA ad post (AA ad s.heap.size)) args s 0 0 (AA ad s.heap.size)) 2 D dA ad (AA ad s.heap.size)) (T_X5_byteAt post) := by
  refine snd_c (s_iload_n C rfl dX5_byteAt_0) ?_
  refine snd_c (s_aload_n C rfl dX5_byteAt_1) ?_
  refine snd_c (s_getf C (ci := 5) (j := 2) (T := TX5) rfl inX5 (by decide) fl_RX5_39 dX5_byteAt_2) ?_
  refine snd_c (s_icmp_ge C dX5_byteAt_5 (by decide)) ?_
  refine snd_c (s_aload_n C rfl dX5_byteAt_8) ?_
  refine snd_c (s_getf C (ci := 5) (j := 1) (T := TX5) rfl inX5 (by decide) fl_RX5_7 dX5_byteAt_9) ?_
  refine snd_c (s_iload_n C rfl dX5_byteAt_12) ?_
  refine snd_c (s_iald C dX5_byteAt_13) ?_
  refine snd_c (s_goto C dX5_byteAt_14 (by decide)) ?_
  refine snd_c (s_iconst C dX5_byteAt_17 rfl) ?_
  refine snd_c (s_iret C hr dX5_byteAt_18) ?_
  exact trivial
theorem dX5_sortOf_0 : decode cX5_sortOf 0 = .ok (.iload_n 0, 1) := by decide +kernel
theorem dX5_sortOf_1 : decode cX5_sortOf 1 = .ok (.ifCond .ge 7, 3) := by decide +kernel
theorem dX5_sortOf_4 : decode cX5_sortOf 4 = .ok (.iconst 0, 1) := by decide +kernel
theorem dX5_sortOf_5 : decode cX5_sortOf 5 = .ok (.goto 44, 3) := by decide +kernel
theorem dX5_sortOf_8 : decode cX5_sortOf 8 = .ok (.iload_n 0, 1) := by decide +kernel
theorem dX5_sortOf_9 : decode cX5_sortOf 9 = .ok (.bipush 97, 2) := by decide +kernel
theorem dX5_sortOf_11 : decode cX5_sortOf 11 = .ok (.bipush 122, 2) := by decide +kernel
theorem dX5_sortOf_13 : decode cX5_sortOf 13 = .ok (.invokestatic 35, 3) := by decide +kernel
theorem dX5_sortOf_16 : decode cX5_sortOf 16 = .ok (.ifCond .eq 7, 3) := by decide +kernel
theorem dX5_sortOf_19 : decode cX5_sortOf 19 = .ok (.iconst 1, 1) := by decide +kernel
theorem dX5_sortOf_20 : decode cX5_sortOf 20 = .ok (.goto 29, 3) := by decide +kernel
theorem dX5_sortOf_23 : decode cX5_sortOf 23 = .ok (.iload_n 0, 1) := by decide +kernel
theorem dX5_sortOf_24 : decode cX5_sortOf 24 = .ok (.bipush 48, 2) := by decide +kernel
theorem dX5_sortOf_26 : decode cX5_sortOf 26 = .ok (.bipush 57, 2) := by decide +kernel
theorem dX5_sortOf_28 : decode cX5_sortOf 28 = .ok (.invokestatic 35, 3) := by decide +kernel
theorem dX5_sortOf_31 : decode cX5_sortOf 31 = .ok (.ifCond .eq 7, 3) := by decide +kernel
theorem dX5_sortOf_34 : decode cX5_sortOf 34 = .ok (.iconst 2, 1) := by decide +kernel
theorem dX5_sortOf_35 : decode cX5_sortOf 35 = .ok (.goto 14, 3) := by decide +kernel
theorem dX5_sortOf_38 : decode cX5_sortOf 38 = .ok (.iload_n 0, 1) := by decide +kernel
theorem dX5_sortOf_39 : decode cX5_sortOf 39 = .ok (.bipush 59, 2) := by decide +kernel
theorem dX5_sortOf_41 : decode cX5_sortOf 41 = .ok (.if_icmp .ne 7, 3) := by decide +kernel
theorem dX5_sortOf_44 : decode cX5_sortOf 44 = .ok (.iconst 3, 1) := by decide +kernel
theorem dX5_sortOf_45 : decode cX5_sortOf 45 = .ok (.goto 4, 3) := by decide +kernel
theorem dX5_sortOf_48 : decode cX5_sortOf 48 = .ok (.iconst 4, 1) := by decide +kernel
theorem dX5_sortOf_49 : decode cX5_sortOf 49 = .ok (.ireturn, 1) := by decide +kernel
def T_X5_sortOf (post : PO) : List (Nat × OP) := [(0, o_iload 0 1), (1, o_if (fun x => 0 ≤ x) 8 4), (4, o_const 0 5), (5, o_goto 49), (8, o_iload 0 9), (9, o_const 97 11), (11, o_const 122 13), (13, o_callS S_X5_in 3 16), (16, o_if (fun x => x = 0) 23 19), (19, o_const 1 20), (20, o_goto 49), (23, o_iload 0 24), (24, o_const 48 26), (26, o_const 57 28), (28, o_callS S_X5_in 3 31), (31, o_if (fun x => x = 0) 38 34), (34, o_const 2 35), (35, o_goto 49), (38, o_iload 0 39), (39, o_const 59 41), (41, o_icmp (fun x y => x = y) 44 48), (44, o_const 3 45), (45, o_goto 49), (48, o_const 4 49), (49, o_iret post)]
theorem k_X5_sortOf_0 (post : PO) : lk (T_X5_sortOf post) 0 = o_iload 0 1 := rfl
theorem k_X5_sortOf_1 (post : PO) : lk (T_X5_sortOf post) 1 = o_if (fun x => 0 ≤ x) 8 4 := rfl
theorem k_X5_sortOf_4 (post : PO) : lk (T_X5_sortOf post) 4 = o_const 0 5 := rfl
theorem k_X5_sortOf_5 (post : PO) : lk (T_X5_sortOf post) 5 = o_goto 49 := rfl
theorem k_X5_sortOf_8 (post : PO) : lk (T_X5_sortOf post) 8 = o_iload 0 9 := rfl
theorem k_X5_sortOf_9 (post : PO) : lk (T_X5_sortOf post) 9 = o_const 97 11 := rfl
theorem k_X5_sortOf_11 (post : PO) : lk (T_X5_sortOf post) 11 = o_const 122 13 := rfl
theorem k_X5_sortOf_13 (post : PO) : lk (T_X5_sortOf post) 13 = o_callS S_X5_in 3 16 := rfl
theorem k_X5_sortOf_16 (post : PO) : lk (T_X5_sortOf post) 16 = o_if (fun x => x = 0) 23 19 := rfl
theorem k_X5_sortOf_19 (post : PO) : lk (T_X5_sortOf post) 19 = o_const 1 20 := rfl
theorem k_X5_sortOf_20 (post : PO) : lk (T_X5_sortOf post) 20 = o_goto 49 := rfl
theorem k_X5_sortOf_23 (post : PO) : lk (T_X5_sortOf post) 23 = o_iload 0 24 := rfl
theorem k_X5_sortOf_24 (post : PO) : lk (T_X5_sortOf post) 24 = o_const 48 26 := rfl
theorem k_X5_sortOf_26 (post : PO) : lk (T_X5_sortOf post) 26 = o_const 57 28 := rfl
theorem k_X5_sortOf_28 (post : PO) : lk (T_X5_sortOf post) 28 = o_callS S_X5_in 3 31 := rfl
theorem k_X5_sortOf_31 (post : PO) : lk (T_X5_sortOf post) 31 = o_if (fun x => x = 0) 38 34 := rfl
theorem k_X5_sortOf_34 (post : PO) : lk (T_X5_sortOf post) 34 = o_const 2 35 := rfl
theorem k_X5_sortOf_35 (post : PO) : lk (T_X5_sortOf post) 35 = o_goto 49 := rfl
theorem k_X5_sortOf_38 (post : PO) : lk (T_X5_sortOf post) 38 = o_iload 0 39 := rfl
theorem k_X5_sortOf_39 (post : PO) : lk (T_X5_sortOf post) 39 = o_const 59 41 := rfl
theorem k_X5_sortOf_41 (post : PO) : lk (T_X5_sortOf post) 41 = o_icmp (fun x y => x = y) 44 48 := rfl
theorem k_X5_sortOf_44 (post : PO) : lk (T_X5_sortOf post) 44 = o_const 3 45 := rfl
theorem k_X5_sortOf_45 (post : PO) : lk (T_X5_sortOf post) 45 = o_goto 49 := rfl
theorem k_X5_sortOf_48 (post : PO) : lk (T_X5_sortOf post) 48 = o_const 4 49 := rfl
theorem k_X5_sortOf_49 (post : PO) : lk (T_X5_sortOf post) 49 = o_iret post := rfl
set_option maxRecDepth 100000 in
theorem t_X5_sortOf {p : Program} {l : Launch} {e : Env} {s : State} {m : MethodId} {args : Array Value} {below : List Frame} {meth : Method} {c : Code} {D : va_G} {dA : Nat → ClassId} {ad : Nat → Nat} (post : PO) (C : CX p s m args meth c cX5_sortOf 1 yX5_sortOf.cls D dA ad (AA ad s.heap.size)) (hr : meth.sig.returnType = (some .int)) : SndL (WW p l e ({ frames := 1, cells := 0, slots := 0, locals := 22 } : Room) s m args below meth c 0 0 (MQ below (CQ D dA ad post (AA ad s.heap.size)) args s 0 0 (AA ad s.heap.size)) 1 D dA ad (AA ad s.heap.size)) (T_X5_sortOf post) := by
  refine snd_c (s_iload_n C rfl dX5_sortOf_0) ?_
  refine snd_c (s_if_ge C dX5_sortOf_1 (by decide)) ?_
  refine snd_c (s_iconst C dX5_sortOf_4 rfl) ?_
  refine snd_c (s_goto C dX5_sortOf_5 (by decide)) ?_
  refine snd_c (s_iload_n C rfl dX5_sortOf_8) ?_
  refine snd_c (s_bipush C dX5_sortOf_9 rfl) ?_
  refine snd_c (s_bipush C dX5_sortOf_11 rfl) ?_
  refine snd_c (s_callS C c_X5_in cw_RX5_35 ⟨rfl, rfl⟩ ⟨by decide +kernel, by decide +kernel, by decide +kernel⟩ ⟨by decide, by decide⟩ ⟨Nat.zero_le _, Nat.zero_le _⟩ dX5_sortOf_13) ?_
  refine snd_c (s_if_eq C dX5_sortOf_16 (by decide)) ?_
  refine snd_c (s_iconst C dX5_sortOf_19 rfl) ?_
  refine snd_c (s_goto C dX5_sortOf_20 (by decide)) ?_
  refine snd_c (s_iload_n C rfl dX5_sortOf_23) ?_
  refine snd_c (s_bipush C dX5_sortOf_24 rfl) ?_
  refine snd_c (s_bipush C dX5_sortOf_26 rfl) ?_
  refine snd_c (s_callS C c_X5_in cw_RX5_35 ⟨rfl, rfl⟩ ⟨by decide +kernel, by decide +kernel, by decide +kernel⟩ ⟨by decide, by decide⟩ ⟨Nat.zero_le _, Nat.zero_le _⟩ dX5_sortOf_28) ?_
  refine snd_c (s_if_eq C dX5_sortOf_31 (by decide)) ?_
  refine snd_c (s_iconst C dX5_sortOf_34 rfl) ?_
  refine snd_c (s_goto C dX5_sortOf_35 (by decide)) ?_
  refine snd_c (s_iload_n C rfl dX5_sortOf_38) ?_
  refine snd_c (s_bipush C dX5_sortOf_39 rfl) ?_
  refine snd_c (s_icmp_ne C dX5_sortOf_41 (by decide)) ?_
  refine snd_c (s_iconst C dX5_sortOf_44 rfl) ?_
  refine snd_c (s_goto C dX5_sortOf_45 (by decide)) ?_
  refine snd_c (s_iconst C dX5_sortOf_48 rfl) ?_
  refine snd_c (s_iret C hr dX5_sortOf_49) ?_
  exact trivial
set_option maxRecDepth 100000 in
theorem v_X5_byteAt : ∀ as M post, S_X5_byteAt as M post → wsum as ≤ 2 ∧ RUN (T_X5_byteAt post) 0 (entL 2 as) [] M := by
  rintro as M post ⟨L, t, i, rfl, ⟨hL, hL3, hb⟩, hi, h⟩
  refine ⟨by show 2 ≤ 2; omega, run_wp 40 ?_⟩
  unfold bAt at h
  dsimp only [k_X5_byteAt_0, k_X5_byteAt_1, k_X5_byteAt_2, k_X5_byteAt_5, k_X5_byteAt_8, k_X5_byteAt_9, k_X5_byteAt_12, k_X5_byteAt_13, k_X5_byteAt_14, k_X5_byteAt_17, k_X5_byteAt_18, wp1, wp_s, cutIn, kont, Nat.reduceSub, Nat.reduceAdd, nth, o_const, o_lconst, o_ref, o_iload, o_lload, o_aload, o_istore, o_lstore, o_astore, o_iinc, o_bin, o_div, o_un, o_lbin, o_lsh, o_lcmp, o_i2l, o_l2i, o_if, o_icmp, o_goto, o_dup, o_dup2, o_pop, fav, o_getf, o_putI, o_putZ, o_putL, o_ald, o_ast, o_alen, popn, rst, o_callV, o_callT, o_callS, swx, o_sw, o_ret, o_iret, o_zret, o_cret, o_lret, o_aret, lg, lput, lput2, ls1, isL, entL, wsum, rdI1, rdI2, rdA1, rdA21, rdA22, rdL1, rdL22, rdL21, upN_at, rep, sh_0, F_0_0, F_0_1, F_0_2, F_0_3, F_0_4, F_0_5, F_0_6, F_0_7, F_0_8, sh_1, F_1_0, F_1_1, F_1_2, F_1_3, F_1_4, F_1_5, sh_3, F_3_0, F_3_1, F_3_2, F_3_3, F_3_4, F_3_5, sh_5, F_5_0, F_5_1, F_5_2, F_5_3, F_5_4, F_5_5, F_5_6, F_5_7, F_5_8, sh_12, F_12_0, F_12_1, F_12_2, F_12_3, F_12_4, F_12_5, sh_14, F_14_0, F_14_1, F_14_2, F_14_3, F_14_4, F_14_5, F_14_6, F_14_7, F_14_8, sh_21, F_21_0, F_21_1, F_21_2, F_21_3, F_21_4, F_21_5, F_21_6, F_21_7, F_21_8, sh_28, F_28_0, F_28_1, F_28_2, F_28_3, F_28_4, F_28_5, F_28_6, F_28_7, F_28_8, sh_35, F_35_0, sh_39, F_39_0, F_39_1, F_39_2, F_39_3, F_39_4, F_39_5, F_39_6, F_39_7, F_39_8, F_39_9, F_39_10, F_39_11, F_39_12, F_39_13, A_2, A_4, A_6, A_7, A_8, A_9, A_10, A_11, A_13, A_15, A_16, A_17, A_18, A_19, A_20, A_22, A_23, A_24, A_25, A_26, A_27, A_29, A_30, A_31, A_32, A_33, A_34, A_36, A_37, A_38, A_40, A_41, A_42, A_43, A_44, A_45, A_46, A_47]
  rw [hL]
  simp (disch := omega) only [nI_leI, nI_ltI, nI_eq, nI_1, nI_add, one_shl, nI_or, nI_xor, nI_and, bit_0, bit_1, true_or, or_true, true_and, and_true, eq_self, not_true_eq_false, not_false_eq_true, forall_const]
  refine ⟨fun w1 => ?_, fun w1 => ⟨i, by omega, rfl, ?_⟩⟩
  · rw [if_neg (by omega)] at h; exact h
  · rw [if_pos (by omega)] at h
    rw [(hb i (by omega)).1]; exact h
set_option maxRecDepth 100000 in
theorem v_X5_sortOf : ∀ as M post, S_X5_sortOf as M post → wsum as ≤ 1 ∧ RUN (T_X5_sortOf post) 0 (entL 1 as) [] M := by
  rintro as M post ⟨L, t, i, rfl, ht, h⟩
  refine ⟨by show 1 ≤ 1; omega, run_wp 60 ?_⟩
  unfold srA at h
  unfold bAt
  rcases Nat.lt_or_ge i L with g | g
  · rw [if_pos g] at h ⊢
    have htt := ht i g
    unfold so at h
    dsimp only [k_X5_sortOf_0, k_X5_sortOf_1, k_X5_sortOf_4, k_X5_sortOf_5, k_X5_sortOf_8, k_X5_sortOf_9, k_X5_sortOf_11, k_X5_sortOf_13, k_X5_sortOf_16, k_X5_sortOf_19, k_X5_sortOf_20, k_X5_sortOf_23, k_X5_sortOf_24, k_X5_sortOf_26, k_X5_sortOf_28, k_X5_sortOf_31, k_X5_sortOf_34, k_X5_sortOf_35, k_X5_sortOf_38, k_X5_sortOf_39, k_X5_sortOf_41, k_X5_sortOf_44, k_X5_sortOf_45, k_X5_sortOf_48, k_X5_sortOf_49, wp1, wp_s, cutIn, kont, Nat.reduceSub, Nat.reduceAdd, nth, o_const, o_lconst, o_ref, o_iload, o_lload, o_aload, o_istore, o_lstore, o_astore, o_iinc, o_bin, o_div, o_un, o_lbin, o_lsh, o_lcmp, o_i2l, o_l2i, o_if, o_icmp, o_goto, o_dup, o_dup2, o_pop, fav, o_getf, o_putI, o_putZ, o_putL, o_ald, o_ast, o_alen, popn, rst, o_callV, o_callT, o_callS, swx, o_sw, o_ret, o_iret, o_zret, o_cret, o_lret, o_aret, lg, lput, lput2, ls1, isL, entL, wsum, rdI1, rdI2, rdA1, rdA21, rdA22, rdL1, rdL22, rdL21, upN_at, rep, sh_0, F_0_0, F_0_1, F_0_2, F_0_3, F_0_4, F_0_5, F_0_6, F_0_7, F_0_8, sh_1, F_1_0, F_1_1, F_1_2, F_1_3, F_1_4, F_1_5, sh_3, F_3_0, F_3_1, F_3_2, F_3_3, F_3_4, F_3_5, sh_5, F_5_0, F_5_1, F_5_2, F_5_3, F_5_4, F_5_5, F_5_6, F_5_7, F_5_8, sh_12, F_12_0, F_12_1, F_12_2, F_12_3, F_12_4, F_12_5, sh_14, F_14_0, F_14_1, F_14_2, F_14_3, F_14_4, F_14_5, F_14_6, F_14_7, F_14_8, sh_21, F_21_0, F_21_1, F_21_2, F_21_3, F_21_4, F_21_5, F_21_6, F_21_7, F_21_8, sh_28, F_28_0, F_28_1, F_28_2, F_28_3, F_28_4, F_28_5, F_28_6, F_28_7, F_28_8, sh_35, F_35_0, sh_39, F_39_0, F_39_1, F_39_2, F_39_3, F_39_4, F_39_5, F_39_6, F_39_7, F_39_8, F_39_9, F_39_10, F_39_11, F_39_12, F_39_13, A_2, A_4, A_6, A_7, A_8, A_9, A_10, A_11, A_13, A_15, A_16, A_17, A_18, A_19, A_20, A_22, A_23, A_24, A_25, A_26, A_27, A_29, A_30, A_31, A_32, A_33, A_34, A_36, A_37, A_38, A_40, A_41, A_42, A_43, A_44, A_45, A_46, A_47]
    refine ⟨fun _ => ⟨_, 97, 122, rfl, fun w2 => ?_, fun w2 => ?_⟩, fun w1 => absurd (nI_pos' (by omega)) w1⟩
    · rw [isW_iff htt] at w2
      rw [if_pos w2] at h
      dsimp only [k_X5_sortOf_0, k_X5_sortOf_1, k_X5_sortOf_4, k_X5_sortOf_5, k_X5_sortOf_8, k_X5_sortOf_9, k_X5_sortOf_11, k_X5_sortOf_13, k_X5_sortOf_16, k_X5_sortOf_19, k_X5_sortOf_20, k_X5_sortOf_23, k_X5_sortOf_24, k_X5_sortOf_26, k_X5_sortOf_28, k_X5_sortOf_31, k_X5_sortOf_34, k_X5_sortOf_35, k_X5_sortOf_38, k_X5_sortOf_39, k_X5_sortOf_41, k_X5_sortOf_44, k_X5_sortOf_45, k_X5_sortOf_48, k_X5_sortOf_49, wp1, wp_s, cutIn, kont, Nat.reduceSub, Nat.reduceAdd, nth, o_const, o_lconst, o_ref, o_iload, o_lload, o_aload, o_istore, o_lstore, o_astore, o_iinc, o_bin, o_div, o_un, o_lbin, o_lsh, o_lcmp, o_i2l, o_l2i, o_if, o_icmp, o_goto, o_dup, o_dup2, o_pop, fav, o_getf, o_putI, o_putZ, o_putL, o_ald, o_ast, o_alen, popn, rst, o_callV, o_callT, o_callS, swx, o_sw, o_ret, o_iret, o_zret, o_cret, o_lret, o_aret, lg, lput, lput2, ls1, isL, entL, wsum, rdI1, rdI2, rdA1, rdA21, rdA22, rdL1, rdL22, rdL21, upN_at, rep, sh_0, F_0_0, F_0_1, F_0_2, F_0_3, F_0_4, F_0_5, F_0_6, F_0_7, F_0_8, sh_1, F_1_0, F_1_1, F_1_2, F_1_3, F_1_4, F_1_5, sh_3, F_3_0, F_3_1, F_3_2, F_3_3, F_3_4, F_3_5, sh_5, F_5_0, F_5_1, F_5_2, F_5_3, F_5_4, F_5_5, F_5_6, F_5_7, F_5_8, sh_12, F_12_0, F_12_1, F_12_2, F_12_3, F_12_4, F_12_5, sh_14, F_14_0, F_14_1, F_14_2, F_14_3, F_14_4, F_14_5, F_14_6, F_14_7, F_14_8, sh_21, F_21_0, F_21_1, F_21_2, F_21_3, F_21_4, F_21_5, F_21_6, F_21_7, F_21_8, sh_28, F_28_0, F_28_1, F_28_2, F_28_3, F_28_4, F_28_5, F_28_6, F_28_7, F_28_8, sh_35, F_35_0, sh_39, F_39_0, F_39_1, F_39_2, F_39_3, F_39_4, F_39_5, F_39_6, F_39_7, F_39_8, F_39_9, F_39_10, F_39_11, F_39_12, F_39_13, A_2, A_4, A_6, A_7, A_8, A_9, A_10, A_11, A_13, A_15, A_16, A_17, A_18, A_19, A_20, A_22, A_23, A_24, A_25, A_26, A_27, A_29, A_30, A_31, A_32, A_33, A_34, A_36, A_37, A_38, A_40, A_41, A_42, A_43, A_44, A_45, A_46, A_47]
      simp (config := { decide := true }) only [true_implies, false_implies, and_true, true_and, not_true_eq_false, not_false_eq_true, forall_const]
      exact h
    · rw [isW_iff htt] at w2
      rw [if_neg w2] at h
      dsimp only [k_X5_sortOf_0, k_X5_sortOf_1, k_X5_sortOf_4, k_X5_sortOf_5, k_X5_sortOf_8, k_X5_sortOf_9, k_X5_sortOf_11, k_X5_sortOf_13, k_X5_sortOf_16, k_X5_sortOf_19, k_X5_sortOf_20, k_X5_sortOf_23, k_X5_sortOf_24, k_X5_sortOf_26, k_X5_sortOf_28, k_X5_sortOf_31, k_X5_sortOf_34, k_X5_sortOf_35, k_X5_sortOf_38, k_X5_sortOf_39, k_X5_sortOf_41, k_X5_sortOf_44, k_X5_sortOf_45, k_X5_sortOf_48, k_X5_sortOf_49, wp1, wp_s, cutIn, kont, Nat.reduceSub, Nat.reduceAdd, nth, o_const, o_lconst, o_ref, o_iload, o_lload, o_aload, o_istore, o_lstore, o_astore, o_iinc, o_bin, o_div, o_un, o_lbin, o_lsh, o_lcmp, o_i2l, o_l2i, o_if, o_icmp, o_goto, o_dup, o_dup2, o_pop, fav, o_getf, o_putI, o_putZ, o_putL, o_ald, o_ast, o_alen, popn, rst, o_callV, o_callT, o_callS, swx, o_sw, o_ret, o_iret, o_zret, o_cret, o_lret, o_aret, lg, lput, lput2, ls1, isL, entL, wsum, rdI1, rdI2, rdA1, rdA21, rdA22, rdL1, rdL22, rdL21, upN_at, rep, sh_0, F_0_0, F_0_1, F_0_2, F_0_3, F_0_4, F_0_5, F_0_6, F_0_7, F_0_8, sh_1, F_1_0, F_1_1, F_1_2, F_1_3, F_1_4, F_1_5, sh_3, F_3_0, F_3_1, F_3_2, F_3_3, F_3_4, F_3_5, sh_5, F_5_0, F_5_1, F_5_2, F_5_3, F_5_4, F_5_5, F_5_6, F_5_7, F_5_8, sh_12, F_12_0, F_12_1, F_12_2, F_12_3, F_12_4, F_12_5, sh_14, F_14_0, F_14_1, F_14_2, F_14_3, F_14_4, F_14_5, F_14_6, F_14_7, F_14_8, sh_21, F_21_0, F_21_1, F_21_2, F_21_3, F_21_4, F_21_5, F_21_6, F_21_7, F_21_8, sh_28, F_28_0, F_28_1, F_28_2, F_28_3, F_28_4, F_28_5, F_28_6, F_28_7, F_28_8, sh_35, F_35_0, sh_39, F_39_0, F_39_1, F_39_2, F_39_3, F_39_4, F_39_5, F_39_6, F_39_7, F_39_8, F_39_9, F_39_10, F_39_11, F_39_12, F_39_13, A_2, A_4, A_6, A_7, A_8, A_9, A_10, A_11, A_13, A_15, A_16, A_17, A_18, A_19, A_20, A_22, A_23, A_24, A_25, A_26, A_27, A_29, A_30, A_31, A_32, A_33, A_34, A_36, A_37, A_38, A_40, A_41, A_42, A_43, A_44, A_45, A_46, A_47]
      simp (config := { decide := true }) only [true_implies, false_implies, and_true, true_and, not_true_eq_false, not_false_eq_true, forall_const]
      refine ⟨_, 48, 57, rfl, fun w3 => ?_, fun w3 => ?_⟩
      · rw [isD_iff htt] at w3
        rw [if_pos w3] at h
        dsimp only [k_X5_sortOf_0, k_X5_sortOf_1, k_X5_sortOf_4, k_X5_sortOf_5, k_X5_sortOf_8, k_X5_sortOf_9, k_X5_sortOf_11, k_X5_sortOf_13, k_X5_sortOf_16, k_X5_sortOf_19, k_X5_sortOf_20, k_X5_sortOf_23, k_X5_sortOf_24, k_X5_sortOf_26, k_X5_sortOf_28, k_X5_sortOf_31, k_X5_sortOf_34, k_X5_sortOf_35, k_X5_sortOf_38, k_X5_sortOf_39, k_X5_sortOf_41, k_X5_sortOf_44, k_X5_sortOf_45, k_X5_sortOf_48, k_X5_sortOf_49, wp1, wp_s, cutIn, kont, Nat.reduceSub, Nat.reduceAdd, nth, o_const, o_lconst, o_ref, o_iload, o_lload, o_aload, o_istore, o_lstore, o_astore, o_iinc, o_bin, o_div, o_un, o_lbin, o_lsh, o_lcmp, o_i2l, o_l2i, o_if, o_icmp, o_goto, o_dup, o_dup2, o_pop, fav, o_getf, o_putI, o_putZ, o_putL, o_ald, o_ast, o_alen, popn, rst, o_callV, o_callT, o_callS, swx, o_sw, o_ret, o_iret, o_zret, o_cret, o_lret, o_aret, lg, lput, lput2, ls1, isL, entL, wsum, rdI1, rdI2, rdA1, rdA21, rdA22, rdL1, rdL22, rdL21, upN_at, rep, sh_0, F_0_0, F_0_1, F_0_2, F_0_3, F_0_4, F_0_5, F_0_6, F_0_7, F_0_8, sh_1, F_1_0, F_1_1, F_1_2, F_1_3, F_1_4, F_1_5, sh_3, F_3_0, F_3_1, F_3_2, F_3_3, F_3_4, F_3_5, sh_5, F_5_0, F_5_1, F_5_2, F_5_3, F_5_4, F_5_5, F_5_6, F_5_7, F_5_8, sh_12, F_12_0, F_12_1, F_12_2, F_12_3, F_12_4, F_12_5, sh_14, F_14_0, F_14_1, F_14_2, F_14_3, F_14_4, F_14_5, F_14_6, F_14_7, F_14_8, sh_21, F_21_0, F_21_1, F_21_2, F_21_3, F_21_4, F_21_5, F_21_6, F_21_7, F_21_8, sh_28, F_28_0, F_28_1, F_28_2, F_28_3, F_28_4, F_28_5, F_28_6, F_28_7, F_28_8, sh_35, F_35_0, sh_39, F_39_0, F_39_1, F_39_2, F_39_3, F_39_4, F_39_5, F_39_6, F_39_7, F_39_8, F_39_9, F_39_10, F_39_11, F_39_12, F_39_13, A_2, A_4, A_6, A_7, A_8, A_9, A_10, A_11, A_13, A_15, A_16, A_17, A_18, A_19, A_20, A_22, A_23, A_24, A_25, A_26, A_27, A_29, A_30, A_31, A_32, A_33, A_34, A_36, A_37, A_38, A_40, A_41, A_42, A_43, A_44, A_45, A_46, A_47]
        simp (config := { decide := true }) only [true_implies, false_implies, and_true, true_and, not_true_eq_false, not_false_eq_true, forall_const]
        exact h
      · rw [isD_iff htt] at w3
        rw [if_neg w3] at h
        dsimp only [k_X5_sortOf_0, k_X5_sortOf_1, k_X5_sortOf_4, k_X5_sortOf_5, k_X5_sortOf_8, k_X5_sortOf_9, k_X5_sortOf_11, k_X5_sortOf_13, k_X5_sortOf_16, k_X5_sortOf_19, k_X5_sortOf_20, k_X5_sortOf_23, k_X5_sortOf_24, k_X5_sortOf_26, k_X5_sortOf_28, k_X5_sortOf_31, k_X5_sortOf_34, k_X5_sortOf_35, k_X5_sortOf_38, k_X5_sortOf_39, k_X5_sortOf_41, k_X5_sortOf_44, k_X5_sortOf_45, k_X5_sortOf_48, k_X5_sortOf_49, wp1, wp_s, cutIn, kont, Nat.reduceSub, Nat.reduceAdd, nth, o_const, o_lconst, o_ref, o_iload, o_lload, o_aload, o_istore, o_lstore, o_astore, o_iinc, o_bin, o_div, o_un, o_lbin, o_lsh, o_lcmp, o_i2l, o_l2i, o_if, o_icmp, o_goto, o_dup, o_dup2, o_pop, fav, o_getf, o_putI, o_putZ, o_putL, o_ald, o_ast, o_alen, popn, rst, o_callV, o_callT, o_callS, swx, o_sw, o_ret, o_iret, o_zret, o_cret, o_lret, o_aret, lg, lput, lput2, ls1, isL, entL, wsum, rdI1, rdI2, rdA1, rdA21, rdA22, rdL1, rdL22, rdL21, upN_at, rep, sh_0, F_0_0, F_0_1, F_0_2, F_0_3, F_0_4, F_0_5, F_0_6, F_0_7, F_0_8, sh_1, F_1_0, F_1_1, F_1_2, F_1_3, F_1_4, F_1_5, sh_3, F_3_0, F_3_1, F_3_2, F_3_3, F_3_4, F_3_5, sh_5, F_5_0, F_5_1, F_5_2, F_5_3, F_5_4, F_5_5, F_5_6, F_5_7, F_5_8, sh_12, F_12_0, F_12_1, F_12_2, F_12_3, F_12_4, F_12_5, sh_14, F_14_0, F_14_1, F_14_2, F_14_3, F_14_4, F_14_5, F_14_6, F_14_7, F_14_8, sh_21, F_21_0, F_21_1, F_21_2, F_21_3, F_21_4, F_21_5, F_21_6, F_21_7, F_21_8, sh_28, F_28_0, F_28_1, F_28_2, F_28_3, F_28_4, F_28_5, F_28_6, F_28_7, F_28_8, sh_35, F_35_0, sh_39, F_39_0, F_39_1, F_39_2, F_39_3, F_39_4, F_39_5, F_39_6, F_39_7, F_39_8, F_39_9, F_39_10, F_39_11, F_39_12, F_39_13, A_2, A_4, A_6, A_7, A_8, A_9, A_10, A_11, A_13, A_15, A_16, A_17, A_18, A_19, A_20, A_22, A_23, A_24, A_25, A_26, A_27, A_29, A_30, A_31, A_32, A_33, A_34, A_36, A_37, A_38, A_40, A_41, A_42, A_43, A_44, A_45, A_46, A_47]
        simp (config := { decide := true }) only [true_implies, false_implies, and_true, true_and, not_true_eq_false, not_false_eq_true, forall_const]
        rw [show (59 : Int32) = nI 59 from rfl, nI_eq (by omega) (by omega)]
        refine ⟨fun w4 => ?_, fun w4 => ?_⟩
        · rw [if_pos w4] at h; exact h
        · rw [if_neg w4] at h; exact h
  · rw [if_neg (by omega)] at h ⊢
    dsimp only [k_X5_sortOf_0, k_X5_sortOf_1, k_X5_sortOf_4, k_X5_sortOf_5, k_X5_sortOf_8, k_X5_sortOf_9, k_X5_sortOf_11, k_X5_sortOf_13, k_X5_sortOf_16, k_X5_sortOf_19, k_X5_sortOf_20, k_X5_sortOf_23, k_X5_sortOf_24, k_X5_sortOf_26, k_X5_sortOf_28, k_X5_sortOf_31, k_X5_sortOf_34, k_X5_sortOf_35, k_X5_sortOf_38, k_X5_sortOf_39, k_X5_sortOf_41, k_X5_sortOf_44, k_X5_sortOf_45, k_X5_sortOf_48, k_X5_sortOf_49, wp1, wp_s, cutIn, kont, Nat.reduceSub, Nat.reduceAdd, nth, o_const, o_lconst, o_ref, o_iload, o_lload, o_aload, o_istore, o_lstore, o_astore, o_iinc, o_bin, o_div, o_un, o_lbin, o_lsh, o_lcmp, o_i2l, o_l2i, o_if, o_icmp, o_goto, o_dup, o_dup2, o_pop, fav, o_getf, o_putI, o_putZ, o_putL, o_ald, o_ast, o_alen, popn, rst, o_callV, o_callT, o_callS, swx, o_sw, o_ret, o_iret, o_zret, o_cret, o_lret, o_aret, lg, lput, lput2, ls1, isL, entL, wsum, rdI1, rdI2, rdA1, rdA21, rdA22, rdL1, rdL22, rdL21, upN_at, rep, sh_0, F_0_0, F_0_1, F_0_2, F_0_3, F_0_4, F_0_5, F_0_6, F_0_7, F_0_8, sh_1, F_1_0, F_1_1, F_1_2, F_1_3, F_1_4, F_1_5, sh_3, F_3_0, F_3_1, F_3_2, F_3_3, F_3_4, F_3_5, sh_5, F_5_0, F_5_1, F_5_2, F_5_3, F_5_4, F_5_5, F_5_6, F_5_7, F_5_8, sh_12, F_12_0, F_12_1, F_12_2, F_12_3, F_12_4, F_12_5, sh_14, F_14_0, F_14_1, F_14_2, F_14_3, F_14_4, F_14_5, F_14_6, F_14_7, F_14_8, sh_21, F_21_0, F_21_1, F_21_2, F_21_3, F_21_4, F_21_5, F_21_6, F_21_7, F_21_8, sh_28, F_28_0, F_28_1, F_28_2, F_28_3, F_28_4, F_28_5, F_28_6, F_28_7, F_28_8, sh_35, F_35_0, sh_39, F_39_0, F_39_1, F_39_2, F_39_3, F_39_4, F_39_5, F_39_6, F_39_7, F_39_8, F_39_9, F_39_10, F_39_11, F_39_12, F_39_13, A_2, A_4, A_6, A_7, A_8, A_9, A_10, A_11, A_13, A_15, A_16, A_17, A_18, A_19, A_20, A_22, A_23, A_24, A_25, A_26, A_27, A_29, A_30, A_31, A_32, A_33, A_34, A_36, A_37, A_38, A_40, A_41, A_42, A_43, A_44, A_45, A_46, A_47]
    exact ⟨fun w1 => absurd w1 (by decide), fun _ => h⟩
theorem c_X5_byteAt : Ctr yX5_byteAt cX5_byteAt 2 (some .int) ({ frames := 0, cells := 0, slots := 0, locals := 0 } : Room) S_X5_byteAt := ctr_of (T := T_X5_byteAt) (by decide +kernel) (fun post C hr => t_X5_byteAt post C hr) v_X5_byteAt
theorem c_X5_sortOf : Ctr yX5_sortOf cX5_sortOf 1 (some .int) ({ frames := 1, cells := 0, slots := 0, locals := 22 } : Room) S_X5_sortOf := ctr_of (T := T_X5_sortOf) (by decide +kernel) (fun post C hr => t_X5_sortOf post C hr) v_X5_sortOf
def tkE (t : Nat → Nat) (L p : Nat) : Nat := if L ≤ tkS t L p then tkS t L p else if isW (t (tkS t L p)) = true then sk isW t (L - tkS t L p) (tkS t L p) else if isD (t (tkS t L p)) = true then sk isD t (L - tkS t L p) (tkS t L p) else tkS t L p + 1
/-- the memory behind a token read from p on -/
def tkN (t : Nat → Nat) (L p : Nat) (M : AM) : AM := sI 29 (nI (tkE t L p - tkS t L p)) (sI 28 (nI (tkS t L p)) (sI 27 (srA t L (tkS t L p)) (sI 26 (nI (tkE t L p)) M)))
def S_X5_token : SP := fun as M post => ∃ L t p, as = [VR 39] ∧ TT M L t ∧ M.1 26 = nI p ∧ p ≤ 301 ∧ post none (tkN t L p M)
theorem fl_RX5_45 : Cond.fieldLink RX5 45 (TX5 8).1 (TX5 8).2.1 (TX5 8).2.2.1 ∈ tb := tb_of 641 (by decide +kernel) (by decide +kernel)
theorem cw_RX5_48 : ∀ w ∈ ([.methodLink RX5 48 yX5_byteAt, .instanceMethod yX5_byteAt, .selects yX5_byteAt.cls yX5_byteAt yX5_byteAt, .initialized yX5_byteAt.cls, .code yX5_byteAt cX5_byteAt 2 (some .int)] : List Cond), w ∈ tb := tb_all [700, 702, 32, 59, 703] (by decide +kernel) (by decide +kernel)
theorem fl_RX5_52 : Cond.fieldLink RX5 52 (TX5 10).1 (TX5 10).2.1 (TX5 10).2.2.1 ∈ tb := tb_of 643 (by decide +kernel) (by decide +kernel)
theorem cw_RX5_55 : ∀ w ∈ ([.methodLink RX5 55 yX5_sortOf, .static yX5_sortOf, .initialized yX5_sortOf.cls, .code yX5_sortOf cX5_sortOf 1 (some .int)] : List Cond), w ∈ tb := tb_all [704, 705, 59, 706] (by decide +kernel) (by decide +kernel)
theorem fl_RX5_58 : Cond.fieldLink RX5 58 (TX5 9).1 (TX5 9).2.1 (TX5 9).2.2.1 ∈ tb := tb_of 642 (by decide +kernel) (by decide +kernel)
theorem fl_RX5_61 : Cond.fieldLink RX5 61 (TX5 11).1 (TX5 11).2.1 (TX5 11).2.2.1 ∈ tb := tb_of 644 (by decide +kernel) (by decide +kernel)
theorem dX5_token_0 : decode cX5_token 0 = .ok (.aload_n 0, 1) := by decide +kernel
theorem dX5_token_1 : decode cX5_token 1 = .ok (.aload_n 0, 1) := by decide +kernel
theorem dX5_token_2 : decode cX5_token 2 = .ok (.getfield 45, 3) := by decide +kernel
theorem dX5_token_5 : decode cX5_token 5 = .ok (.invokevirtual 48, 3) := by decide +kernel
theorem dX5_token_8 : decode cX5_token 8 = .ok (.bipush 32, 2) := by decide +kernel
theorem dX5_token_10 : decode cX5_token 10 = .ok (.if_icmp .ne 16, 3) := by decide +kernel
theorem dX5_token_13 : decode cX5_token 13 = .ok (.aload_n 0, 1) := by decide +kernel
theorem dX5_token_14 : decode cX5_token 14 = .ok (.dup, 1) := by decide +kernel
theorem dX5_token_15 : decode cX5_token 15 = .ok (.getfield 45, 3) := by decide +kernel
theorem dX5_token_18 : decode cX5_token 18 = .ok (.iconst 1, 1) := by decide +kernel
theorem dX5_token_19 : decode cX5_token 19 = .ok (.iadd, 1) := by decide +kernel
theorem dX5_token_20 : decode cX5_token 20 = .ok (.putfield 45, 3) := by decide +kernel
theorem dX5_token_23 : decode cX5_token 23 = .ok (.goto (-23), 3) := by decide +kernel
theorem dX5_token_26 : decode cX5_token 26 = .ok (.aload_n 0, 1) := by decide +kernel
theorem dX5_token_27 : decode cX5_token 27 = .ok (.aload_n 0, 1) := by decide +kernel
theorem dX5_token_28 : decode cX5_token 28 = .ok (.getfield 45, 3) := by decide +kernel
theorem dX5_token_31 : decode cX5_token 31 = .ok (.putfield 52, 3) := by decide +kernel
theorem dX5_token_34 : decode cX5_token 34 = .ok (.aload_n 0, 1) := by decide +kernel
theorem dX5_token_35 : decode cX5_token 35 = .ok (.aload_n 0, 1) := by decide +kernel
theorem dX5_token_36 : decode cX5_token 36 = .ok (.aload_n 0, 1) := by decide +kernel
theorem dX5_token_37 : decode cX5_token 37 = .ok (.getfield 45, 3) := by decide +kernel
theorem dX5_token_40 : decode cX5_token 40 = .ok (.invokevirtual 48, 3) := by decide +kernel
theorem dX5_token_43 : decode cX5_token 43 = .ok (.invokestatic 55, 3) := by decide +kernel
theorem dX5_token_46 : decode cX5_token 46 = .ok (.putfield 58, 3) := by decide +kernel
theorem dX5_token_49 : decode cX5_token 49 = .ok (.aload_n 0, 1) := by decide +kernel
theorem dX5_token_50 : decode cX5_token 50 = .ok (.iconst 0, 1) := by decide +kernel
theorem dX5_token_51 : decode cX5_token 51 = .ok (.putfield 61, 3) := by decide +kernel
theorem dX5_token_54 : decode cX5_token 54 = .ok (.aload_n 0, 1) := by decide +kernel
theorem dX5_token_55 : decode cX5_token 55 = .ok (.getfield 61, 3) := by decide +kernel
theorem dX5_token_58 : decode cX5_token 58 = .ok (.ifCond .ne 10, 3) := by decide +kernel
theorem dX5_token_61 : decode cX5_token 61 = .ok (.aload_n 0, 1) := by decide +kernel
theorem dX5_token_62 : decode cX5_token 62 = .ok (.getfield 58, 3) := by decide +kernel
theorem dX5_token_65 : decode cX5_token 65 = .ok (.ifCond .ne 37, 3) := by decide +kernel
theorem dX5_token_68 : decode cX5_token 68 = .ok (.aload_n 0, 1) := by decide +kernel
theorem dX5_token_69 : decode cX5_token 69 = .ok (.getfield 58, 3) := by decide +kernel
theorem dX5_token_72 : decode cX5_token 72 = .ok (.iconst 1, 1) := by decide +kernel
theorem dX5_token_73 : decode cX5_token 73 = .ok (.if_icmp .eq 11, 3) := by decide +kernel
theorem dX5_token_76 : decode cX5_token 76 = .ok (.aload_n 0, 1) := by decide +kernel
theorem dX5_token_77 : decode cX5_token 77 = .ok (.getfield 58, 3) := by decide +kernel
theorem dX5_token_80 : decode cX5_token 80 = .ok (.iconst 2, 1) := by decide +kernel
theorem dX5_token_81 : decode cX5_token 81 = .ok (.if_icmp .ne 44, 3) := by decide +kernel
theorem dX5_token_84 : decode cX5_token 84 = .ok (.aload_n 0, 1) := by decide +kernel
theorem dX5_token_85 : decode cX5_token 85 = .ok (.aload_n 0, 1) := by decide +kernel
theorem dX5_token_86 : decode cX5_token 86 = .ok (.getfield 45, 3) := by decide +kernel
theorem dX5_token_89 : decode cX5_token 89 = .ok (.invokevirtual 48, 3) := by decide +kernel
theorem dX5_token_92 : decode cX5_token 92 = .ok (.invokestatic 55, 3) := by decide +kernel
theorem dX5_token_95 : decode cX5_token 95 = .ok (.aload_n 0, 1) := by decide +kernel
theorem dX5_token_96 : decode cX5_token 96 = .ok (.getfield 58, 3) := by decide +kernel
theorem dX5_token_99 : decode cX5_token 99 = .ok (.if_icmp .ne 26, 3) := by decide +kernel
theorem dX5_token_102 : decode cX5_token 102 = .ok (.aload_n 0, 1) := by decide +kernel
theorem dX5_token_103 : decode cX5_token 103 = .ok (.dup, 1) := by decide +kernel
theorem dX5_token_104 : decode cX5_token 104 = .ok (.getfield 45, 3) := by decide +kernel
theorem dX5_token_107 : decode cX5_token 107 = .ok (.iconst 1, 1) := by decide +kernel
theorem dX5_token_108 : decode cX5_token 108 = .ok (.iadd, 1) := by decide +kernel
theorem dX5_token_109 : decode cX5_token 109 = .ok (.putfield 45, 3) := by decide +kernel
theorem dX5_token_112 : decode cX5_token 112 = .ok (.aload_n 0, 1) := by decide +kernel
theorem dX5_token_113 : decode cX5_token 113 = .ok (.dup, 1) := by decide +kernel
theorem dX5_token_114 : decode cX5_token 114 = .ok (.getfield 61, 3) := by decide +kernel
theorem dX5_token_117 : decode cX5_token 117 = .ok (.iconst 1, 1) := by decide +kernel
theorem dX5_token_118 : decode cX5_token 118 = .ok (.iadd, 1) := by decide +kernel
theorem dX5_token_119 : decode cX5_token 119 = .ok (.putfield 61, 3) := by decide +kernel
theorem dX5_token_122 : decode cX5_token 122 = .ok (.goto (-68), 3) := by decide +kernel
theorem dX5_token_125 : decode cX5_token 125 = .ok (.return_, 1) := by decide +kernel
def T_X5_token (post : PO) : List (Nat × OP) := [(0, o_aload 0 1), (1, o_aload 0 2), (2, o_getf 5 8 5), (5, o_callV 5 S_X5_byteAt 1 8), (8, o_const 32 10), (10, o_icmp (fun x y => x = y) 13 26), (13, o_aload 0 14), (14, o_dup 15), (15, o_getf 5 8 18), (18, o_const 1 19), (19, o_bin (fun x y => x + y) 20), (20, o_putI 5 8 23), (23, o_goto 0), (26, o_aload 0 27), (27, o_aload 0 28), (28, o_getf 5 8 31), (31, o_putI 5 10 34), (34, o_aload 0 35), (35, o_aload 0 36), (36, o_aload 0 37), (37, o_getf 5 8 40), (40, o_callV 5 S_X5_byteAt 1 43), (43, o_callS S_X5_sortOf 1 46), (46, o_putI 5 9 49), (49, o_aload 0 50), (50, o_const 0 51), (51, o_putI 5 11 54), (54, o_aload 0 55), (55, o_getf 5 11 58), (58, o_if (fun x => x = 0) 61 68), (61, o_aload 0 62), (62, o_getf 5 9 65), (65, o_if (fun x => x = 0) 68 102), (68, o_aload 0 69), (69, o_getf 5 9 72), (72, o_const 1 73), (73, o_icmp (fun x y => x = y) 84 76), (76, o_aload 0 77), (77, o_getf 5 9 80), (80, o_const 2 81), (81, o_icmp (fun x y => x = y) 84 125), (84, o_aload 0 85), (85, o_aload 0 86), (86, o_getf 5 8 89), (89, o_callV 5 S_X5_byteAt 1 92), (92, o_callS S_X5_sortOf 1 95), (95, o_aload 0 96), (96, o_getf 5 9 99), (99, o_icmp (fun x y => x = y) 102 125), (102, o_aload 0 103), (103, o_dup 104), (104, o_getf 5 8 107), (107, o_const 1 108), (108, o_bin (fun x y => x + y) 109), (109, o_putI 5 8 112), (112, o_aload 0 113), (113, o_dup 114), (114, o_getf 5 11 117), (117, o_const 1 118), (118, o_bin (fun x y => x + y) 119), (119, o_putI 5 11 122), (122, o_goto 54), (125, o_ret post)]
theorem k_X5_token_0 (post : PO) : lk (T_X5_token post) 0 = o_aload 0 1 := rfl
theorem k_X5_token_1 (post : PO) : lk (T_X5_token post) 1 = o_aload 0 2 := rfl
theorem k_X5_token_2 (post : PO) : lk (T_X5_token post) 2 = o_getf 5 8 5 := rfl
theorem k_X5_token_5 (post : PO) : lk (T_X5_token post) 5 = o_callV 5 S_X5_byteAt 1 8 := rfl
theorem k_X5_token_8 (post : PO) : lk (T_X5_token post) 8 = o_const 32 10 := rfl
theorem k_X5_token_10 (post : PO) : lk (T_X5_token post) 10 = o_icmp (fun x y => x = y) 13 26 := rfl
theorem k_X5_token_13 (post : PO) : lk (T_X5_token post) 13 = o_aload 0 14 := rfl
theorem k_X5_token_14 (post : PO) : lk (T_X5_token post) 14 = o_dup 15 := rfl
theorem k_X5_token_15 (post : PO) : lk (T_X5_token post) 15 = o_getf 5 8 18 := rfl
theorem k_X5_token_18 (post : PO) : lk (T_X5_token post) 18 = o_const 1 19 := rfl
theorem k_X5_token_19 (post : PO) : lk (T_X5_token post) 19 = o_bin (fun x y => x + y) 20 := rfl
theorem k_X5_token_20 (post : PO) : lk (T_X5_token post) 20 = o_putI 5 8 23 := rfl
theorem k_X5_token_23 (post : PO) : lk (T_X5_token post) 23 = o_goto 0 := rfl
theorem k_X5_token_26 (post : PO) : lk (T_X5_token post) 26 = o_aload 0 27 := rfl
theorem k_X5_token_27 (post : PO) : lk (T_X5_token post) 27 = o_aload 0 28 := rfl
theorem k_X5_token_28 (post : PO) : lk (T_X5_token post) 28 = o_getf 5 8 31 := rfl
theorem k_X5_token_31 (post : PO) : lk (T_X5_token post) 31 = o_putI 5 10 34 := rfl
theorem k_X5_token_34 (post : PO) : lk (T_X5_token post) 34 = o_aload 0 35 := rfl
theorem k_X5_token_35 (post : PO) : lk (T_X5_token post) 35 = o_aload 0 36 := rfl
theorem k_X5_token_36 (post : PO) : lk (T_X5_token post) 36 = o_aload 0 37 := rfl
theorem k_X5_token_37 (post : PO) : lk (T_X5_token post) 37 = o_getf 5 8 40 := rfl
theorem k_X5_token_40 (post : PO) : lk (T_X5_token post) 40 = o_callV 5 S_X5_byteAt 1 43 := rfl
theorem k_X5_token_43 (post : PO) : lk (T_X5_token post) 43 = o_callS S_X5_sortOf 1 46 := rfl
theorem k_X5_token_46 (post : PO) : lk (T_X5_token post) 46 = o_putI 5 9 49 := rfl
theorem k_X5_token_49 (post : PO) : lk (T_X5_token post) 49 = o_aload 0 50 := rfl
theorem k_X5_token_50 (post : PO) : lk (T_X5_token post) 50 = o_const 0 51 := rfl
theorem k_X5_token_51 (post : PO) : lk (T_X5_token post) 51 = o_putI 5 11 54 := rfl
theorem k_X5_token_54 (post : PO) : lk (T_X5_token post) 54 = o_aload 0 55 := rfl
theorem k_X5_token_55 (post : PO) : lk (T_X5_token post) 55 = o_getf 5 11 58 := rfl
theorem k_X5_token_58 (post : PO) : lk (T_X5_token post) 58 = o_if (fun x => x = 0) 61 68 := rfl
theorem k_X5_token_61 (post : PO) : lk (T_X5_token post) 61 = o_aload 0 62 := rfl
theorem k_X5_token_62 (post : PO) : lk (T_X5_token post) 62 = o_getf 5 9 65 := rfl
theorem k_X5_token_65 (post : PO) : lk (T_X5_token post) 65 = o_if (fun x => x = 0) 68 102 := rfl
theorem k_X5_token_68 (post : PO) : lk (T_X5_token post) 68 = o_aload 0 69 := rfl
theorem k_X5_token_69 (post : PO) : lk (T_X5_token post) 69 = o_getf 5 9 72 := rfl
theorem k_X5_token_72 (post : PO) : lk (T_X5_token post) 72 = o_const 1 73 := rfl
theorem k_X5_token_73 (post : PO) : lk (T_X5_token post) 73 = o_icmp (fun x y => x = y) 84 76 := rfl
theorem k_X5_token_76 (post : PO) : lk (T_X5_token post) 76 = o_aload 0 77 := rfl
theorem k_X5_token_77 (post : PO) : lk (T_X5_token post) 77 = o_getf 5 9 80 := rfl
theorem k_X5_token_80 (post : PO) : lk (T_X5_token post) 80 = o_const 2 81 := rfl
theorem k_X5_token_81 (post : PO) : lk (T_X5_token post) 81 = o_icmp (fun x y => x = y) 84 125 := rfl
theorem k_X5_token_84 (post : PO) : lk (T_X5_token post) 84 = o_aload 0 85 := rfl
theorem k_X5_token_85 (post : PO) : lk (T_X5_token post) 85 = o_aload 0 86 := rfl
theorem k_X5_token_86 (post : PO) : lk (T_X5_token post) 86 = o_getf 5 8 89 := rfl
theorem k_X5_token_89 (post : PO) : lk (T_X5_token post) 89 = o_callV 5 S_X5_byteAt 1 92 := rfl
theorem k_X5_token_92 (post : PO) : lk (T_X5_token post) 92 = o_callS S_X5_sortOf 1 95 := rfl
theorem k_X5_token_95 (post : PO) : lk (T_X5_token post) 95 = o_aload 0 96 := rfl
theorem k_X5_token_96 (post : PO) : lk (T_X5_token post) 96 = o_getf 5 9 99 := rfl
theorem k_X5_token_99 (post : PO) : lk (T_X5_token post) 99 = o_icmp (fun x y => x = y) 102 125 := rfl
theorem k_X5_token_102 (post : PO) : lk (T_X5_token post) 102 = o_aload 0 103 := rfl
theorem k_X5_token_103 (post : PO) : lk (T_X5_token post) 103 = o_dup 104 := rfl
theorem k_X5_token_104 (post : PO) : lk (T_X5_token post) 104 = o_getf 5 8 107 := rfl
theorem k_X5_token_107 (post : PO) : lk (T_X5_token post) 107 = o_const 1 108 := rfl
theorem k_X5_token_108 (post : PO) : lk (T_X5_token post) 108 = o_bin (fun x y => x + y) 109 := rfl
theorem k_X5_token_109 (post : PO) : lk (T_X5_token post) 109 = o_putI 5 8 112 := rfl
theorem k_X5_token_112 (post : PO) : lk (T_X5_token post) 112 = o_aload 0 113 := rfl
theorem k_X5_token_113 (post : PO) : lk (T_X5_token post) 113 = o_dup 114 := rfl
theorem k_X5_token_114 (post : PO) : lk (T_X5_token post) 114 = o_getf 5 11 117 := rfl
theorem k_X5_token_117 (post : PO) : lk (T_X5_token post) 117 = o_const 1 118 := rfl
theorem k_X5_token_118 (post : PO) : lk (T_X5_token post) 118 = o_bin (fun x y => x + y) 119 := rfl
theorem k_X5_token_119 (post : PO) : lk (T_X5_token post) 119 = o_putI 5 11 122 := rfl
theorem k_X5_token_122 (post : PO) : lk (T_X5_token post) 122 = o_goto 54 := rfl
theorem k_X5_token_125 (post : PO) : lk (T_X5_token post) 125 = o_ret post := rfl
set_option maxRecDepth 100000 in
theorem t_X5_token {p : Program} {l : Launch} {e : Env} {s : State} {m : MethodId} {args : Array Value} {below : List Frame} {meth : Method} {c : Code} {D : va_G} {dA : Nat → ClassId} {ad : Nat → Nat} (post : PO) (C : CX p s m args meth c cX5_token 1 yX5_token.cls D dA ad (AA ad s.heap.size)) (hr : meth.sig.returnType = none) : SndL (WW p l e ({ frames := 2, cells := 0, slots := 0, locals := 42 } : Room) s m args below meth c 0 0 (MQ below (CQ D dA ad post (AA ad s.heap.size)) args s 0 0 (AA ad s.heap.size)) 1 D dA ad (AA ad s.heap.size)) (T_X5_token post) := by
  refine snd_c (s_aload_n C rfl dX5_token_0) ?_
  refine snd_c (s_aload_n C rfl dX5_token_1) ?_
  refine snd_c (s_getf C (ci := 5) (j := 8) (T := TX5) rfl inX5 (by decide) fl_RX5_45 dX5_token_2) ?_
  refine snd_c (s_callV C (ci := 5) c_X5_byteAt rfl cw_RX5_48 ⟨rfl, rfl⟩ ⟨by decide +kernel, by decide +kernel, by decide +kernel⟩ ⟨by decide, by decide⟩ ⟨Nat.zero_le _, Nat.zero_le _⟩ dX5_token_5) ?_
  refine snd_c (s_bipush C dX5_token_8 rfl) ?_
  refine snd_c (s_icmp_ne C dX5_token_10 (by decide)) ?_
  refine snd_c (s_aload_n C rfl dX5_token_13) ?_
  refine snd_c (s_dup C dX5_token_14) ?_
  refine snd_c (s_getf C (ci := 5) (j := 8) (T := TX5) rfl inX5 (by decide) fl_RX5_45 dX5_token_15) ?_
  refine snd_c (s_iconst C dX5_token_18 rfl) ?_
  refine snd_c (s_iadd C dX5_token_19) ?_
  refine snd_c (s_putI C (ci := 5) (j := 8) (T := TX5) tyX5 tyX5_ok nmX5 rfl inX5 (by decide) rfl rfl fl_RX5_45 dX5_token_20) ?_
  refine snd_c (s_goto C dX5_token_23 (by decide)) ?_
  refine snd_c (s_aload_n C rfl dX5_token_26) ?_
  refine snd_c (s_aload_n C rfl dX5_token_27) ?_
  refine snd_c (s_getf C (ci := 5) (j := 8) (T := TX5) rfl inX5 (by decide) fl_RX5_45 dX5_token_28) ?_
  refine snd_c (s_putI C (ci := 5) (j := 10) (T := TX5) tyX5 tyX5_ok nmX5 rfl inX5 (by decide) rfl rfl fl_RX5_52 dX5_token_31) ?_
  refine snd_c (s_aload_n C rfl dX5_token_34) ?_
  refine snd_c (s_aload_n C rfl dX5_token_35) ?_
  refine snd_c (s_aload_n C rfl dX5_token_36) ?_
  refine snd_c (s_getf C (ci := 5) (j := 8) (T := TX5) rfl inX5 (by decide) fl_RX5_45 dX5_token_37) ?_
  refine snd_c (s_callV C (ci := 5) c_X5_byteAt rfl cw_RX5_48 ⟨rfl, rfl⟩ ⟨by decide +kernel, by decide +kernel, by decide +kernel⟩ ⟨by decide, by decide⟩ ⟨Nat.zero_le _, Nat.zero_le _⟩ dX5_token_40) ?_
  refine snd_c (s_callS C c_X5_sortOf cw_RX5_55 ⟨rfl, rfl⟩ ⟨by decide +kernel, by decide +kernel, by decide +kernel⟩ ⟨by decide, by decide⟩ ⟨Nat.zero_le _, Nat.zero_le _⟩ dX5_token_43) ?_
  refine snd_c (s_putI C (ci := 5) (j := 9) (T := TX5) tyX5 tyX5_ok nmX5 rfl inX5 (by decide) rfl rfl fl_RX5_58 dX5_token_46) ?_
  refine snd_c (s_aload_n C rfl dX5_token_49) ?_
  refine snd_c (s_iconst C dX5_token_50 rfl) ?_
  refine snd_c (s_putI C (ci := 5) (j := 11) (T := TX5) tyX5 tyX5_ok nmX5 rfl inX5 (by decide) rfl rfl fl_RX5_61 dX5_token_51) ?_
  refine snd_c (s_aload_n C rfl dX5_token_54) ?_
  refine snd_c (s_getf C (ci := 5) (j := 11) (T := TX5) rfl inX5 (by decide) fl_RX5_61 dX5_token_55) ?_
  refine snd_c (s_if_ne C dX5_token_58 (by decide)) ?_
  refine snd_c (s_aload_n C rfl dX5_token_61) ?_
  refine snd_c (s_getf C (ci := 5) (j := 9) (T := TX5) rfl inX5 (by decide) fl_RX5_58 dX5_token_62) ?_
  refine snd_c (s_if_ne C dX5_token_65 (by decide)) ?_
  refine snd_c (s_aload_n C rfl dX5_token_68) ?_
  refine snd_c (s_getf C (ci := 5) (j := 9) (T := TX5) rfl inX5 (by decide) fl_RX5_58 dX5_token_69) ?_
  refine snd_c (s_iconst C dX5_token_72 rfl) ?_
  refine snd_c (s_icmp_eq C dX5_token_73 (by decide)) ?_
  refine snd_c (s_aload_n C rfl dX5_token_76) ?_
  refine snd_c (s_getf C (ci := 5) (j := 9) (T := TX5) rfl inX5 (by decide) fl_RX5_58 dX5_token_77) ?_
  refine snd_c (s_iconst C dX5_token_80 rfl) ?_
  refine snd_c (s_icmp_ne C dX5_token_81 (by decide)) ?_
  refine snd_c (s_aload_n C rfl dX5_token_84) ?_
  refine snd_c (s_aload_n C rfl dX5_token_85) ?_
  refine snd_c (s_getf C (ci := 5) (j := 8) (T := TX5) rfl inX5 (by decide) fl_RX5_45 dX5_token_86) ?_
  refine snd_c (s_callV C (ci := 5) c_X5_byteAt rfl cw_RX5_48 ⟨rfl, rfl⟩ ⟨by decide +kernel, by decide +kernel, by decide +kernel⟩ ⟨by decide, by decide⟩ ⟨Nat.zero_le _, Nat.zero_le _⟩ dX5_token_89) ?_
  refine snd_c (s_callS C c_X5_sortOf cw_RX5_55 ⟨rfl, rfl⟩ ⟨by decide +kernel, by decide +kernel, by decide +kernel⟩ ⟨by decide, by decide⟩ ⟨Nat.zero_le _, Nat.zero_le _⟩ dX5_token_92) ?_
  refine snd_c (s_aload_n C rfl dX5_token_95) ?_
  refine snd_c (s_getf C (ci := 5) (j := 9) (T := TX5) rfl inX5 (by decide) fl_RX5_58 dX5_token_96) ?_
  refine snd_c (s_icmp_ne C dX5_token_99 (by decide)) ?_
  refine snd_c (s_aload_n C rfl dX5_token_102) ?_
  refine snd_c (s_dup C dX5_token_103) ?_
  refine snd_c (s_getf C (ci := 5) (j := 8) (T := TX5) rfl inX5 (by decide) fl_RX5_45 dX5_token_104) ?_
  refine snd_c (s_iconst C dX5_token_107 rfl) ?_
  refine snd_c (s_iadd C dX5_token_108) ?_
  refine snd_c (s_putI C (ci := 5) (j := 8) (T := TX5) tyX5 tyX5_ok nmX5 rfl inX5 (by decide) rfl rfl fl_RX5_45 dX5_token_109) ?_
  refine snd_c (s_aload_n C rfl dX5_token_112) ?_
  refine snd_c (s_dup C dX5_token_113) ?_
  refine snd_c (s_getf C (ci := 5) (j := 11) (T := TX5) rfl inX5 (by decide) fl_RX5_61 dX5_token_114) ?_
  refine snd_c (s_iconst C dX5_token_117 rfl) ?_
  refine snd_c (s_iadd C dX5_token_118) ?_
  refine snd_c (s_putI C (ci := 5) (j := 11) (T := TX5) tyX5 tyX5_ok nmX5 rfl inX5 (by decide) rfl rfl fl_RX5_61 dX5_token_119) ?_
  refine snd_c (s_goto C dX5_token_122 (by decide)) ?_
  refine snd_c (s_ret C hr dX5_token_125) ?_
  exact trivial
theorem so_1 (b : Nat) : so b = 1 ↔ isW b = true := by
  unfold so
  split
  · rename_i g; exact ⟨fun _ => g, fun _ => rfl⟩
  · rename_i g
    refine ⟨fun e => absurd e ?_, fun e => absurd e g⟩
    split
    · decide
    · split <;> decide
theorem so_2 (b : Nat) : so b = 2 ↔ isW b ≠ true ∧ isD b = true := by
  unfold so
  split
  · rename_i g; exact ⟨fun e => absurd e (by decide), fun e => absurd g e.1⟩
  · rename_i g
    split
    · rename_i g2; exact ⟨fun _ => ⟨g, g2⟩, fun _ => rfl⟩
    · rename_i g2
      refine ⟨fun e => absurd e ?_, fun e => absurd e.2 g2⟩
      split <;> decide
theorem so_0 (b : Nat) : so b ≠ 0 := by
  unfold so
  split
  · decide
  · split
    · decide
    · split <;> decide
theorem sr_0 {t : Nat → Nat} {L i : Nat} : srA t L i = 0 ↔ L ≤ i := by
  unfold srA
  split
  · rename_i g; exact ⟨fun e => absurd e (so_0 _), fun e => absurd g (by omega)⟩
  · rename_i g; exact ⟨fun _ => by omega, fun _ => rfl⟩
theorem sr_1 {t : Nat → Nat} {L i : Nat} : srA t L i = 1 ↔ i < L ∧ isW (t i) = true := by
  unfold srA
  split
  · rename_i g; rw [so_1]; exact ⟨fun e => ⟨g, e⟩, fun e => e.2⟩
  · rename_i g; exact ⟨fun e => absurd e (by decide), fun e => absurd e.1 g⟩
theorem sr_2 {t : Nat → Nat} {L i : Nat} : srA t L i = 2 ↔ i < L ∧ isW (t i) ≠ true ∧ isD (t i) = true := by
  unfold srA
  split
  · rename_i g; rw [so_2]; exact ⟨fun e => ⟨g, e⟩, fun e => e.2⟩
  · rename_i g; exact ⟨fun e => absurd e (by decide), fun e => absurd e.1 g⟩
theorem noWD {b : Nat} (h : isD b = true) : isW b ≠ true := by
  unfold isD at h
  unfold isW
  simp only [Bool.and_eq_true, decide_eq_true_eq] at h
  intro h2
  simp only [Bool.and_eq_true, decide_eq_true_eq] at h2
  omega
set_option maxRecDepth 100000 in
theorem v_X5_token : ∀ as M post, S_X5_token as M post → wsum as ≤ 1 ∧ RUN (T_X5_token post) 0 (entL 1 as) [] M := by
  rintro as M post ⟨L, t, p, rfl, hT, hp, hpL, h⟩
  have hT2 := hT.2.1
  have hge := sk_ge isS t (L - p) p
  have htt : ∀ j, j < L → t j < 256 := fun j hj => (hT.2.2 j hj).2
  unfold tkN at h
  refine ⟨by show 1 ≤ 1; omega, run_cut [0, 54] (fun μ pc lv st M' => st = [] ∧ lv = [some (VR 39)] ∧ ((pc = 0 ∧ ∃ i, p ≤ i ∧ i ≤ p + (L - p) ∧ sk isS t (L - i) i = tkS t L p ∧ M' = sI 26 (nI i) M ∧ μ = 3000 - i) ∨ (pc = 54 ∧ ∃ k, k ≤ 301 ∧ (k = 0 ∨ (1 ≤ k ∧ tkS t L p < L ∧ tkS t L p + k ≤ L ∧ (isW (t (tkS t L p)) = true → sk isW t (L - (tkS t L p + k)) (tkS t L p + k) = sk isW t (L - tkS t L p) (tkS t L p)) ∧ (isD (t (tkS t L p)) = true → sk isD t (L - (tkS t L p + k)) (tkS t L p + k) = sk isD t (L - tkS t L p) (tkS t L p)) ∧ (isW (t (tkS t L p)) ≠ true → isD (t (tkS t L p)) ≠ true → k = 1))) ∧ M' = sI 29 (nI k) (sI 28 (nI (tkS t L p)) (sI 27 (srA t L (tkS t L p)) (sI 26 (nI (tkS t L p + k)) M))) ∧ μ = 1000 - k))) 80 ?_ (3000 - p) 0 _ _ _ ⟨rfl, rfl, Or.inl ⟨rfl, p, Nat.le_refl p, by omega, rfl, (sI_id hp).symm, rfl⟩⟩⟩
  rintro μ pc lv st M' ⟨rfl, rfl, ⟨rfl, i, hi, hiL, he, rfl, rfl⟩ | ⟨rfl, k, hk, hJ, rfl, rfl⟩⟩
  · dsimp only [k_X5_token_0, k_X5_token_1, k_X5_token_2, k_X5_token_5, k_X5_token_8, k_X5_token_10, k_X5_token_13, k_X5_token_14, k_X5_token_15, k_X5_token_18, k_X5_token_19, k_X5_token_20, k_X5_token_23, k_X5_token_26, k_X5_token_27, k_X5_token_28, k_X5_token_31, k_X5_token_34, k_X5_token_35, k_X5_token_36, k_X5_token_37, k_X5_token_40, k_X5_token_43, k_X5_token_46, k_X5_token_49, k_X5_token_50, k_X5_token_51, k_X5_token_54, k_X5_token_55, k_X5_token_58, k_X5_token_61, k_X5_token_62, k_X5_token_65, k_X5_token_68, k_X5_token_69, k_X5_token_72, k_X5_token_73, k_X5_token_76, k_X5_token_77, k_X5_token_80, k_X5_token_81, k_X5_token_84, k_X5_token_85, k_X5_token_86, k_X5_token_89, k_X5_token_92, k_X5_token_95, k_X5_token_96, k_X5_token_99, k_X5_token_102, k_X5_token_103, k_X5_token_104, k_X5_token_107, k_X5_token_108, k_X5_token_109, k_X5_token_112, k_X5_token_113, k_X5_token_114, k_X5_token_117, k_X5_token_118, k_X5_token_119, k_X5_token_122, k_X5_token_125, wp1, wp_s, cutIn, kont, Nat.reduceSub, Nat.reduceAdd, nth, o_const, o_lconst, o_ref, o_iload, o_lload, o_aload, o_istore, o_lstore, o_astore, o_iinc, o_bin, o_div, o_un, o_lbin, o_lsh, o_lcmp, o_i2l, o_l2i, o_if, o_icmp, o_goto, o_dup, o_dup2, o_pop, fav, o_getf, o_putI, o_putZ, o_putL, o_ald, o_ast, o_alen, popn, rst, o_callV, o_callT, o_callS, swx, o_sw, o_ret, o_iret, o_zret, o_cret, o_lret, o_aret, lg, lput, lput2, ls1, isL, entL, wsum, rdI1, rdI2, rdA1, rdA21, rdA22, rdL1, rdL22, rdL21, upN_at, rep, sh_0, F_0_0, F_0_1, F_0_2, F_0_3, F_0_4, F_0_5, F_0_6, F_0_7, F_0_8, sh_1, F_1_0, F_1_1, F_1_2, F_1_3, F_1_4, F_1_5, sh_3, F_3_0, F_3_1, F_3_2, F_3_3, F_3_4, F_3_5, sh_5, F_5_0, F_5_1, F_5_2, F_5_3, F_5_4, F_5_5, F_5_6, F_5_7, F_5_8, sh_12, F_12_0, F_12_1, F_12_2, F_12_3, F_12_4, F_12_5, sh_14, F_14_0, F_14_1, F_14_2, F_14_3, F_14_4, F_14_5, F_14_6, F_14_7, F_14_8, sh_21, F_21_0, F_21_1, F_21_2, F_21_3, F_21_4, F_21_5, F_21_6, F_21_7, F_21_8, sh_28, F_28_0, F_28_1, F_28_2, F_28_3, F_28_4, F_28_5, F_28_6, F_28_7, F_28_8, sh_35, F_35_0, sh_39, F_39_0, F_39_1, F_39_2, F_39_3, F_39_4, F_39_5, F_39_6, F_39_7, F_39_8, F_39_9, F_39_10, F_39_11, F_39_12, F_39_13, A_2, A_4, A_6, A_7, A_8, A_9, A_10, A_11, A_13, A_15, A_16, A_17, A_18, A_19, A_20, A_22, A_23, A_24, A_25, A_26, A_27, A_29, A_30, A_31, A_32, A_33, A_34, A_36, A_37, A_38, A_40, A_41, A_42, A_43, A_44, A_45, A_46, A_47]
    refine ⟨L, t, i, rfl, TT_of hT rfl rfl, by omega, ?_⟩
    dsimp only [k_X5_token_0, k_X5_token_1, k_X5_token_2, k_X5_token_5, k_X5_token_8, k_X5_token_10, k_X5_token_13, k_X5_token_14, k_X5_token_15, k_X5_token_18, k_X5_token_19, k_X5_token_20, k_X5_token_23, k_X5_token_26, k_X5_token_27, k_X5_token_28, k_X5_token_31, k_X5_token_34, k_X5_token_35, k_X5_token_36, k_X5_token_37, k_X5_token_40, k_X5_token_43, k_X5_token_46, k_X5_token_49, k_X5_token_50, k_X5_token_51, k_X5_token_54, k_X5_token_55, k_X5_token_58, k_X5_token_61, k_X5_token_62, k_X5_token_65, k_X5_token_68, k_X5_token_69, k_X5_token_72, k_X5_token_73, k_X5_token_76, k_X5_token_77, k_X5_token_80, k_X5_token_81, k_X5_token_84, k_X5_token_85, k_X5_token_86, k_X5_token_89, k_X5_token_92, k_X5_token_95, k_X5_token_96, k_X5_token_99, k_X5_token_102, k_X5_token_103, k_X5_token_104, k_X5_token_107, k_X5_token_108, k_X5_token_109, k_X5_token_112, k_X5_token_113, k_X5_token_114, k_X5_token_117, k_X5_token_118, k_X5_token_119, k_X5_token_122, k_X5_token_125, wp1, wp_s, cutIn, kont, Nat.reduceSub, Nat.reduceAdd, nth, o_const, o_lconst, o_ref, o_iload, o_lload, o_aload, o_istore, o_lstore, o_astore, o_iinc, o_bin, o_div, o_un, o_lbin, o_lsh, o_lcmp, o_i2l, o_l2i, o_if, o_icmp, o_goto, o_dup, o_dup2, o_pop, fav, o_getf, o_putI, o_putZ, o_putL, o_ald, o_ast, o_alen, popn, rst, o_callV, o_callT, o_callS, swx, o_sw, o_ret, o_iret, o_zret, o_cret, o_lret, o_aret, lg, lput, lput2, ls1, isL, entL, wsum, rdI1, rdI2, rdA1, rdA21, rdA22, rdL1, rdL22, rdL21, upN_at, rep, sh_0, F_0_0, F_0_1, F_0_2, F_0_3, F_0_4, F_0_5, F_0_6, F_0_7, F_0_8, sh_1, F_1_0, F_1_1, F_1_2, F_1_3, F_1_4, F_1_5, sh_3, F_3_0, F_3_1, F_3_2, F_3_3, F_3_4, F_3_5, sh_5, F_5_0, F_5_1, F_5_2, F_5_3, F_5_4, F_5_5, F_5_6, F_5_7, F_5_8, sh_12, F_12_0, F_12_1, F_12_2, F_12_3, F_12_4, F_12_5, sh_14, F_14_0, F_14_1, F_14_2, F_14_3, F_14_4, F_14_5, F_14_6, F_14_7, F_14_8, sh_21, F_21_0, F_21_1, F_21_2, F_21_3, F_21_4, F_21_5, F_21_6, F_21_7, F_21_8, sh_28, F_28_0, F_28_1, F_28_2, F_28_3, F_28_4, F_28_5, F_28_6, F_28_7, F_28_8, sh_35, F_35_0, sh_39, F_39_0, F_39_1, F_39_2, F_39_3, F_39_4, F_39_5, F_39_6, F_39_7, F_39_8, F_39_9, F_39_10, F_39_11, F_39_12, F_39_13, A_2, A_4, A_6, A_7, A_8, A_9, A_10, A_11, A_13, A_15, A_16, A_17, A_18, A_19, A_20, A_22, A_23, A_24, A_25, A_26, A_27, A_29, A_30, A_31, A_32, A_33, A_34, A_36, A_37, A_38, A_40, A_41, A_42, A_43, A_44, A_45, A_46, A_47]
    refine ⟨fun w1 => ?_, fun w1 => ?_⟩
    · have g : i < L := by
        rcases Nat.lt_or_ge i L with g | g
        · exact g
        · unfold bAt at w1; rw [if_neg (by omega)] at w1; exact absurd w1 (by decide)
      rw [bAt_in g, isS_iff (htt i g)] at w1
      refine cut _ _ ⟨rfl, rfl, Or.inl ⟨rfl, i + 1, by omega, by omega, ?_, ?_, rfl⟩⟩ (by omega) ⟨rfl, trivial⟩
      · rw [← he, sk_s g w1]
      · simp only [sA_sA, sA_cm, sI_sA, sI_sI, sI_cm, sL_sA, sL_sI, sL_sL, sL_cm, Nat.reduceLT]
        rw [nI_1]
    · have es : tkS t L p = i := by
        rw [← he, sk_e]
        intro g
        rw [bAt_in g, isS_iff (htt i g)] at w1
        exact Bool.eq_false_iff.mpr w1
      refine ⟨L, t, i, rfl, TT_of hT rfl rfl, by omega, ?_⟩
      dsimp only [k_X5_token_0, k_X5_token_1, k_X5_token_2, k_X5_token_5, k_X5_token_8, k_X5_token_10, k_X5_token_13, k_X5_token_14, k_X5_token_15, k_X5_token_18, k_X5_token_19, k_X5_token_20, k_X5_token_23, k_X5_token_26, k_X5_token_27, k_X5_token_28, k_X5_token_31, k_X5_token_34, k_X5_token_35, k_X5_token_36, k_X5_token_37, k_X5_token_40, k_X5_token_43, k_X5_token_46, k_X5_token_49, k_X5_token_50, k_X5_token_51, k_X5_token_54, k_X5_token_55, k_X5_token_58, k_X5_token_61, k_X5_token_62, k_X5_token_65, k_X5_token_68, k_X5_token_69, k_X5_token_72, k_X5_token_73, k_X5_token_76, k_X5_token_77, k_X5_token_80, k_X5_token_81, k_X5_token_84, k_X5_token_85, k_X5_token_86, k_X5_token_89, k_X5_token_92, k_X5_token_95, k_X5_token_96, k_X5_token_99, k_X5_token_102, k_X5_token_103, k_X5_token_104, k_X5_token_107, k_X5_token_108, k_X5_token_109, k_X5_token_112, k_X5_token_113, k_X5_token_114, k_X5_token_117, k_X5_token_118, k_X5_token_119, k_X5_token_122, k_X5_token_125, wp1, wp_s, cutIn, kont, Nat.reduceSub, Nat.reduceAdd, nth, o_const, o_lconst, o_ref, o_iload, o_lload, o_aload, o_istore, o_lstore, o_astore, o_iinc, o_bin, o_div, o_un, o_lbin, o_lsh, o_lcmp, o_i2l, o_l2i, o_if, o_icmp, o_goto, o_dup, o_dup2, o_pop, fav, o_getf, o_putI, o_putZ, o_putL, o_ald, o_ast, o_alen, popn, rst, o_callV, o_callT, o_callS, swx, o_sw, o_ret, o_iret, o_zret, o_cret, o_lret, o_aret, lg, lput, lput2, ls1, isL, entL, wsum, rdI1, rdI2, rdA1, rdA21, rdA22, rdL1, rdL22, rdL21, upN_at, rep, sh_0, F_0_0, F_0_1, F_0_2, F_0_3, F_0_4, F_0_5, F_0_6, F_0_7, F_0_8, sh_1, F_1_0, F_1_1, F_1_2, F_1_3, F_1_4, F_1_5, sh_3, F_3_0, F_3_1, F_3_2, F_3_3, F_3_4, F_3_5, sh_5, F_5_0, F_5_1, F_5_2, F_5_3, F_5_4, F_5_5, F_5_6, F_5_7, F_5_8, sh_12, F_12_0, F_12_1, F_12_2, F_12_3, F_12_4, F_12_5, sh_14, F_14_0, F_14_1, F_14_2, F_14_3, F_14_4, F_14_5, F_14_6, F_14_7, F_14_8, sh_21, F_21_0, F_21_1, F_21_2, F_21_3, F_21_4, F_21_5, F_21_6, F_21_7, F_21_8, sh_28, F_28_0, F_28_1, F_28_2, F_28_3, F_28_4, F_28_5, F_28_6, F_28_7, F_28_8, sh_35, F_35_0, sh_39, F_39_0, F_39_1, F_39_2, F_39_3, F_39_4, F_39_5, F_39_6, F_39_7, F_39_8, F_39_9, F_39_10, F_39_11, F_39_12, F_39_13, A_2, A_4, A_6, A_7, A_8, A_9, A_10, A_11, A_13, A_15, A_16, A_17, A_18, A_19, A_20, A_22, A_23, A_24, A_25, A_26, A_27, A_29, A_30, A_31, A_32, A_33, A_34, A_36, A_37, A_38, A_40, A_41, A_42, A_43, A_44, A_45, A_46, A_47]
      refine ⟨L, t, i, rfl, htt, ?_⟩
      dsimp only [k_X5_token_0, k_X5_token_1, k_X5_token_2, k_X5_token_5, k_X5_token_8, k_X5_token_10, k_X5_token_13, k_X5_token_14, k_X5_token_15, k_X5_token_18, k_X5_token_19, k_X5_token_20, k_X5_token_23, k_X5_token_26, k_X5_token_27, k_X5_token_28, k_X5_token_31, k_X5_token_34, k_X5_token_35, k_X5_token_36, k_X5_token_37, k_X5_token_40, k_X5_token_43, k_X5_token_46, k_X5_token_49, k_X5_token_50, k_X5_token_51, k_X5_token_54, k_X5_token_55, k_X5_token_58, k_X5_token_61, k_X5_token_62, k_X5_token_65, k_X5_token_68, k_X5_token_69, k_X5_token_72, k_X5_token_73, k_X5_token_76, k_X5_token_77, k_X5_token_80, k_X5_token_81, k_X5_token_84, k_X5_token_85, k_X5_token_86, k_X5_token_89, k_X5_token_92, k_X5_token_95, k_X5_token_96, k_X5_token_99, k_X5_token_102, k_X5_token_103, k_X5_token_104, k_X5_token_107, k_X5_token_108, k_X5_token_109, k_X5_token_112, k_X5_token_113, k_X5_token_114, k_X5_token_117, k_X5_token_118, k_X5_token_119, k_X5_token_122, k_X5_token_125, wp1, wp_s, cutIn, kont, Nat.reduceSub, Nat.reduceAdd, nth, o_const, o_lconst, o_ref, o_iload, o_lload, o_aload, o_istore, o_lstore, o_astore, o_iinc, o_bin, o_div, o_un, o_lbin, o_lsh, o_lcmp, o_i2l, o_l2i, o_if, o_icmp, o_goto, o_dup, o_dup2, o_pop, fav, o_getf, o_putI, o_putZ, o_putL, o_ald, o_ast, o_alen, popn, rst, o_callV, o_callT, o_callS, swx, o_sw, o_ret, o_iret, o_zret, o_cret, o_lret, o_aret, lg, lput, lput2, ls1, isL, entL, wsum, rdI1, rdI2, rdA1, rdA21, rdA22, rdL1, rdL22, rdL21, upN_at, rep, sh_0, F_0_0, F_0_1, F_0_2, F_0_3, F_0_4, F_0_5, F_0_6, F_0_7, F_0_8, sh_1, F_1_0, F_1_1, F_1_2, F_1_3, F_1_4, F_1_5, sh_3, F_3_0, F_3_1, F_3_2, F_3_3, F_3_4, F_3_5, sh_5, F_5_0, F_5_1, F_5_2, F_5_3, F_5_4, F_5_5, F_5_6, F_5_7, F_5_8, sh_12, F_12_0, F_12_1, F_12_2, F_12_3, F_12_4, F_12_5, sh_14, F_14_0, F_14_1, F_14_2, F_14_3, F_14_4, F_14_5, F_14_6, F_14_7, F_14_8, sh_21, F_21_0, F_21_1, F_21_2, F_21_3, F_21_4, F_21_5, F_21_6, F_21_7, F_21_8, sh_28, F_28_0, F_28_1, F_28_2, F_28_3, F_28_4, F_28_5, F_28_6, F_28_7, F_28_8, sh_35, F_35_0, sh_39, F_39_0, F_39_1, F_39_2, F_39_3, F_39_4, F_39_5, F_39_6, F_39_7, F_39_8, F_39_9, F_39_10, F_39_11, F_39_12, F_39_13, A_2, A_4, A_6, A_7, A_8, A_9, A_10, A_11, A_13, A_15, A_16, A_17, A_18, A_19, A_20, A_22, A_23, A_24, A_25, A_26, A_27, A_29, A_30, A_31, A_32, A_33, A_34, A_36, A_37, A_38, A_40, A_41, A_42, A_43, A_44, A_45, A_46, A_47]
      refine cut _ _ ⟨rfl, rfl, Or.inr ⟨rfl, 0, by omega, Or.inl rfl, ?_, rfl⟩⟩ (by omega) ⟨rfl, trivial⟩
      simp only [sA_sA, sA_cm, sI_sA, sI_sI, sI_cm, sL_sA, sL_sI, sL_sL, sL_cm, Nat.reduceLT]
      rw [es]; rfl
  · dsimp only [k_X5_token_0, k_X5_token_1, k_X5_token_2, k_X5_token_5, k_X5_token_8, k_X5_token_10, k_X5_token_13, k_X5_token_14, k_X5_token_15, k_X5_token_18, k_X5_token_19, k_X5_token_20, k_X5_token_23, k_X5_token_26, k_X5_token_27, k_X5_token_28, k_X5_token_31, k_X5_token_34, k_X5_token_35, k_X5_token_36, k_X5_token_37, k_X5_token_40, k_X5_token_43, k_X5_token_46, k_X5_token_49, k_X5_token_50, k_X5_token_51, k_X5_token_54, k_X5_token_55, k_X5_token_58, k_X5_token_61, k_X5_token_62, k_X5_token_65, k_X5_token_68, k_X5_token_69, k_X5_token_72, k_X5_token_73, k_X5_token_76, k_X5_token_77, k_X5_token_80, k_X5_token_81, k_X5_token_84, k_X5_token_85, k_X5_token_86, k_X5_token_89, k_X5_token_92, k_X5_token_95, k_X5_token_96, k_X5_token_99, k_X5_token_102, k_X5_token_103, k_X5_token_104, k_X5_token_107, k_X5_token_108, k_X5_token_109, k_X5_token_112, k_X5_token_113, k_X5_token_114, k_X5_token_117, k_X5_token_118, k_X5_token_119, k_X5_token_122, k_X5_token_125, wp1, wp_s, cutIn, kont, Nat.reduceSub, Nat.reduceAdd, nth, o_const, o_lconst, o_ref, o_iload, o_lload, o_aload, o_istore, o_lstore, o_astore, o_iinc, o_bin, o_div, o_un, o_lbin, o_lsh, o_lcmp, o_i2l, o_l2i, o_if, o_icmp, o_goto, o_dup, o_dup2, o_pop, fav, o_getf, o_putI, o_putZ, o_putL, o_ald, o_ast, o_alen, popn, rst, o_callV, o_callT, o_callS, swx, o_sw, o_ret, o_iret, o_zret, o_cret, o_lret, o_aret, lg, lput, lput2, ls1, isL, entL, wsum, rdI1, rdI2, rdA1, rdA21, rdA22, rdL1, rdL22, rdL21, upN_at, rep, sh_0, F_0_0, F_0_1, F_0_2, F_0_3, F_0_4, F_0_5, F_0_6, F_0_7, F_0_8, sh_1, F_1_0, F_1_1, F_1_2, F_1_3, F_1_4, F_1_5, sh_3, F_3_0, F_3_1, F_3_2, F_3_3, F_3_4, F_3_5, sh_5, F_5_0, F_5_1, F_5_2, F_5_3, F_5_4, F_5_5, F_5_6, F_5_7, F_5_8, sh_12, F_12_0, F_12_1, F_12_2, F_12_3, F_12_4, F_12_5, sh_14, F_14_0, F_14_1, F_14_2, F_14_3, F_14_4, F_14_5, F_14_6, F_14_7, F_14_8, sh_21, F_21_0, F_21_1, F_21_2, F_21_3, F_21_4, F_21_5, F_21_6, F_21_7, F_21_8, sh_28, F_28_0, F_28_1, F_28_2, F_28_3, F_28_4, F_28_5, F_28_6, F_28_7, F_28_8, sh_35, F_35_0, sh_39, F_39_0, F_39_1, F_39_2, F_39_3, F_39_4, F_39_5, F_39_6, F_39_7, F_39_8, F_39_9, F_39_10, F_39_11, F_39_12, F_39_13, A_2, A_4, A_6, A_7, A_8, A_9, A_10, A_11, A_13, A_15, A_16, A_17, A_18, A_19, A_20, A_22, A_23, A_24, A_25, A_26, A_27, A_29, A_30, A_31, A_32, A_33, A_34, A_36, A_37, A_38, A_40, A_41, A_42, A_43, A_44, A_45, A_46, A_47]
    unfold tkE at h
    generalize tkS t L p = y0 at *
    have x0 : (nI k = 0) ↔ k = 0 := by rw [show (0 : Int32) = nI 0 from rfl, nI_eq (by omega) (by omega)]
    rw [x0]
    have adv : y0 < L → (k = 0 ∨ (1 ≤ k ∧ y0 + k < L ∧ ((isW (t y0) = true ∧ isW (t (y0 + k)) = true ∧ sk isW t (L - (y0 + k)) (y0 + k) = sk isW t (L - y0) y0) ∨ (isD (t y0) = true ∧ isD (t (y0 + k)) = true ∧ sk isD t (L - (y0 + k)) (y0 + k) = sk isD t (L - y0) y0)))) → k + 1 ≤ 301 ∧ (1 ≤ k + 1 ∧ y0 < L ∧ y0 + (k + 1) ≤ L ∧ (isW (t y0) = true → sk isW t (L - (y0 + (k + 1))) (y0 + (k + 1)) = sk isW t (L - y0) y0) ∧ (isD (t y0) = true → sk isD t (L - (y0 + (k + 1))) (y0 + (k + 1)) = sk isD t (L - y0) y0) ∧ (isW (t y0) ≠ true → isD (t y0) ≠ true → k + 1 = 1)) := by
      rintro g (rfl | ⟨g1, g2, ⟨g3, g4, g5⟩ | ⟨g3, g4, g5⟩⟩)
      · exact ⟨by omega, by omega, g, by omega, fun e => by rw [sk_s g e], fun e => by rw [sk_s g e], fun _ _ => rfl⟩
      · refine ⟨by omega, by omega, g, by omega, fun _ => ?_, fun e => absurd g3 (noWD e), fun e => absurd g3 e⟩
        rw [← g5, sk_s g2 g4, Nat.add_assoc]
      · refine ⟨by omega, by omega, g, by omega, fun e => absurd e (noWD g3), fun _ => ?_, fun _ e => absurd g3 e⟩
        rw [← g5, sk_s g2 g4, Nat.add_assoc]
    have memE : ∀ v0, sI 26 (nI (y0 + k) + 1) (sI 27 v0 (sI 28 (nI y0) (sI 29 (nI k + 1) M))) = sI 26 (nI (y0 + (k + 1))) (sI 27 v0 (sI 28 (nI y0) (sI 29 (nI (k + 1)) M))) := fun v0 => by rw [nI_1, nI_1, Nat.add_assoc]
    refine ⟨fun w0 => ⟨fun w1 => ⟨fun w2 => absurd w2 (by rw [w1]; decide), fun _ => ⟨fun w2 => absurd w2 (by rw [w1]; decide), fun _ => ?_⟩⟩, fun w1 => ?_⟩, fun w0 => ?_⟩
    · subst w0
      rw [if_pos (sr_0.mp w1), Nat.sub_self] at h
      exact h
    · have g : y0 < L := by
        rcases Nat.lt_or_ge y0 L with g | g
        · exact g
        · exact absurd (sr_0.mpr g) w1
      obtain ⟨c1, c2⟩ := adv g (Or.inl w0)
      refine cut _ _ ⟨rfl, rfl, Or.inr ⟨rfl, k + 1, c1, Or.inr c2, ?_, rfl⟩⟩ (by omega) ⟨rfl, trivial⟩
      simp only [sA_sA, sA_cm, sI_sA, sI_sI, sI_cm, sL_sA, sL_sI, sL_sL, sL_cm, Nat.reduceLT]
      exact memE _
    · obtain ⟨g1, g2, g3, g4, g5, g6⟩ := hJ.resolve_left w0
      have nL : ¬ L ≤ y0 := by omega
      rw [if_neg nL] at h
      refine ⟨fun w1 => ⟨L, t, y0 + k, rfl, TT_of hT rfl rfl, by omega, ?_⟩, fun w1 => ⟨fun w2 => ⟨L, t, y0 + k, rfl, TT_of hT rfl rfl, by omega, ?_⟩, fun w2 => ?_⟩⟩
      · have hw := (sr_1.mp w1).2
        dsimp only [k_X5_token_0, k_X5_token_1, k_X5_token_2, k_X5_token_5, k_X5_token_8, k_X5_token_10, k_X5_token_13, k_X5_token_14, k_X5_token_15, k_X5_token_18, k_X5_token_19, k_X5_token_20, k_X5_token_23, k_X5_token_26, k_X5_token_27, k_X5_token_28, k_X5_token_31, k_X5_token_34, k_X5_token_35, k_X5_token_36, k_X5_token_37, k_X5_token_40, k_X5_token_43, k_X5_token_46, k_X5_token_49, k_X5_token_50, k_X5_token_51, k_X5_token_54, k_X5_token_55, k_X5_token_58, k_X5_token_61, k_X5_token_62, k_X5_token_65, k_X5_token_68, k_X5_token_69, k_X5_token_72, k_X5_token_73, k_X5_token_76, k_X5_token_77, k_X5_token_80, k_X5_token_81, k_X5_token_84, k_X5_token_85, k_X5_token_86, k_X5_token_89, k_X5_token_92, k_X5_token_95, k_X5_token_96, k_X5_token_99, k_X5_token_102, k_X5_token_103, k_X5_token_104, k_X5_token_107, k_X5_token_108, k_X5_token_109, k_X5_token_112, k_X5_token_113, k_X5_token_114, k_X5_token_117, k_X5_token_118, k_X5_token_119, k_X5_token_122, k_X5_token_125, wp1, wp_s, cutIn, kont, Nat.reduceSub, Nat.reduceAdd, nth, o_const, o_lconst, o_ref, o_iload, o_lload, o_aload, o_istore, o_lstore, o_astore, o_iinc, o_bin, o_div, o_un, o_lbin, o_lsh, o_lcmp, o_i2l, o_l2i, o_if, o_icmp, o_goto, o_dup, o_dup2, o_pop, fav, o_getf, o_putI, o_putZ, o_putL, o_ald, o_ast, o_alen, popn, rst, o_callV, o_callT, o_callS, swx, o_sw, o_ret, o_iret, o_zret, o_cret, o_lret, o_aret, lg, lput, lput2, ls1, isL, entL, wsum, rdI1, rdI2, rdA1, rdA21, rdA22, rdL1, rdL22, rdL21, upN_at, rep, sh_0, F_0_0, F_0_1, F_0_2, F_0_3, F_0_4, F_0_5, F_0_6, F_0_7, F_0_8, sh_1, F_1_0, F_1_1, F_1_2, F_1_3, F_1_4, F_1_5, sh_3, F_3_0, F_3_1, F_3_2, F_3_3, F_3_4, F_3_5, sh_5, F_5_0, F_5_1, F_5_2, F_5_3, F_5_4, F_5_5, F_5_6, F_5_7, F_5_8, sh_12, F_12_0, F_12_1, F_12_2, F_12_3, F_12_4, F_12_5, sh_14, F_14_0, F_14_1, F_14_2, F_14_3, F_14_4, F_14_5, F_14_6, F_14_7, F_14_8, sh_21, F_21_0, F_21_1, F_21_2, F_21_3, F_21_4, F_21_5, F_21_6, F_21_7, F_21_8, sh_28, F_28_0, F_28_1, F_28_2, F_28_3, F_28_4, F_28_5, F_28_6, F_28_7, F_28_8, sh_35, F_35_0, sh_39, F_39_0, F_39_1, F_39_2, F_39_3, F_39_4, F_39_5, F_39_6, F_39_7, F_39_8, F_39_9, F_39_10, F_39_11, F_39_12, F_39_13, A_2, A_4, A_6, A_7, A_8, A_9, A_10, A_11, A_13, A_15, A_16, A_17, A_18, A_19, A_20, A_22, A_23, A_24, A_25, A_26, A_27, A_29, A_30, A_31, A_32, A_33, A_34, A_36, A_37, A_38, A_40, A_41, A_42, A_43, A_44, A_45, A_46, A_47]
        refine ⟨L, t, y0 + k, rfl, htt, ?_⟩
        dsimp only [k_X5_token_0, k_X5_token_1, k_X5_token_2, k_X5_token_5, k_X5_token_8, k_X5_token_10, k_X5_token_13, k_X5_token_14, k_X5_token_15, k_X5_token_18, k_X5_token_19, k_X5_token_20, k_X5_token_23, k_X5_token_26, k_X5_token_27, k_X5_token_28, k_X5_token_31, k_X5_token_34, k_X5_token_35, k_X5_token_36, k_X5_token_37, k_X5_token_40, k_X5_token_43, k_X5_token_46, k_X5_token_49, k_X5_token_50, k_X5_token_51, k_X5_token_54, k_X5_token_55, k_X5_token_58, k_X5_token_61, k_X5_token_62, k_X5_token_65, k_X5_token_68, k_X5_token_69, k_X5_token_72, k_X5_token_73, k_X5_token_76, k_X5_token_77, k_X5_token_80, k_X5_token_81, k_X5_token_84, k_X5_token_85, k_X5_token_86, k_X5_token_89, k_X5_token_92, k_X5_token_95, k_X5_token_96, k_X5_token_99, k_X5_token_102, k_X5_token_103, k_X5_token_104, k_X5_token_107, k_X5_token_108, k_X5_token_109, k_X5_token_112, k_X5_token_113, k_X5_token_114, k_X5_token_117, k_X5_token_118, k_X5_token_119, k_X5_token_122, k_X5_token_125, wp1, wp_s, cutIn, kont, Nat.reduceSub, Nat.reduceAdd, nth, o_const, o_lconst, o_ref, o_iload, o_lload, o_aload, o_istore, o_lstore, o_astore, o_iinc, o_bin, o_div, o_un, o_lbin, o_lsh, o_lcmp, o_i2l, o_l2i, o_if, o_icmp, o_goto, o_dup, o_dup2, o_pop, fav, o_getf, o_putI, o_putZ, o_putL, o_ald, o_ast, o_alen, popn, rst, o_callV, o_callT, o_callS, swx, o_sw, o_ret, o_iret, o_zret, o_cret, o_lret, o_aret, lg, lput, lput2, ls1, isL, entL, wsum, rdI1, rdI2, rdA1, rdA21, rdA22, rdL1, rdL22, rdL21, upN_at, rep, sh_0, F_0_0, F_0_1, F_0_2, F_0_3, F_0_4, F_0_5, F_0_6, F_0_7, F_0_8, sh_1, F_1_0, F_1_1, F_1_2, F_1_3, F_1_4, F_1_5, sh_3, F_3_0, F_3_1, F_3_2, F_3_3, F_3_4, F_3_5, sh_5, F_5_0, F_5_1, F_5_2, F_5_3, F_5_4, F_5_5, F_5_6, F_5_7, F_5_8, sh_12, F_12_0, F_12_1, F_12_2, F_12_3, F_12_4, F_12_5, sh_14, F_14_0, F_14_1, F_14_2, F_14_3, F_14_4, F_14_5, F_14_6, F_14_7, F_14_8, sh_21, F_21_0, F_21_1, F_21_2, F_21_3, F_21_4, F_21_5, F_21_6, F_21_7, F_21_8, sh_28, F_28_0, F_28_1, F_28_2, F_28_3, F_28_4, F_28_5, F_28_6, F_28_7, F_28_8, sh_35, F_35_0, sh_39, F_39_0, F_39_1, F_39_2, F_39_3, F_39_4, F_39_5, F_39_6, F_39_7, F_39_8, F_39_9, F_39_10, F_39_11, F_39_12, F_39_13, A_2, A_4, A_6, A_7, A_8, A_9, A_10, A_11, A_13, A_15, A_16, A_17, A_18, A_19, A_20, A_22, A_23, A_24, A_25, A_26, A_27, A_29, A_30, A_31, A_32, A_33, A_34, A_36, A_37, A_38, A_40, A_41, A_42, A_43, A_44, A_45, A_46, A_47]
        rw [w1, sr_1]
        rw [if_pos hw] at h
        refine ⟨fun w3 => ?_, fun w3 => ?_⟩
        · obtain ⟨c1, c2⟩ := adv g2 (Or.inr ⟨g1, w3.1, Or.inl ⟨hw, w3.2, g4 hw⟩⟩)
          refine cut _ _ ⟨rfl, rfl, Or.inr ⟨rfl, k + 1, c1, Or.inr c2, ?_, rfl⟩⟩ (by omega) ⟨rfl, trivial⟩
          simp only [sA_sA, sA_cm, sI_sA, sI_sI, sI_cm, sL_sA, sL_sI, sL_sL, sL_cm, Nat.reduceLT]
          exact memE _
        · rw [← g4 hw, sk_e (fun e => Bool.eq_false_iff.mpr fun e2 => w3 ⟨e, e2⟩), Nat.add_sub_cancel_left, w1] at h
          exact h
      · have hw := (sr_2.mp w2).2
        dsimp only [k_X5_token_0, k_X5_token_1, k_X5_token_2, k_X5_token_5, k_X5_token_8, k_X5_token_10, k_X5_token_13, k_X5_token_14, k_X5_token_15, k_X5_token_18, k_X5_token_19, k_X5_token_20, k_X5_token_23, k_X5_token_26, k_X5_token_27, k_X5_token_28, k_X5_token_31, k_X5_token_34, k_X5_token_35, k_X5_token_36, k_X5_token_37, k_X5_token_40, k_X5_token_43, k_X5_token_46, k_X5_token_49, k_X5_token_50, k_X5_token_51, k_X5_token_54, k_X5_token_55, k_X5_token_58, k_X5_token_61, k_X5_token_62, k_X5_token_65, k_X5_token_68, k_X5_token_69, k_X5_token_72, k_X5_token_73, k_X5_token_76, k_X5_token_77, k_X5_token_80, k_X5_token_81, k_X5_token_84, k_X5_token_85, k_X5_token_86, k_X5_token_89, k_X5_token_92, k_X5_token_95, k_X5_token_96, k_X5_token_99, k_X5_token_102, k_X5_token_103, k_X5_token_104, k_X5_token_107, k_X5_token_108, k_X5_token_109, k_X5_token_112, k_X5_token_113, k_X5_token_114, k_X5_token_117, k_X5_token_118, k_X5_token_119, k_X5_token_122, k_X5_token_125, wp1, wp_s, cutIn, kont, Nat.reduceSub, Nat.reduceAdd, nth, o_const, o_lconst, o_ref, o_iload, o_lload, o_aload, o_istore, o_lstore, o_astore, o_iinc, o_bin, o_div, o_un, o_lbin, o_lsh, o_lcmp, o_i2l, o_l2i, o_if, o_icmp, o_goto, o_dup, o_dup2, o_pop, fav, o_getf, o_putI, o_putZ, o_putL, o_ald, o_ast, o_alen, popn, rst, o_callV, o_callT, o_callS, swx, o_sw, o_ret, o_iret, o_zret, o_cret, o_lret, o_aret, lg, lput, lput2, ls1, isL, entL, wsum, rdI1, rdI2, rdA1, rdA21, rdA22, rdL1, rdL22, rdL21, upN_at, rep, sh_0, F_0_0, F_0_1, F_0_2, F_0_3, F_0_4, F_0_5, F_0_6, F_0_7, F_0_8, sh_1, F_1_0, F_1_1, F_1_2, F_1_3, F_1_4, F_1_5, sh_3, F_3_0, F_3_1, F_3_2, F_3_3, F_3_4, F_3_5, sh_5, F_5_0, F_5_1, F_5_2, F_5_3, F_5_4, F_5_5, F_5_6, F_5_7, F_5_8, sh_12, F_12_0, F_12_1, F_12_2, F_12_3, F_12_4, F_12_5, sh_14, F_14_0, F_14_1, F_14_2, F_14_3, F_14_4, F_14_5, F_14_6, F_14_7, F_14_8, sh_21, F_21_0, F_21_1, F_21_2, F_21_3, F_21_4, F_21_5, F_21_6, F_21_7, F_21_8, sh_28, F_28_0, F_28_1, F_28_2, F_28_3, F_28_4, F_28_5, F_28_6, F_28_7, F_28_8, sh_35, F_35_0, sh_39, F_39_0, F_39_1, F_39_2, F_39_3, F_39_4, F_39_5, F_39_6, F_39_7, F_39_8, F_39_9, F_39_10, F_39_11, F_39_12, F_39_13, A_2, A_4, A_6, A_7, A_8, A_9, A_10, A_11, A_13, A_15, A_16, A_17, A_18, A_19, A_20, A_22, A_23, A_24, A_25, A_26, A_27, A_29, A_30, A_31, A_32, A_33, A_34, A_36, A_37, A_38, A_40, A_41, A_42, A_43, A_44, A_45, A_46, A_47]
        refine ⟨L, t, y0 + k, rfl, htt, ?_⟩
        dsimp only [k_X5_token_0, k_X5_token_1, k_X5_token_2, k_X5_token_5, k_X5_token_8, k_X5_token_10, k_X5_token_13, k_X5_token_14, k_X5_token_15, k_X5_token_18, k_X5_token_19, k_X5_token_20, k_X5_token_23, k_X5_token_26, k_X5_token_27, k_X5_token_28, k_X5_token_31, k_X5_token_34, k_X5_token_35, k_X5_token_36, k_X5_token_37, k_X5_token_40, k_X5_token_43, k_X5_token_46, k_X5_token_49, k_X5_token_50, k_X5_token_51, k_X5_token_54, k_X5_token_55, k_X5_token_58, k_X5_token_61, k_X5_token_62, k_X5_token_65, k_X5_token_68, k_X5_token_69, k_X5_token_72, k_X5_token_73, k_X5_token_76, k_X5_token_77, k_X5_token_80, k_X5_token_81, k_X5_token_84, k_X5_token_85, k_X5_token_86, k_X5_token_89, k_X5_token_92, k_X5_token_95, k_X5_token_96, k_X5_token_99, k_X5_token_102, k_X5_token_103, k_X5_token_104, k_X5_token_107, k_X5_token_108, k_X5_token_109, k_X5_token_112, k_X5_token_113, k_X5_token_114, k_X5_token_117, k_X5_token_118, k_X5_token_119, k_X5_token_122, k_X5_token_125, wp1, wp_s, cutIn, kont, Nat.reduceSub, Nat.reduceAdd, nth, o_const, o_lconst, o_ref, o_iload, o_lload, o_aload, o_istore, o_lstore, o_astore, o_iinc, o_bin, o_div, o_un, o_lbin, o_lsh, o_lcmp, o_i2l, o_l2i, o_if, o_icmp, o_goto, o_dup, o_dup2, o_pop, fav, o_getf, o_putI, o_putZ, o_putL, o_ald, o_ast, o_alen, popn, rst, o_callV, o_callT, o_callS, swx, o_sw, o_ret, o_iret, o_zret, o_cret, o_lret, o_aret, lg, lput, lput2, ls1, isL, entL, wsum, rdI1, rdI2, rdA1, rdA21, rdA22, rdL1, rdL22, rdL21, upN_at, rep, sh_0, F_0_0, F_0_1, F_0_2, F_0_3, F_0_4, F_0_5, F_0_6, F_0_7, F_0_8, sh_1, F_1_0, F_1_1, F_1_2, F_1_3, F_1_4, F_1_5, sh_3, F_3_0, F_3_1, F_3_2, F_3_3, F_3_4, F_3_5, sh_5, F_5_0, F_5_1, F_5_2, F_5_3, F_5_4, F_5_5, F_5_6, F_5_7, F_5_8, sh_12, F_12_0, F_12_1, F_12_2, F_12_3, F_12_4, F_12_5, sh_14, F_14_0, F_14_1, F_14_2, F_14_3, F_14_4, F_14_5, F_14_6, F_14_7, F_14_8, sh_21, F_21_0, F_21_1, F_21_2, F_21_3, F_21_4, F_21_5, F_21_6, F_21_7, F_21_8, sh_28, F_28_0, F_28_1, F_28_2, F_28_3, F_28_4, F_28_5, F_28_6, F_28_7, F_28_8, sh_35, F_35_0, sh_39, F_39_0, F_39_1, F_39_2, F_39_3, F_39_4, F_39_5, F_39_6, F_39_7, F_39_8, F_39_9, F_39_10, F_39_11, F_39_12, F_39_13, A_2, A_4, A_6, A_7, A_8, A_9, A_10, A_11, A_13, A_15, A_16, A_17, A_18, A_19, A_20, A_22, A_23, A_24, A_25, A_26, A_27, A_29, A_30, A_31, A_32, A_33, A_34, A_36, A_37, A_38, A_40, A_41, A_42, A_43, A_44, A_45, A_46, A_47]
        rw [w2, sr_2]
        rw [if_neg hw.1, if_pos hw.2] at h
        refine ⟨fun w3 => ?_, fun w3 => ?_⟩
        · obtain ⟨c1, c2⟩ := adv g2 (Or.inr ⟨g1, w3.1, Or.inr ⟨hw.2, w3.2.2, g5 hw.2⟩⟩)
          refine cut _ _ ⟨rfl, rfl, Or.inr ⟨rfl, k + 1, c1, Or.inr c2, ?_, rfl⟩⟩ (by omega) ⟨rfl, trivial⟩
          simp only [sA_sA, sA_cm, sI_sA, sI_sI, sI_cm, sL_sA, sL_sI, sL_sL, sL_cm, Nat.reduceLT]
          exact memE _
        · rw [← g5 hw.2, sk_e (fun e => Bool.eq_false_iff.mpr fun e2 => w3 ⟨e, noWD e2, e2⟩), Nat.add_sub_cancel_left, w2] at h
          exact h
      · have n1 : isW (t y0) ≠ true := fun e => w1 (sr_1.mpr ⟨g2, e⟩)
        have n2 : isD (t y0) ≠ true := fun e => w2 (sr_2.mpr ⟨g2, n1, e⟩)
        have k1 := g6 n1 n2
        subst k1
        rw [if_neg n1, if_neg n2, Nat.add_sub_cancel_left] at h
        exact h
theorem c_X5_token : Ctr yX5_token cX5_token 1 none ({ frames := 2, cells := 0, slots := 0, locals := 42 } : Room) S_X5_token := ctr_of (T := T_X5_token) (by decide +kernel) (fun post C hr => t_X5_token post C hr) v_X5_token
