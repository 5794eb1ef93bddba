/-! The class's face: who is rated, images, counts, the trace. -/
def kB (h : Nat → Int32) (n : Nat) (x : Int32) : Nat := mk (fun k => h k == x) n
def rP (h : Nat → Int32) (n : Nat) (x : Int32) : Int32 := nI (cn (kB h n x) 9)
def rC (r : Nat → Nat) (h : Nat → Int32) (n : Nat) (lk : Nat → Nat) (c : Nat) (x : Int32) : Int32 := rP h n x + nI (cn (opn r n lk c (kB h n x)) 9)
def rM (r : Nat → Nat) (h : Nat → Int32) (n : Nat) (x : Int32) : Int32 := rP h n x - nI (cn (xrN r (kB h n x) n) 9)
def S_X4_ratePerson : SP := fun as M post => ∃ x n c p r h lk, as = [VR 0, VI x] ∧ XW M n c p r h lk ∧ post (some (VI (rP h n x))) (sL 0 (M.2.1 0 + 1) M)
def S_X4_rateCook : SP := fun as M post => ∃ x n c p r h lk, as = [VR 0, VI x] ∧ XW M n c p r h lk ∧ ∀ f, post (some (VI (rC r h n lk c x))) (sA 27 f (sL 0 (M.2.1 0 + 10 + 1) M))
def S_X4_rateMaid : SP := fun as M post => ∃ x n c p r h lk, as = [VR 0, VI x] ∧ XW M n c p r h lk ∧ post (some (VI (rM r h n x))) (sL 0 (M.2.1 0 + 100 + 1) M)
def S_X4_rateSteward : SP := fun as M post => ∃ x n c p r h lk, as = [VR 0, VI x] ∧ XW M n c p r h lk ∧ ∀ f, post (some (VI (2 * rC r h n lk c x))) (sA 27 f (sL 0 (M.2.1 0 + 1000 + 10 + 1) M))
def S_X4_rateGroom : SP := fun as M post => ∃ x n c p r h lk, as = [VR 0, VI x] ∧ XW M n c p r h lk ∧ post (some (VI (rM r h n x + x))) (sL 0 (M.2.1 0 + 10000 + 100 + 1) M)
def S_X4_rateThief : SP := fun as M post => ∃ x n c p r h lk, as = [VR 0, VI x] ∧ XW M n c p r h lk ∧ post (some (VI (rP h n x + nI (cn (kB h n (-4)) 9)))) (sL 0 (M.2.1 0 + 100000 + 1) M)
theorem fl_RX4_214 : Cond.fieldLink RX4 214 (TX4 8).1 (TX4 8).2.1 (TX4 8).2.2.1 ∈ tb := tb_of 193 (by decide +kernel) (by decide +kernel)
theorem dX4_ratePerson_0 : decode cX4_ratePerson 0 = .ok (.aload_n 0, 1) := by decide +kernel
theorem dX4_ratePerson_1 : decode cX4_ratePerson 1 = .ok (.dup, 1) := by decide +kernel
theorem dX4_ratePerson_2 : decode cX4_ratePerson 2 = .ok (.getfield 214, 3) := by decide +kernel
theorem dX4_ratePerson_5 : decode cX4_ratePerson 5 = .ok (.lconst 1, 1) := by decide +kernel
theorem dX4_ratePerson_6 : decode cX4_ratePerson 6 = .ok (.ladd, 1) := by decide +kernel
theorem dX4_ratePerson_7 : decode cX4_ratePerson 7 = .ok (.putfield 214, 3) := by decide +kernel
theorem dX4_ratePerson_10 : decode cX4_ratePerson 10 = .ok (.aload_n 0, 1) := by decide +kernel
theorem dX4_ratePerson_11 : decode cX4_ratePerson 11 = .ok (.getfield 19, 3) := by decide +kernel
theorem dX4_ratePerson_14 : decode cX4_ratePerson 14 = .ok (.getfield 71, 3) := by decide +kernel
theorem dX4_ratePerson_17 : decode cX4_ratePerson 17 = .ok (.iload_n 1, 1) := by decide +kernel
theorem dX4_ratePerson_18 : decode cX4_ratePerson 18 = .ok (.invokevirtual 166, 3) := by decide +kernel
theorem dX4_ratePerson_21 : decode cX4_ratePerson 21 = .ok (.invokestatic 132, 3) := by decide +kernel
theorem dX4_ratePerson_24 : decode cX4_ratePerson 24 = .ok (.ireturn, 1) := by decide +kernel
def T_X4_ratePerson (post : PO) : List (Nat × OP) := [(0, o_aload 0 1), (1, o_dup 2), (2, o_getf 4 8 5), (5, o_lconst 1 6), (6, o_lbin (fun x y => x + y) 7), (7, o_putL 4 8 10), (10, o_aload 0 11), (11, o_getf 4 1 14), (14, o_getf 0 0 17), (17, o_iload 1 18), (18, o_callV 1 S_X1_keptBy 1 21), (21, o_callS S_J6_bitCount_0f7a4 1 24), (24, o_iret post)]
theorem k_X4_ratePerson_0 (post : PO) : lk (T_X4_ratePerson post) 0 = o_aload 0 1 := rfl
theorem k_X4_ratePerson_1 (post : PO) : lk (T_X4_ratePerson post) 1 = o_dup 2 := rfl
theorem k_X4_ratePerson_2 (post : PO) : lk (T_X4_ratePerson post) 2 = o_getf 4 8 5 := rfl
theorem k_X4_ratePerson_5 (post : PO) : lk (T_X4_ratePerson post) 5 = o_lconst 1 6 := rfl
theorem k_X4_ratePerson_6 (post : PO) : lk (T_X4_ratePerson post) 6 = o_lbin (fun x y => x + y) 7 := rfl
theorem k_X4_ratePerson_7 (post : PO) : lk (T_X4_ratePerson post) 7 = o_putL 4 8 10 := rfl
theorem k_X4_ratePerson_10 (post : PO) : lk (T_X4_ratePerson post) 10 = o_aload 0 11 := rfl
theorem k_X4_ratePerson_11 (post : PO) : lk (T_X4_ratePerson post) 11 = o_getf 4 1 14 := rfl
theorem k_X4_ratePerson_14 (post : PO) : lk (T_X4_ratePerson post) 14 = o_getf 0 0 17 := rfl
theorem k_X4_ratePerson_17 (post : PO) : lk (T_X4_ratePerson post) 17 = o_iload 1 18 := rfl
theorem k_X4_ratePerson_18 (post : PO) : lk (T_X4_ratePerson post) 18 = o_callV 1 S_X1_keptBy 1 21 := rfl
theorem k_X4_ratePerson_21 (post : PO) : lk (T_X4_ratePerson post) 21 = o_callS S_J6_bitCount_0f7a4 1 24 := rfl
theorem k_X4_ratePerson_24 (post : PO) : lk (T_X4_ratePerson post) 24 = o_iret post := rfl
set_option maxRecDepth 100000 in
theorem t_X4_ratePerson {p : Program} {l : Launch} {e : Env} {s : State} {m : MethodId} {args : Array Value} {below : List Frame} {meth : Method} {c : Code} {D : va_G} {dA : Nat → ClassId} {ad : Nat → Nat} (post : PO) (C : CX p s m args meth c cX4_ratePerson 2 yX4_ratePerson.cls D dA ad (AA ad s.heap.size)) (hr : meth.sig.returnType = (some .int)) : SndL (WW p l e ({ frames := 1, cells := 0, slots := 0, locals := 23 } : Room) s m args below meth c 0 0 (MQ below (CQ D dA ad post (AA ad s.heap.size)) args s 0 0 (AA ad s.heap.size)) 2 D dA ad (AA ad s.heap.size)) (T_X4_ratePerson post) := by
  refine snd_c (s_aload_n C rfl dX4_ratePerson_0) ?_
  refine snd_c (s_dup C dX4_ratePerson_1) ?_
  refine snd_c (s_getf C (ci := 4) (j := 8) (T := TX4) rfl inX4 (by decide) fl_RX4_214 dX4_ratePerson_2) ?_
  refine snd_c (s_lconst C dX4_ratePerson_5 rfl) ?_
  refine snd_c (s_ladd C dX4_ratePerson_6) ?_
  refine snd_c (s_putL C (ci := 4) (j := 8) (T := TX4) tyX4 tyX4_ok nmX4 rfl inX4 (by decide) rfl rfl fl_RX4_214 dX4_ratePerson_7) ?_
  refine snd_c (s_aload_n C rfl dX4_ratePerson_10) ?_
  refine snd_c (s_getf C (ci := 4) (j := 1) (T := TX4) rfl inX4 (by decide) fl_RX4_19 dX4_ratePerson_11) ?_
  refine snd_c (s_getf C (ci := 0) (j := 0) (T := TX0) rfl inX0 (by decide) fl_RX4_71 dX4_ratePerson_14) ?_
  refine snd_c (s_iload_n C rfl dX4_ratePerson_17) ?_
  refine snd_c (s_callV C (ci := 1) c_X1_keptBy rfl cw_RX4_166 ⟨rfl, rfl⟩ ⟨by decide +kernel, by decide +kernel, by decide +kernel⟩ ⟨by decide, by decide⟩ ⟨Nat.zero_le _, Nat.zero_le _⟩ dX4_ratePerson_18) ?_
  refine snd_c (s_callS C c_J6_bitCount_0f7a4 cw_RX4_132 ⟨rfl, rfl⟩ ⟨by decide +kernel, by decide +kernel, by decide +kernel⟩ ⟨by decide, by decide⟩ ⟨Nat.zero_le _, Nat.zero_le _⟩ dX4_ratePerson_21) ?_
  refine snd_c (s_iret C hr dX4_ratePerson_24) ?_
  exact trivial
theorem kB_lt (h : Nat → Int32) {n : Nat} (hn : n ≤ 8) (x : Int32) : kB h n x < 256 := Nat.lt_of_lt_of_le (mk_lt _ n) (Nat.pow_le_pow_right (n := 2) (by omega) hn)
theorem kB_e {M : AM} {n : Nat} {h : Nat → Int32} (hhk : ∀ k, k < n → M.2.2 3 k = h k) (x : Int32) : mk (fun k => M.2.2 3 k == x) n = kB h n x := mk_congr fun k hk => by rw [hhk k hk]
theorem XW_L {M : AM} {n c p : Nat} {r : Nat → Nat} {h : Nat → Int32} {lk : Nat → Nat} (hX : XW M n c p r h lk) (f : Int64) : XW (sL 0 f M) n c p r h lk := XW_of hX rfl rfl rfl rfl rfl rfl
set_option maxRecDepth 100000 in
theorem v_X4_ratePerson : ∀ as M post, S_X4_ratePerson as M post → wsum as ≤ 2 ∧ RUN (T_X4_ratePerson post) 0 (entL 2 as) [] M := by
  rintro as M post ⟨x, n, c, p, r, h0, lk, rfl, hX, h⟩
  have hX0 := hX
  obtain ⟨hn, hn8, hc, hc6, hp, hp4, hr, hhk, hl⟩ := hX
  have hk := kB_lt h0 hn8 x
  refine ⟨by show 2 ≤ 2; omega, run_wp 60 ?_⟩
  dsimp only [k_X4_ratePerson_0, k_X4_ratePerson_1, k_X4_ratePerson_2, k_X4_ratePerson_5, k_X4_ratePerson_6, k_X4_ratePerson_7, k_X4_ratePerson_10, k_X4_ratePerson_11, k_X4_ratePerson_14, k_X4_ratePerson_17, k_X4_ratePerson_18, k_X4_ratePerson_21, k_X4_ratePerson_24, wp1, wp_s, cutIn, kont, Nat.reduceSub, Nat.reduceAdd, nth, o_const, o_lconst, o_ref, o_iload, o_lload, o_aload, o_istore, o_lstore, o_astore, o_iinc, o_bin, o_div, o_un, o_lbin, o_lsh, o_lcmp, o_i2l, o_l2i, o_if, o_icmp, o_goto, o_dup, o_dup2, o_pop, fav, o_getf, o_putI, o_putZ, o_putL, o_ald, o_ast, o_alen, popn, rst, o_callV, o_callT, o_callS, swx, o_sw, o_ret, o_iret, o_zret, o_cret, o_lret, o_aret, lg, lput, lput2, ls1, isL, entL, wsum, rdI1, rdI2, rdA1, rdA21, rdA22, rdL1, rdL22, rdL21, upN_at, rep, sh_0, F_0_0, F_0_1, F_0_2, F_0_3, F_0_4, F_0_5, F_0_6, F_0_7, F_0_8, sh_1, F_1_0, F_1_1, F_1_2, F_1_3, F_1_4, F_1_5, sh_3, F_3_0, F_3_1, F_3_2, F_3_3, F_3_4, F_3_5, sh_5, F_5_0, F_5_1, F_5_2, F_5_3, F_5_4, F_5_5, F_5_6, F_5_7, F_5_8, sh_12, F_12_0, F_12_1, F_12_2, F_12_3, F_12_4, F_12_5, sh_14, F_14_0, F_14_1, F_14_2, F_14_3, F_14_4, F_14_5, F_14_6, F_14_7, F_14_8, sh_21, F_21_0, F_21_1, F_21_2, F_21_3, F_21_4, F_21_5, F_21_6, F_21_7, F_21_8, sh_28, F_28_0, F_28_1, F_28_2, F_28_3, F_28_4, F_28_5, F_28_6, F_28_7, F_28_8, sh_35, F_35_0, sh_39, F_39_0, F_39_1, F_39_2, F_39_3, F_39_4, F_39_5, F_39_6, F_39_7, F_39_8, F_39_9, F_39_10, F_39_11, F_39_12, F_39_13, A_2, A_4, A_6, A_7, A_8, A_9, A_10, A_11, A_13, A_15, A_16, A_17, A_18, A_19, A_20, A_22, A_23, A_24, A_25, A_26, A_27, A_29, A_30, A_31, A_32, A_33, A_34, A_36, A_37, A_38, A_40, A_41, A_42, A_43, A_44, A_45, A_46, A_47]
  refine ⟨x, n, rfl, hn, hn8, ?_⟩
  rw [show mk (fun k => (sL 0 (M.2.1 0 + 1) M).2.2 3 k == x) n = kB h0 n x from kB_e hhk x]
  dsimp only [k_X4_ratePerson_0, k_X4_ratePerson_1, k_X4_ratePerson_2, k_X4_ratePerson_5, k_X4_ratePerson_6, k_X4_ratePerson_7, k_X4_ratePerson_10, k_X4_ratePerson_11, k_X4_ratePerson_14, k_X4_ratePerson_17, k_X4_ratePerson_18, k_X4_ratePerson_21, k_X4_ratePerson_24, wp1, wp_s, cutIn, kont, Nat.reduceSub, Nat.reduceAdd, nth, o_const, o_lconst, o_ref, o_iload, o_lload, o_aload, o_istore, o_lstore, o_astore, o_iinc, o_bin, o_div, o_un, o_lbin, o_lsh, o_lcmp, o_i2l, o_l2i, o_if, o_icmp, o_goto, o_dup, o_dup2, o_pop, fav, o_getf, o_putI, o_putZ, o_putL, o_ald, o_ast, o_alen, popn, rst, o_callV, o_callT, o_callS, swx, o_sw, o_ret, o_iret, o_zret, o_cret, o_lret, o_aret, lg, lput, lput2, ls1, isL, entL, wsum, rdI1, rdI2, rdA1, rdA21, rdA22, rdL1, rdL22, rdL21, upN_at, rep, sh_0, F_0_0, F_0_1, F_0_2, F_0_3, F_0_4, F_0_5, F_0_6, F_0_7, F_0_8, sh_1, F_1_0, F_1_1, F_1_2, F_1_3, F_1_4, F_1_5, sh_3, F_3_0, F_3_1, F_3_2, F_3_3, F_3_4, F_3_5, sh_5, F_5_0, F_5_1, F_5_2, F_5_3, F_5_4, F_5_5, F_5_6, F_5_7, F_5_8, sh_12, F_12_0, F_12_1, F_12_2, F_12_3, F_12_4, F_12_5, sh_14, F_14_0, F_14_1, F_14_2, F_14_3, F_14_4, F_14_5, F_14_6, F_14_7, F_14_8, sh_21, F_21_0, F_21_1, F_21_2, F_21_3, F_21_4, F_21_5, F_21_6, F_21_7, F_21_8, sh_28, F_28_0, F_28_1, F_28_2, F_28_3, F_28_4, F_28_5, F_28_6, F_28_7, F_28_8, sh_35, F_35_0, sh_39, F_39_0, F_39_1, F_39_2, F_39_3, F_39_4, F_39_5, F_39_6, F_39_7, F_39_8, F_39_9, F_39_10, F_39_11, F_39_12, F_39_13, A_2, A_4, A_6, A_7, A_8, A_9, A_10, A_11, A_13, A_15, A_16, A_17, A_18, A_19, A_20, A_22, A_23, A_24, A_25, A_26, A_27, A_29, A_30, A_31, A_32, A_33, A_34, A_36, A_37, A_38, A_40, A_41, A_42, A_43, A_44, A_45, A_46, A_47]
  refine ⟨_, rfl, by omega, ?_⟩
  dsimp only [k_X4_ratePerson_0, k_X4_ratePerson_1, k_X4_ratePerson_2, k_X4_ratePerson_5, k_X4_ratePerson_6, k_X4_ratePerson_7, k_X4_ratePerson_10, k_X4_ratePerson_11, k_X4_ratePerson_14, k_X4_ratePerson_17, k_X4_ratePerson_18, k_X4_ratePerson_21, k_X4_ratePerson_24, wp1, wp_s, cutIn, kont, Nat.reduceSub, Nat.reduceAdd, nth, o_const, o_lconst, o_ref, o_iload, o_lload, o_aload, o_istore, o_lstore, o_astore, o_iinc, o_bin, o_div, o_un, o_lbin, o_lsh, o_lcmp, o_i2l, o_l2i, o_if, o_icmp, o_goto, o_dup, o_dup2, o_pop, fav, o_getf, o_putI, o_putZ, o_putL, o_ald, o_ast, o_alen, popn, rst, o_callV, o_callT, o_callS, swx, o_sw, o_ret, o_iret, o_zret, o_cret, o_lret, o_aret, lg, lput, lput2, ls1, isL, entL, wsum, rdI1, rdI2, rdA1, rdA21, rdA22, rdL1, rdL22, rdL21, upN_at, rep, sh_0, F_0_0, F_0_1, F_0_2, F_0_3, F_0_4, F_0_5, F_0_6, F_0_7, F_0_8, sh_1, F_1_0, F_1_1, F_1_2, F_1_3, F_1_4, F_1_5, sh_3, F_3_0, F_3_1, F_3_2, F_3_3, F_3_4, F_3_5, sh_5, F_5_0, F_5_1, F_5_2, F_5_3, F_5_4, F_5_5, F_5_6, F_5_7, F_5_8, sh_12, F_12_0, F_12_1, F_12_2, F_12_3, F_12_4, F_12_5, sh_14, F_14_0, F_14_1, F_14_2, F_14_3, F_14_4, F_14_5, F_14_6, F_14_7, F_14_8, sh_21, F_21_0, F_21_1, F_21_2, F_21_3, F_21_4, F_21_5, F_21_6, F_21_7, F_21_8, sh_28, F_28_0, F_28_1, F_28_2, F_28_3, F_28_4, F_28_5, F_28_6, F_28_7, F_28_8, sh_35, F_35_0, sh_39, F_39_0, F_39_1, F_39_2, F_39_3, F_39_4, F_39_5, F_39_6, F_39_7, F_39_8, F_39_9, F_39_10, F_39_11, F_39_12, F_39_13, A_2, A_4, A_6, A_7, A_8, A_9, A_10, A_11, A_13, A_15, A_16, A_17, A_18, A_19, A_20, A_22, A_23, A_24, A_25, A_26, A_27, A_29, A_30, A_31, A_32, A_33, A_34, A_36, A_37, A_38, A_40, A_41, A_42, A_43, A_44, A_45, A_46, A_47]
  exact h
theorem c_X4_ratePerson : Ctr yX4_ratePerson cX4_ratePerson 2 (some .int) ({ frames := 1, cells := 0, slots := 0, locals := 23 } : Room) S_X4_ratePerson := ctr_of (T := T_X4_ratePerson) (by decide +kernel) (fun post C hr => t_X4_ratePerson post C hr) v_X4_ratePerson
theorem ctL_RX4_227 : Cond.constantLong RX4 227 (10) ∈ tb := tb_of 585 (by decide +kernel) (by decide +kernel)
theorem cw_RX4_183 : ∀ w ∈ ([.methodLink RX4 183 yX4_ratePerson, .instanceMethod yX4_ratePerson, .selects yX4_ratePerson.cls yX4_ratePerson yX4_ratePerson, .initialized yX4_ratePerson.cls, .code yX4_ratePerson cX4_ratePerson 2 (some .int)] : List Cond), w ∈ tb := tb_all [577, 579, 23, 54, 580] (by decide +kernel) (by decide +kernel)
theorem dX4_rateCook_0 : decode cX4_rateCook 0 = .ok (.aload_n 0, 1) := by decide +kernel
theorem dX4_rateCook_1 : decode cX4_rateCook 1 = .ok (.dup, 1) := by decide +kernel
theorem dX4_rateCook_2 : decode cX4_rateCook 2 = .ok (.getfield 214, 3) := by decide +kernel
theorem dX4_rateCook_5 : decode cX4_rateCook 5 = .ok (.ldc2_w 227, 3) := by decide +kernel
theorem dX4_rateCook_8 : decode cX4_rateCook 8 = .ok (.ladd, 1) := by decide +kernel
theorem dX4_rateCook_9 : decode cX4_rateCook 9 = .ok (.putfield 214, 3) := by decide +kernel
theorem dX4_rateCook_12 : decode cX4_rateCook 12 = .ok (.aload_n 0, 1) := by decide +kernel
theorem dX4_rateCook_13 : decode cX4_rateCook 13 = .ok (.iload_n 1, 1) := by decide +kernel
theorem dX4_rateCook_14 : decode cX4_rateCook 14 = .ok (.invokevirtual 183, 3) := by decide +kernel
theorem dX4_rateCook_17 : decode cX4_rateCook 17 = .ok (.aload_n 0, 1) := by decide +kernel
theorem dX4_rateCook_18 : decode cX4_rateCook 18 = .ok (.aload_n 0, 1) := by decide +kernel
theorem dX4_rateCook_19 : decode cX4_rateCook 19 = .ok (.getfield 19, 3) := by decide +kernel
theorem dX4_rateCook_22 : decode cX4_rateCook 22 = .ok (.getfield 71, 3) := by decide +kernel
theorem dX4_rateCook_25 : decode cX4_rateCook 25 = .ok (.iload_n 1, 1) := by decide +kernel
theorem dX4_rateCook_26 : decode cX4_rateCook 26 = .ok (.invokevirtual 166, 3) := by decide +kernel
theorem dX4_rateCook_29 : decode cX4_rateCook 29 = .ok (.invokevirtual 143, 3) := by decide +kernel
theorem dX4_rateCook_32 : decode cX4_rateCook 32 = .ok (.invokestatic 132, 3) := by decide +kernel
theorem dX4_rateCook_35 : decode cX4_rateCook 35 = .ok (.iadd, 1) := by decide +kernel
theorem dX4_rateCook_36 : decode cX4_rateCook 36 = .ok (.ireturn, 1) := by decide +kernel
def T_X4_rateCook (post : PO) : List (Nat × OP) := [(0, o_aload 0 1), (1, o_dup 2), (2, o_getf 4 8 5), (5, o_lconst 10 8), (8, o_lbin (fun x y => x + y) 9), (9, o_putL 4 8 12), (12, o_aload 0 13), (13, o_iload 1 14), (14, o_callV 4 S_X4_ratePerson 1 17), (17, o_aload 0 18), (18, o_aload 0 19), (19, o_getf 4 1 22), (22, o_getf 0 0 25), (25, o_iload 1 26), (26, o_callV 1 S_X1_keptBy 1 29), (29, o_callV 4 S_X4_openedBy 1 32), (32, o_callS S_J6_bitCount_0f7a4 1 35), (35, o_bin (fun x y => x + y) 36), (36, o_iret post)]
theorem k_X4_rateCook_0 (post : PO) : lk (T_X4_rateCook post) 0 = o_aload 0 1 := rfl
theorem k_X4_rateCook_1 (post : PO) : lk (T_X4_rateCook post) 1 = o_dup 2 := rfl
theorem k_X4_rateCook_2 (post : PO) : lk (T_X4_rateCook post) 2 = o_getf 4 8 5 := rfl
theorem k_X4_rateCook_5 (post : PO) : lk (T_X4_rateCook post) 5 = o_lconst 10 8 := rfl
theorem k_X4_rateCook_8 (post : PO) : lk (T_X4_rateCook post) 8 = o_lbin (fun x y => x + y) 9 := rfl
theorem k_X4_rateCook_9 (post : PO) : lk (T_X4_rateCook post) 9 = o_putL 4 8 12 := rfl
theorem k_X4_rateCook_12 (post : PO) : lk (T_X4_rateCook post) 12 = o_aload 0 13 := rfl
theorem k_X4_rateCook_13 (post : PO) : lk (T_X4_rateCook post) 13 = o_iload 1 14 := rfl
theorem k_X4_rateCook_14 (post : PO) : lk (T_X4_rateCook post) 14 = o_callV 4 S_X4_ratePerson 1 17 := rfl
theorem k_X4_rateCook_17 (post : PO) : lk (T_X4_rateCook post) 17 = o_aload 0 18 := rfl
theorem k_X4_rateCook_18 (post : PO) : lk (T_X4_rateCook post) 18 = o_aload 0 19 := rfl
theorem k_X4_rateCook_19 (post : PO) : lk (T_X4_rateCook post) 19 = o_getf 4 1 22 := rfl
theorem k_X4_rateCook_22 (post : PO) : lk (T_X4_rateCook post) 22 = o_getf 0 0 25 := rfl
theorem k_X4_rateCook_25 (post : PO) : lk (T_X4_rateCook post) 25 = o_iload 1 26 := rfl
theorem k_X4_rateCook_26 (post : PO) : lk (T_X4_rateCook post) 26 = o_callV 1 S_X1_keptBy 1 29 := rfl
theorem k_X4_rateCook_29 (post : PO) : lk (T_X4_rateCook post) 29 = o_callV 4 S_X4_openedBy 1 32 := rfl
theorem k_X4_rateCook_32 (post : PO) : lk (T_X4_rateCook post) 32 = o_callS S_J6_bitCount_0f7a4 1 35 := rfl
theorem k_X4_rateCook_35 (post : PO) : lk (T_X4_rateCook post) 35 = o_bin (fun x y => x + y) 36 := rfl
theorem k_X4_rateCook_36 (post : PO) : lk (T_X4_rateCook post) 36 = o_iret post := rfl
set_option maxRecDepth 100000 in
theorem t_X4_rateCook {p : Program} {l : Launch} {e : Env} {s : State} {m : MethodId} {args : Array Value} {below : List Frame} {meth : Method} {c : Code} {D : va_G} {dA : Nat → ClassId} {ad : Nat → Nat} (post : PO) (C : CX p s m args meth c cX4_rateCook 2 yX4_rateCook.cls D dA ad (AA ad s.heap.size)) (hr : meth.sig.returnType = (some .int)) : SndL (WW p l e ({ frames := 4, cells := 0, slots := 0, locals := 91 } : Room) s m args below meth c 0 0 (MQ below (CQ D dA ad post (AA ad s.heap.size)) args s 0 0 (AA ad s.heap.size)) 2 D dA ad (AA ad s.heap.size)) (T_X4_rateCook post) := by
  refine snd_c (s_aload_n C rfl dX4_rateCook_0) ?_
  refine snd_c (s_dup C dX4_rateCook_1) ?_
  refine snd_c (s_getf C (ci := 4) (j := 8) (T := TX4) rfl inX4 (by decide) fl_RX4_214 dX4_rateCook_2) ?_
  refine snd_c (s_ldc2 C ctL_RX4_227 dX4_rateCook_5) ?_
  refine snd_c (s_ladd C dX4_rateCook_8) ?_
  refine snd_c (s_putL C (ci := 4) (j := 8) (T := TX4) tyX4 tyX4_ok nmX4 rfl inX4 (by decide) rfl rfl fl_RX4_214 dX4_rateCook_9) ?_
  refine snd_c (s_aload_n C rfl dX4_rateCook_12) ?_
  refine snd_c (s_iload_n C rfl dX4_rateCook_13) ?_
  refine snd_c (s_callV C (ci := 4) c_X4_ratePerson rfl cw_RX4_183 ⟨rfl, rfl⟩ ⟨by decide +kernel, by decide +kernel, by decide +kernel⟩ ⟨by decide, by decide⟩ ⟨Nat.zero_le _, Nat.zero_le _⟩ dX4_rateCook_14) ?_
  refine snd_c (s_aload_n C rfl dX4_rateCook_17) ?_
  refine snd_c (s_aload_n C rfl dX4_rateCook_18) ?_
  refine snd_c (s_getf C (ci := 4) (j := 1) (T := TX4) rfl inX4 (by decide) fl_RX4_19 dX4_rateCook_19) ?_
  refine snd_c (s_getf C (ci := 0) (j := 0) (T := TX0) rfl inX0 (by decide) fl_RX4_71 dX4_rateCook_22) ?_
  refine snd_c (s_iload_n C rfl dX4_rateCook_25) ?_
  refine snd_c (s_callV C (ci := 1) c_X1_keptBy rfl cw_RX4_166 ⟨rfl, rfl⟩ ⟨by decide +kernel, by decide +kernel, by decide +kernel⟩ ⟨by decide, by decide⟩ ⟨Nat.zero_le _, Nat.zero_le _⟩ dX4_rateCook_26) ?_
  refine snd_c (s_callV C (ci := 4) c_X4_openedBy rfl cw_RX4_143 ⟨rfl, rfl⟩ ⟨by decide +kernel, by decide +kernel, by decide +kernel⟩ ⟨by decide, by decide⟩ ⟨Nat.zero_le _, Nat.zero_le _⟩ dX4_rateCook_29) ?_
  refine snd_c (s_callS C c_J6_bitCount_0f7a4 cw_RX4_132 ⟨rfl, rfl⟩ ⟨by decide +kernel, by decide +kernel, by decide +kernel⟩ ⟨by decide, by decide⟩ ⟨Nat.zero_le _, Nat.zero_le _⟩ dX4_rateCook_32) ?_
  refine snd_c (s_iadd C dX4_rateCook_35) ?_
  refine snd_c (s_iret C hr dX4_rateCook_36) ?_
  exact trivial
theorem ctL_RX4_229 : Cond.constantLong RX4 229 (100) ∈ tb := tb_of 590 (by decide +kernel) (by decide +kernel)
theorem dX4_rateMaid_0 : decode cX4_rateMaid 0 = .ok (.aload_n 0, 1) := by decide +kernel
theorem dX4_rateMaid_1 : decode cX4_rateMaid 1 = .ok (.dup, 1) := by decide +kernel
theorem dX4_rateMaid_2 : decode cX4_rateMaid 2 = .ok (.getfield 214, 3) := by decide +kernel
theorem dX4_rateMaid_5 : decode cX4_rateMaid 5 = .ok (.ldc2_w 229, 3) := by decide +kernel
theorem dX4_rateMaid_8 : decode cX4_rateMaid 8 = .ok (.ladd, 1) := by decide +kernel
theorem dX4_rateMaid_9 : decode cX4_rateMaid 9 = .ok (.putfield 214, 3) := by decide +kernel
theorem dX4_rateMaid_12 : decode cX4_rateMaid 12 = .ok (.aload_n 0, 1) := by decide +kernel
theorem dX4_rateMaid_13 : decode cX4_rateMaid 13 = .ok (.iload_n 1, 1) := by decide +kernel
theorem dX4_rateMaid_14 : decode cX4_rateMaid 14 = .ok (.invokevirtual 183, 3) := by decide +kernel
theorem dX4_rateMaid_17 : decode cX4_rateMaid 17 = .ok (.aload_n 0, 1) := by decide +kernel
theorem dX4_rateMaid_18 : decode cX4_rateMaid 18 = .ok (.getfield 19, 3) := by decide +kernel
theorem dX4_rateMaid_21 : decode cX4_rateMaid 21 = .ok (.getfield 71, 3) := by decide +kernel
theorem dX4_rateMaid_24 : decode cX4_rateMaid 24 = .ok (.aload_n 0, 1) := by decide +kernel
theorem dX4_rateMaid_25 : decode cX4_rateMaid 25 = .ok (.getfield 19, 3) := by decide +kernel
theorem dX4_rateMaid_28 : decode cX4_rateMaid 28 = .ok (.getfield 71, 3) := by decide +kernel
theorem dX4_rateMaid_31 : decode cX4_rateMaid 31 = .ok (.iload_n 1, 1) := by decide +kernel
theorem dX4_rateMaid_32 : decode cX4_rateMaid 32 = .ok (.invokevirtual 166, 3) := by decide +kernel
theorem dX4_rateMaid_35 : decode cX4_rateMaid 35 = .ok (.invokevirtual 101, 3) := by decide +kernel
theorem dX4_rateMaid_38 : decode cX4_rateMaid 38 = .ok (.invokestatic 132, 3) := by decide +kernel
theorem dX4_rateMaid_41 : decode cX4_rateMaid 41 = .ok (.isub, 1) := by decide +kernel
theorem dX4_rateMaid_42 : decode cX4_rateMaid 42 = .ok (.ireturn, 1) := by decide +kernel
def T_X4_rateMaid (post : PO) : List (Nat × OP) := [(0, o_aload 0 1), (1, o_dup 2), (2, o_getf 4 8 5), (5, o_lconst 100 8), (8, o_lbin (fun x y => x + y) 9), (9, o_putL 4 8 12), (12, o_aload 0 13), (13, o_iload 1 14), (14, o_callV 4 S_X4_ratePerson 1 17), (17, o_aload 0 18), (18, o_getf 4 1 21), (21, o_getf 0 0 24), (24, o_aload 0 25), (25, o_getf 4 1 28), (28, o_getf 0 0 31), (31, o_iload 1 32), (32, o_callV 1 S_X1_keptBy 1 35), (35, o_callV 1 S_X1_madeBy 1 38), (38, o_callS S_J6_bitCount_0f7a4 1 41), (41, o_bin (fun x y => x - y) 42), (42, o_iret post)]
theorem k_X4_rateMaid_0 (post : PO) : lk (T_X4_rateMaid post) 0 = o_aload 0 1 := rfl
theorem k_X4_rateMaid_1 (post : PO) : lk (T_X4_rateMaid post) 1 = o_dup 2 := rfl
theorem k_X4_rateMaid_2 (post : PO) : lk (T_X4_rateMaid post) 2 = o_getf 4 8 5 := rfl
theorem k_X4_rateMaid_5 (post : PO) : lk (T_X4_rateMaid post) 5 = o_lconst 100 8 := rfl
theorem k_X4_rateMaid_8 (post : PO) : lk (T_X4_rateMaid post) 8 = o_lbin (fun x y => x + y) 9 := rfl
theorem k_X4_rateMaid_9 (post : PO) : lk (T_X4_rateMaid post) 9 = o_putL 4 8 12 := rfl
theorem k_X4_rateMaid_12 (post : PO) : lk (T_X4_rateMaid post) 12 = o_aload 0 13 := rfl
theorem k_X4_rateMaid_13 (post : PO) : lk (T_X4_rateMaid post) 13 = o_iload 1 14 := rfl
theorem k_X4_rateMaid_14 (post : PO) : lk (T_X4_rateMaid post) 14 = o_callV 4 S_X4_ratePerson 1 17 := rfl
theorem k_X4_rateMaid_17 (post : PO) : lk (T_X4_rateMaid post) 17 = o_aload 0 18 := rfl
theorem k_X4_rateMaid_18 (post : PO) : lk (T_X4_rateMaid post) 18 = o_getf 4 1 21 := rfl
theorem k_X4_rateMaid_21 (post : PO) : lk (T_X4_rateMaid post) 21 = o_getf 0 0 24 := rfl
theorem k_X4_rateMaid_24 (post : PO) : lk (T_X4_rateMaid post) 24 = o_aload 0 25 := rfl
theorem k_X4_rateMaid_25 (post : PO) : lk (T_X4_rateMaid post) 25 = o_getf 4 1 28 := rfl
theorem k_X4_rateMaid_28 (post : PO) : lk (T_X4_rateMaid post) 28 = o_getf 0 0 31 := rfl
theorem k_X4_rateMaid_31 (post : PO) : lk (T_X4_rateMaid post) 31 = o_iload 1 32 := rfl
theorem k_X4_rateMaid_32 (post : PO) : lk (T_X4_rateMaid post) 32 = o_callV 1 S_X1_keptBy 1 35 := rfl
theorem k_X4_rateMaid_35 (post : PO) : lk (T_X4_rateMaid post) 35 = o_callV 1 S_X1_madeBy 1 38 := rfl
theorem k_X4_rateMaid_38 (post : PO) : lk (T_X4_rateMaid post) 38 = o_callS S_J6_bitCount_0f7a4 1 41 := rfl
theorem k_X4_rateMaid_41 (post : PO) : lk (T_X4_rateMaid post) 41 = o_bin (fun x y => x - y) 42 := rfl
theorem k_X4_rateMaid_42 (post : PO) : lk (T_X4_rateMaid post) 42 = o_iret post := rfl
set_option maxRecDepth 100000 in
theorem t_X4_rateMaid {p : Program} {l : Launch} {e : Env} {s : State} {m : MethodId} {args : Array Value} {below : List Frame} {meth : Method} {c : Code} {D : va_G} {dA : Nat → ClassId} {ad : Nat → Nat} (post : PO) (C : CX p s m args meth c cX4_rateMaid 2 yX4_rateMaid.cls D dA ad (AA ad s.heap.size)) (hr : meth.sig.returnType = (some .int)) : SndL (WW p l e ({ frames := 2, cells := 0, slots := 0, locals := 44 } : Room) s m args below meth c 0 0 (MQ below (CQ D dA ad post (AA ad s.heap.size)) args s 0 0 (AA ad s.heap.size)) 2 D dA ad (AA ad s.heap.size)) (T_X4_rateMaid post) := by
  refine snd_c (s_aload_n C rfl dX4_rateMaid_0) ?_
  refine snd_c (s_dup C dX4_rateMaid_1) ?_
  refine snd_c (s_getf C (ci := 4) (j := 8) (T := TX4) rfl inX4 (by decide) fl_RX4_214 dX4_rateMaid_2) ?_
  refine snd_c (s_ldc2 C ctL_RX4_229 dX4_rateMaid_5) ?_
  refine snd_c (s_ladd C dX4_rateMaid_8) ?_
  refine snd_c (s_putL C (ci := 4) (j := 8) (T := TX4) tyX4 tyX4_ok nmX4 rfl inX4 (by decide) rfl rfl fl_RX4_214 dX4_rateMaid_9) ?_
  refine snd_c (s_aload_n C rfl dX4_rateMaid_12) ?_
  refine snd_c (s_iload_n C rfl dX4_rateMaid_13) ?_
  refine snd_c (s_callV C (ci := 4) c_X4_ratePerson rfl cw_RX4_183 ⟨rfl, rfl⟩ ⟨by decide +kernel, by decide +kernel, by decide +kernel⟩ ⟨by decide, by decide⟩ ⟨Nat.zero_le _, Nat.zero_le _⟩ dX4_rateMaid_14) ?_
  refine snd_c (s_aload_n C rfl dX4_rateMaid_17) ?_
  refine snd_c (s_getf C (ci := 4) (j := 1) (T := TX4) rfl inX4 (by decide) fl_RX4_19 dX4_rateMaid_18) ?_
  refine snd_c (s_getf C (ci := 0) (j := 0) (T := TX0) rfl inX0 (by decide) fl_RX4_71 dX4_rateMaid_21) ?_
  refine snd_c (s_aload_n C rfl dX4_rateMaid_24) ?_
  refine snd_c (s_getf C (ci := 4) (j := 1) (T := TX4) rfl inX4 (by decide) fl_RX4_19 dX4_rateMaid_25) ?_
  refine snd_c (s_getf C (ci := 0) (j := 0) (T := TX0) rfl inX0 (by decide) fl_RX4_71 dX4_rateMaid_28) ?_
  refine snd_c (s_iload_n C rfl dX4_rateMaid_31) ?_
  refine snd_c (s_callV C (ci := 1) c_X1_keptBy rfl cw_RX4_166 ⟨rfl, rfl⟩ ⟨by decide +kernel, by decide +kernel, by decide +kernel⟩ ⟨by decide, by decide⟩ ⟨Nat.zero_le _, Nat.zero_le _⟩ dX4_rateMaid_32) ?_
  refine snd_c (s_callV C (ci := 1) c_X1_madeBy rfl cw_RX4_101 ⟨rfl, rfl⟩ ⟨by decide +kernel, by decide +kernel, by decide +kernel⟩ ⟨by decide, by decide⟩ ⟨Nat.zero_le _, Nat.zero_le _⟩ dX4_rateMaid_35) ?_
  refine snd_c (s_callS C c_J6_bitCount_0f7a4 cw_RX4_132 ⟨rfl, rfl⟩ ⟨by decide +kernel, by decide +kernel, by decide +kernel⟩ ⟨by decide, by decide⟩ ⟨Nat.zero_le _, Nat.zero_le _⟩ dX4_rateMaid_38) ?_
  refine snd_c (s_isub C dX4_rateMaid_41) ?_
  refine snd_c (s_iret C hr dX4_rateMaid_42) ?_
  exact trivial
theorem ctL_RX4_235 : Cond.constantLong RX4 235 (100000) ∈ tb := tb_of 605 (by decide +kernel) (by decide +kernel)
theorem dX4_rateThief_0 : decode cX4_rateThief 0 = .ok (.aload_n 0, 1) := by decide +kernel
theorem dX4_rateThief_1 : decode cX4_rateThief 1 = .ok (.dup, 1) := by decide +kernel
theorem dX4_rateThief_2 : decode cX4_rateThief 2 = .ok (.getfield 214, 3) := by decide +kernel
theorem dX4_rateThief_5 : decode cX4_rateThief 5 = .ok (.ldc2_w 235, 3) := by decide +kernel
theorem dX4_rateThief_8 : decode cX4_rateThief 8 = .ok (.ladd, 1) := by decide +kernel
theorem dX4_rateThief_9 : decode cX4_rateThief 9 = .ok (.putfield 214, 3) := by decide +kernel
theorem dX4_rateThief_12 : decode cX4_rateThief 12 = .ok (.aload_n 0, 1) := by decide +kernel
theorem dX4_rateThief_13 : decode cX4_rateThief 13 = .ok (.iload_n 1, 1) := by decide +kernel
theorem dX4_rateThief_14 : decode cX4_rateThief 14 = .ok (.invokevirtual 183, 3) := by decide +kernel
theorem dX4_rateThief_17 : decode cX4_rateThief 17 = .ok (.aload_n 0, 1) := by decide +kernel
theorem dX4_rateThief_18 : decode cX4_rateThief 18 = .ok (.getfield 19, 3) := by decide +kernel
theorem dX4_rateThief_21 : decode cX4_rateThief 21 = .ok (.getfield 71, 3) := by decide +kernel
theorem dX4_rateThief_24 : decode cX4_rateThief 24 = .ok (.bipush (-4), 2) := by decide +kernel
theorem dX4_rateThief_26 : decode cX4_rateThief 26 = .ok (.invokevirtual 166, 3) := by decide +kernel
theorem dX4_rateThief_29 : decode cX4_rateThief 29 = .ok (.invokestatic 132, 3) := by decide +kernel
theorem dX4_rateThief_32 : decode cX4_rateThief 32 = .ok (.iadd, 1) := by decide +kernel
theorem dX4_rateThief_33 : decode cX4_rateThief 33 = .ok (.ireturn, 1) := by decide +kernel
def T_X4_rateThief (post : PO) : List (Nat × OP) := [(0, o_aload 0 1), (1, o_dup 2), (2, o_getf 4 8 5), (5, o_lconst 100000 8), (8, o_lbin (fun x y => x + y) 9), (9, o_putL 4 8 12), (12, o_aload 0 13), (13, o_iload 1 14), (14, o_callV 4 S_X4_ratePerson 1 17), (17, o_aload 0 18), (18, o_getf 4 1 21), (21, o_getf 0 0 24), (24, o_const (-4) 26), (26, o_callV 1 S_X1_keptBy 1 29), (29, o_callS S_J6_bitCount_0f7a4 1 32), (32, o_bin (fun x y => x + y) 33), (33, o_iret post)]
theorem k_X4_rateThief_0 (post : PO) : lk (T_X4_rateThief post) 0 = o_aload 0 1 := rfl
theorem k_X4_rateThief_1 (post : PO) : lk (T_X4_rateThief post) 1 = o_dup 2 := rfl
theorem k_X4_rateThief_2 (post : PO) : lk (T_X4_rateThief post) 2 = o_getf 4 8 5 := rfl
theorem k_X4_rateThief_5 (post : PO) : lk (T_X4_rateThief post) 5 = o_lconst 100000 8 := rfl
theorem k_X4_rateThief_8 (post : PO) : lk (T_X4_rateThief post) 8 = o_lbin (fun x y => x + y) 9 := rfl
theorem k_X4_rateThief_9 (post : PO) : lk (T_X4_rateThief post) 9 = o_putL 4 8 12 := rfl
theorem k_X4_rateThief_12 (post : PO) : lk (T_X4_rateThief post) 12 = o_aload 0 13 := rfl
theorem k_X4_rateThief_13 (post : PO) : lk (T_X4_rateThief post) 13 = o_iload 1 14 := rfl
theorem k_X4_rateThief_14 (post : PO) : lk (T_X4_rateThief post) 14 = o_callV 4 S_X4_ratePerson 1 17 := rfl
theorem k_X4_rateThief_17 (post : PO) : lk (T_X4_rateThief post) 17 = o_aload 0 18 := rfl
theorem k_X4_rateThief_18 (post : PO) : lk (T_X4_rateThief post) 18 = o_getf 4 1 21 := rfl
theorem k_X4_rateThief_21 (post : PO) : lk (T_X4_rateThief post) 21 = o_getf 0 0 24 := rfl
theorem k_X4_rateThief_24 (post : PO) : lk (T_X4_rateThief post) 24 = o_const (-4) 26 := rfl
theorem k_X4_rateThief_26 (post : PO) : lk (T_X4_rateThief post) 26 = o_callV 1 S_X1_keptBy 1 29 := rfl
theorem k_X4_rateThief_29 (post : PO) : lk (T_X4_rateThief post) 29 = o_callS S_J6_bitCount_0f7a4 1 32 := rfl
theorem k_X4_rateThief_32 (post : PO) : lk (T_X4_rateThief post) 32 = o_bin (fun x y => x + y) 33 := rfl
theorem k_X4_rateThief_33 (post : PO) : lk (T_X4_rateThief post) 33 = o_iret post := rfl
set_option maxRecDepth 100000 in
theorem t_X4_rateThief {p : Program} {l : Launch} {e : Env} {s : State} {m : MethodId} {args : Array Value} {below : List Frame} {meth : Method} {c : Code} {D : va_G} {dA : Nat → ClassId} {ad : Nat → Nat} (post : PO) (C : CX p s m args meth c cX4_rateThief 2 yX4_rateThief.cls D dA ad (AA ad s.heap.size)) (hr : meth.sig.returnType = (some .int)) : SndL (WW p l e ({ frames := 2, cells := 0, slots := 0, locals := 44 } : Room) s m args below meth c 0 0 (MQ below (CQ D dA ad post (AA ad s.heap.size)) args s 0 0 (AA ad s.heap.size)) 2 D dA ad (AA ad s.heap.size)) (T_X4_rateThief post) := by
  refine snd_c (s_aload_n C rfl dX4_rateThief_0) ?_
  refine snd_c (s_dup C dX4_rateThief_1) ?_
  refine snd_c (s_getf C (ci := 4) (j := 8) (T := TX4) rfl inX4 (by decide) fl_RX4_214 dX4_rateThief_2) ?_
  refine snd_c (s_ldc2 C ctL_RX4_235 dX4_rateThief_5) ?_
  refine snd_c (s_ladd C dX4_rateThief_8) ?_
  refine snd_c (s_putL C (ci := 4) (j := 8) (T := TX4) tyX4 tyX4_ok nmX4 rfl inX4 (by decide) rfl rfl fl_RX4_214 dX4_rateThief_9) ?_
  refine snd_c (s_aload_n C rfl dX4_rateThief_12) ?_
  refine snd_c (s_iload_n C rfl dX4_rateThief_13) ?_
  refine snd_c (s_callV C (ci := 4) c_X4_ratePerson rfl cw_RX4_183 ⟨rfl, rfl⟩ ⟨by decide +kernel, by decide +kernel, by decide +kernel⟩ ⟨by decide, by decide⟩ ⟨Nat.zero_le _, Nat.zero_le _⟩ dX4_rateThief_14) ?_
  refine snd_c (s_aload_n C rfl dX4_rateThief_17) ?_
  refine snd_c (s_getf C (ci := 4) (j := 1) (T := TX4) rfl inX4 (by decide) fl_RX4_19 dX4_rateThief_18) ?_
  refine snd_c (s_getf C (ci := 0) (j := 0) (T := TX0) rfl inX0 (by decide) fl_RX4_71 dX4_rateThief_21) ?_
  refine snd_c (s_bipush C dX4_rateThief_24 rfl) ?_
  refine snd_c (s_callV C (ci := 1) c_X1_keptBy rfl cw_RX4_166 ⟨rfl, rfl⟩ ⟨by decide +kernel, by decide +kernel, by decide +kernel⟩ ⟨by decide, by decide⟩ ⟨Nat.zero_le _, Nat.zero_le _⟩ dX4_rateThief_26) ?_
  refine snd_c (s_callS C c_J6_bitCount_0f7a4 cw_RX4_132 ⟨rfl, rfl⟩ ⟨by decide +kernel, by decide +kernel, by decide +kernel⟩ ⟨by decide, by decide⟩ ⟨Nat.zero_le _, Nat.zero_le _⟩ dX4_rateThief_29) ?_
  refine snd_c (s_iadd C dX4_rateThief_32) ?_
  refine snd_c (s_iret C hr dX4_rateThief_33) ?_
  exact trivial
set_option maxRecDepth 100000 in
theorem v_X4_rateCook : ∀ as M post, S_X4_rateCook as M post → wsum as ≤ 2 ∧ RUN (T_X4_rateCook post) 0 (entL 2 as) [] M := by
  rintro as M post ⟨x, n, c, p, r, h0, lk, rfl, hX, h⟩
  have hX0 := hX
  obtain ⟨hn, hn8, hc, hc6, hp, hp4, hr, hhk, hl⟩ := hX
  have hk := kB_lt h0 hn8 x
  refine ⟨by show 2 ≤ 2; omega, run_wp 60 ?_⟩
  dsimp only [k_X4_rateCook_0, k_X4_rateCook_1, k_X4_rateCook_2, k_X4_rateCook_5, k_X4_rateCook_8, k_X4_rateCook_9, k_X4_rateCook_12, k_X4_rateCook_13, k_X4_rateCook_14, k_X4_rateCook_17, k_X4_rateCook_18, k_X4_rateCook_19, k_X4_rateCook_22, k_X4_rateCook_25, k_X4_rateCook_26, k_X4_rateCook_29, k_X4_rateCook_32, k_X4_rateCook_35, k_X4_rateCook_36, wp1, wp_s, cutIn, kont, Nat.reduceSub, Nat.reduceAdd, nth, o_const, o_lconst, o_ref, o_iload, o_lload, o_aload, o_istore, o_lstore, o_astore, o_iinc, o_bin, o_div, o_un, o_lbin, o_lsh, o_lcmp, o_i2l, o_l2i, o_if, o_icmp, o_goto, o_dup, o_dup2, o_pop, fav, o_getf, o_putI, o_putZ, o_putL, o_ald, o_ast, o_alen, popn, rst, o_callV, o_callT, o_callS, swx, o_sw, o_ret, o_iret, o_zret, o_cret, o_lret, o_aret, lg, lput, lput2, ls1, isL, entL, wsum, rdI1, rdI2, rdA1, rdA21, rdA22, rdL1, rdL22, rdL21, upN_at, rep, sh_0, F_0_0, F_0_1, F_0_2, F_0_3, F_0_4, F_0_5, F_0_6, F_0_7, F_0_8, sh_1, F_1_0, F_1_1, F_1_2, F_1_3, F_1_4, F_1_5, sh_3, F_3_0, F_3_1, F_3_2, F_3_3, F_3_4, F_3_5, sh_5, F_5_0, F_5_1, F_5_2, F_5_3, F_5_4, F_5_5, F_5_6, F_5_7, F_5_8, sh_12, F_12_0, F_12_1, F_12_2, F_12_3, F_12_4, F_12_5, sh_14, F_14_0, F_14_1, F_14_2, F_14_3, F_14_4, F_14_5, F_14_6, F_14_7, F_14_8, sh_21, F_21_0, F_21_1, F_21_2, F_21_3, F_21_4, F_21_5, F_21_6, F_21_7, F_21_8, sh_28, F_28_0, F_28_1, F_28_2, F_28_3, F_28_4, F_28_5, F_28_6, F_28_7, F_28_8, sh_35, F_35_0, sh_39, F_39_0, F_39_1, F_39_2, F_39_3, F_39_4, F_39_5, F_39_6, F_39_7, F_39_8, F_39_9, F_39_10, F_39_11, F_39_12, F_39_13, A_2, A_4, A_6, A_7, A_8, A_9, A_10, A_11, A_13, A_15, A_16, A_17, A_18, A_19, A_20, A_22, A_23, A_24, A_25, A_26, A_27, A_29, A_30, A_31, A_32, A_33, A_34, A_36, A_37, A_38, A_40, A_41, A_42, A_43, A_44, A_45, A_46, A_47]
  refine ⟨x, n, c, p, r, h0, lk, rfl, XW_L hX0 _, ?_⟩
  simp only [sA_sA, sA_cm, sI_sA, sI_sI, sI_cm, sL_sA, sL_sI, sL_sL, sL_cm, Nat.reduceLT]
  dsimp only [k_X4_rateCook_0, k_X4_rateCook_1, k_X4_rateCook_2, k_X4_rateCook_5, k_X4_rateCook_8, k_X4_rateCook_9, k_X4_rateCook_12, k_X4_rateCook_13, k_X4_rateCook_14, k_X4_rateCook_17, k_X4_rateCook_18, k_X4_rateCook_19, k_X4_rateCook_22, k_X4_rateCook_25, k_X4_rateCook_26, k_X4_rateCook_29, k_X4_rateCook_32, k_X4_rateCook_35, k_X4_rateCook_36, wp1, wp_s, cutIn, kont, Nat.reduceSub, Nat.reduceAdd, nth, o_const, o_lconst, o_ref, o_iload, o_lload, o_aload, o_istore, o_lstore, o_astore, o_iinc, o_bin, o_div, o_un, o_lbin, o_lsh, o_lcmp, o_i2l, o_l2i, o_if, o_icmp, o_goto, o_dup, o_dup2, o_pop, fav, o_getf, o_putI, o_putZ, o_putL, o_ald, o_ast, o_alen, popn, rst, o_callV, o_callT, o_callS, swx, o_sw, o_ret, o_iret, o_zret, o_cret, o_lret, o_aret, lg, lput, lput2, ls1, isL, entL, wsum, rdI1, rdI2, rdA1, rdA21, rdA22, rdL1, rdL22, rdL21, upN_at, rep, sh_0, F_0_0, F_0_1, F_0_2, F_0_3, F_0_4, F_0_5, F_0_6, F_0_7, F_0_8, sh_1, F_1_0, F_1_1, F_1_2, F_1_3, F_1_4, F_1_5, sh_3, F_3_0, F_3_1, F_3_2, F_3_3, F_3_4, F_3_5, sh_5, F_5_0, F_5_1, F_5_2, F_5_3, F_5_4, F_5_5, F_5_6, F_5_7, F_5_8, sh_12, F_12_0, F_12_1, F_12_2, F_12_3, F_12_4, F_12_5, sh_14, F_14_0, F_14_1, F_14_2, F_14_3, F_14_4, F_14_5, F_14_6, F_14_7, F_14_8, sh_21, F_21_0, F_21_1, F_21_2, F_21_3, F_21_4, F_21_5, F_21_6, F_21_7, F_21_8, sh_28, F_28_0, F_28_1, F_28_2, F_28_3, F_28_4, F_28_5, F_28_6, F_28_7, F_28_8, sh_35, F_35_0, sh_39, F_39_0, F_39_1, F_39_2, F_39_3, F_39_4, F_39_5, F_39_6, F_39_7, F_39_8, F_39_9, F_39_10, F_39_11, F_39_12, F_39_13, A_2, A_4, A_6, A_7, A_8, A_9, A_10, A_11, A_13, A_15, A_16, A_17, A_18, A_19, A_20, A_22, A_23, A_24, A_25, A_26, A_27, A_29, A_30, A_31, A_32, A_33, A_34, A_36, A_37, A_38, A_40, A_41, A_42, A_43, A_44, A_45, A_46, A_47]
  refine ⟨x, n, rfl, hn, hn8, ?_⟩
  rw [show mk (fun k => (sL 0 (M.2.1 0 + 10 + 1) M).2.2 3 k == x) n = kB h0 n x from kB_e hhk x]
  dsimp only [k_X4_rateCook_0, k_X4_rateCook_1, k_X4_rateCook_2, k_X4_rateCook_5, k_X4_rateCook_8, k_X4_rateCook_9, k_X4_rateCook_12, k_X4_rateCook_13, k_X4_rateCook_14, k_X4_rateCook_17, k_X4_rateCook_18, k_X4_rateCook_19, k_X4_rateCook_22, k_X4_rateCook_25, k_X4_rateCook_26, k_X4_rateCook_29, k_X4_rateCook_32, k_X4_rateCook_35, k_X4_rateCook_36, wp1, wp_s, cutIn, kont, Nat.reduceSub, Nat.reduceAdd, nth, o_const, o_lconst, o_ref, o_iload, o_lload, o_aload, o_istore, o_lstore, o_astore, o_iinc, o_bin, o_div, o_un, o_lbin, o_lsh, o_lcmp, o_i2l, o_l2i, o_if, o_icmp, o_goto, o_dup, o_dup2, o_pop, fav, o_getf, o_putI, o_putZ, o_putL, o_ald, o_ast, o_alen, popn, rst, o_callV, o_callT, o_callS, swx, o_sw, o_ret, o_iret, o_zret, o_cret, o_lret, o_aret, lg, lput, lput2, ls1, isL, entL, wsum, rdI1, rdI2, rdA1, rdA21, rdA22, rdL1, rdL22, rdL21, upN_at, rep, sh_0, F_0_0, F_0_1, F_0_2, F_0_3, F_0_4, F_0_5, F_0_6, F_0_7, F_0_8, sh_1, F_1_0, F_1_1, F_1_2, F_1_3, F_1_4, F_1_5, sh_3, F_3_0, F_3_1, F_3_2, F_3_3, F_3_4, F_3_5, sh_5, F_5_0, F_5_1, F_5_2, F_5_3, F_5_4, F_5_5, F_5_6, F_5_7, F_5_8, sh_12, F_12_0, F_12_1, F_12_2, F_12_3, F_12_4, F_12_5, sh_14, F_14_0, F_14_1, F_14_2, F_14_3, F_14_4, F_14_5, F_14_6, F_14_7, F_14_8, sh_21, F_21_0, F_21_1, F_21_2, F_21_3, F_21_4, F_21_5, F_21_6, F_21_7, F_21_8, sh_28, F_28_0, F_28_1, F_28_2, F_28_3, F_28_4, F_28_5, F_28_6, F_28_7, F_28_8, sh_35, F_35_0, sh_39, F_39_0, F_39_1, F_39_2, F_39_3, F_39_4, F_39_5, F_39_6, F_39_7, F_39_8, F_39_9, F_39_10, F_39_11, F_39_12, F_39_13, A_2, A_4, A_6, A_7, A_8, A_9, A_10, A_11, A_13, A_15, A_16, A_17, A_18, A_19, A_20, A_22, A_23, A_24, A_25, A_26, A_27, A_29, A_30, A_31, A_32, A_33, A_34, A_36, A_37, A_38, A_40, A_41, A_42, A_43, A_44, A_45, A_46, A_47]
  refine ⟨_, n, c, p, r, h0, lk, rfl, by omega, XW_L hX0 _, fun f => ?_⟩
  have hol := opn_lt r n lk hc6 (kB h0 n x)
  dsimp only [k_X4_rateCook_0, k_X4_rateCook_1, k_X4_rateCook_2, k_X4_rateCook_5, k_X4_rateCook_8, k_X4_rateCook_9, k_X4_rateCook_12, k_X4_rateCook_13, k_X4_rateCook_14, k_X4_rateCook_17, k_X4_rateCook_18, k_X4_rateCook_19, k_X4_rateCook_22, k_X4_rateCook_25, k_X4_rateCook_26, k_X4_rateCook_29, k_X4_rateCook_32, k_X4_rateCook_35, k_X4_rateCook_36, wp1, wp_s, cutIn, kont, Nat.reduceSub, Nat.reduceAdd, nth, o_const, o_lconst, o_ref, o_iload, o_lload, o_aload, o_istore, o_lstore, o_astore, o_iinc, o_bin, o_div, o_un, o_lbin, o_lsh, o_lcmp, o_i2l, o_l2i, o_if, o_icmp, o_goto, o_dup, o_dup2, o_pop, fav, o_getf, o_putI, o_putZ, o_putL, o_ald, o_ast, o_alen, popn, rst, o_callV, o_callT, o_callS, swx, o_sw, o_ret, o_iret, o_zret, o_cret, o_lret, o_aret, lg, lput, lput2, ls1, isL, entL, wsum, rdI1, rdI2, rdA1, rdA21, rdA22, rdL1, rdL22, rdL21, upN_at, rep, sh_0, F_0_0, F_0_1, F_0_2, F_0_3, F_0_4, F_0_5, F_0_6, F_0_7, F_0_8, sh_1, F_1_0, F_1_1, F_1_2, F_1_3, F_1_4, F_1_5, sh_3, F_3_0, F_3_1, F_3_2, F_3_3, F_3_4, F_3_5, sh_5, F_5_0, F_5_1, F_5_2, F_5_3, F_5_4, F_5_5, F_5_6, F_5_7, F_5_8, sh_12, F_12_0, F_12_1, F_12_2, F_12_3, F_12_4, F_12_5, sh_14, F_14_0, F_14_1, F_14_2, F_14_3, F_14_4, F_14_5, F_14_6, F_14_7, F_14_8, sh_21, F_21_0, F_21_1, F_21_2, F_21_3, F_21_4, F_21_5, F_21_6, F_21_7, F_21_8, sh_28, F_28_0, F_28_1, F_28_2, F_28_3, F_28_4, F_28_5, F_28_6, F_28_7, F_28_8, sh_35, F_35_0, sh_39, F_39_0, F_39_1, F_39_2, F_39_3, F_39_4, F_39_5, F_39_6, F_39_7, F_39_8, F_39_9, F_39_10, F_39_11, F_39_12, F_39_13, A_2, A_4, A_6, A_7, A_8, A_9, A_10, A_11, A_13, A_15, A_16, A_17, A_18, A_19, A_20, A_22, A_23, A_24, A_25, A_26, A_27, A_29, A_30, A_31, A_32, A_33, A_34, A_36, A_37, A_38, A_40, A_41, A_42, A_43, A_44, A_45, A_46, A_47]
  refine ⟨_, rfl, by omega, ?_⟩
  dsimp only [k_X4_rateCook_0, k_X4_rateCook_1, k_X4_rateCook_2, k_X4_rateCook_5, k_X4_rateCook_8, k_X4_rateCook_9, k_X4_rateCook_12, k_X4_rateCook_13, k_X4_rateCook_14, k_X4_rateCook_17, k_X4_rateCook_18, k_X4_rateCook_19, k_X4_rateCook_22, k_X4_rateCook_25, k_X4_rateCook_26, k_X4_rateCook_29, k_X4_rateCook_32, k_X4_rateCook_35, k_X4_rateCook_36, wp1, wp_s, cutIn, kont, Nat.reduceSub, Nat.reduceAdd, nth, o_const, o_lconst, o_ref, o_iload, o_lload, o_aload, o_istore, o_lstore, o_astore, o_iinc, o_bin, o_div, o_un, o_lbin, o_lsh, o_lcmp, o_i2l, o_l2i, o_if, o_icmp, o_goto, o_dup, o_dup2, o_pop, fav, o_getf, o_putI, o_putZ, o_putL, o_ald, o_ast, o_alen, popn, rst, o_callV, o_callT, o_callS, swx, o_sw, o_ret, o_iret, o_zret, o_cret, o_lret, o_aret, lg, lput, lput2, ls1, isL, entL, wsum, rdI1, rdI2, rdA1, rdA21, rdA22, rdL1, rdL22, rdL21, upN_at, rep, sh_0, F_0_0, F_0_1, F_0_2, F_0_3, F_0_4, F_0_5, F_0_6, F_0_7, F_0_8, sh_1, F_1_0, F_1_1, F_1_2, F_1_3, F_1_4, F_1_5, sh_3, F_3_0, F_3_1, F_3_2, F_3_3, F_3_4, F_3_5, sh_5, F_5_0, F_5_1, F_5_2, F_5_3, F_5_4, F_5_5, F_5_6, F_5_7, F_5_8, sh_12, F_12_0, F_12_1, F_12_2, F_12_3, F_12_4, F_12_5, sh_14, F_14_0, F_14_1, F_14_2, F_14_3, F_14_4, F_14_5, F_14_6, F_14_7, F_14_8, sh_21, F_21_0, F_21_1, F_21_2, F_21_3, F_21_4, F_21_5, F_21_6, F_21_7, F_21_8, sh_28, F_28_0, F_28_1, F_28_2, F_28_3, F_28_4, F_28_5, F_28_6, F_28_7, F_28_8, sh_35, F_35_0, sh_39, F_39_0, F_39_1, F_39_2, F_39_3, F_39_4, F_39_5, F_39_6, F_39_7, F_39_8, F_39_9, F_39_10, F_39_11, F_39_12, F_39_13, A_2, A_4, A_6, A_7, A_8, A_9, A_10, A_11, A_13, A_15, A_16, A_17, A_18, A_19, A_20, A_22, A_23, A_24, A_25, A_26, A_27, A_29, A_30, A_31, A_32, A_33, A_34, A_36, A_37, A_38, A_40, A_41, A_42, A_43, A_44, A_45, A_46, A_47]
  exact h f
set_option maxRecDepth 100000 in
theorem v_X4_rateMaid : ∀ as M post, S_X4_rateMaid as M post → wsum as ≤ 2 ∧ RUN (T_X4_rateMaid post) 0 (entL 2 as) [] M := by
  rintro as M post ⟨x, n, c, p, r, h0, lk, rfl, hX, h⟩
  have hX0 := hX
  obtain ⟨hn, hn8, hc, hc6, hp, hp4, hr, hhk, hl⟩ := hX
  have hk := kB_lt h0 hn8 x
  refine ⟨by show 2 ≤ 2; omega, run_wp 60 ?_⟩
  dsimp only [k_X4_rateMaid_0, k_X4_rateMaid_1, k_X4_rateMaid_2, k_X4_rateMaid_5, k_X4_rateMaid_8, k_X4_rateMaid_9, k_X4_rateMaid_12, k_X4_rateMaid_13, k_X4_rateMaid_14, k_X4_rateMaid_17, k_X4_rateMaid_18, k_X4_rateMaid_21, k_X4_rateMaid_24, k_X4_rateMaid_25, k_X4_rateMaid_28, k_X4_rateMaid_31, k_X4_rateMaid_32, k_X4_rateMaid_35, k_X4_rateMaid_38, k_X4_rateMaid_41, k_X4_rateMaid_42, wp1, wp_s, cutIn, kont, Nat.reduceSub, Nat.reduceAdd, nth, o_const, o_lconst, o_ref, o_iload, o_lload, o_aload, o_istore, o_lstore, o_astore, o_iinc, o_bin, o_div, o_un, o_lbin, o_lsh, o_lcmp, o_i2l, o_l2i, o_if, o_icmp, o_goto, o_dup, o_dup2, o_pop, fav, o_getf, o_putI, o_putZ, o_putL, o_ald, o_ast, o_alen, popn, rst, o_callV, o_callT, o_callS, swx, o_sw, o_ret, o_iret, o_zret, o_cret, o_lret, o_aret, lg, lput, lput2, ls1, isL, entL, wsum, rdI1, rdI2, rdA1, rdA21, rdA22, rdL1, rdL22, rdL21, upN_at, rep, sh_0, F_0_0, F_0_1, F_0_2, F_0_3, F_0_4, F_0_5, F_0_6, F_0_7, F_0_8, sh_1, F_1_0, F_1_1, F_1_2, F_1_3, F_1_4, F_1_5, sh_3, F_3_0, F_3_1, F_3_2, F_3_3, F_3_4, F_3_5, sh_5, F_5_0, F_5_1, F_5_2, F_5_3, F_5_4, F_5_5, F_5_6, F_5_7, F_5_8, sh_12, F_12_0, F_12_1, F_12_2, F_12_3, F_12_4, F_12_5, sh_14, F_14_0, F_14_1, F_14_2, F_14_3, F_14_4, F_14_5, F_14_6, F_14_7, F_14_8, sh_21, F_21_0, F_21_1, F_21_2, F_21_3, F_21_4, F_21_5, F_21_6, F_21_7, F_21_8, sh_28, F_28_0, F_28_1, F_28_2, F_28_3, F_28_4, F_28_5, F_28_6, F_28_7, F_28_8, sh_35, F_35_0, sh_39, F_39_0, F_39_1, F_39_2, F_39_3, F_39_4, F_39_5, F_39_6, F_39_7, F_39_8, F_39_9, F_39_10, F_39_11, F_39_12, F_39_13, A_2, A_4, A_6, A_7, A_8, A_9, A_10, A_11, A_13, A_15, A_16, A_17, A_18, A_19, A_20, A_22, A_23, A_24, A_25, A_26, A_27, A_29, A_30, A_31, A_32, A_33, A_34, A_36, A_37, A_38, A_40, A_41, A_42, A_43, A_44, A_45, A_46, A_47]
  refine ⟨x, n, c, p, r, h0, lk, rfl, XW_L hX0 _, ?_⟩
  simp only [sA_sA, sA_cm, sI_sA, sI_sI, sI_cm, sL_sA, sL_sI, sL_sL, sL_cm, Nat.reduceLT]
  dsimp only [k_X4_rateMaid_0, k_X4_rateMaid_1, k_X4_rateMaid_2, k_X4_rateMaid_5, k_X4_rateMaid_8, k_X4_rateMaid_9, k_X4_rateMaid_12, k_X4_rateMaid_13, k_X4_rateMaid_14, k_X4_rateMaid_17, k_X4_rateMaid_18, k_X4_rateMaid_21, k_X4_rateMaid_24, k_X4_rateMaid_25, k_X4_rateMaid_28, k_X4_rateMaid_31, k_X4_rateMaid_32, k_X4_rateMaid_35, k_X4_rateMaid_38, k_X4_rateMaid_41, k_X4_rateMaid_42, wp1, wp_s, cutIn, kont, Nat.reduceSub, Nat.reduceAdd, nth, o_const, o_lconst, o_ref, o_iload, o_lload, o_aload, o_istore, o_lstore, o_astore, o_iinc, o_bin, o_div, o_un, o_lbin, o_lsh, o_lcmp, o_i2l, o_l2i, o_if, o_icmp, o_goto, o_dup, o_dup2, o_pop, fav, o_getf, o_putI, o_putZ, o_putL, o_ald, o_ast, o_alen, popn, rst, o_callV, o_callT, o_callS, swx, o_sw, o_ret, o_iret, o_zret, o_cret, o_lret, o_aret, lg, lput, lput2, ls1, isL, entL, wsum, rdI1, rdI2, rdA1, rdA21, rdA22, rdL1, rdL22, rdL21, upN_at, rep, sh_0, F_0_0, F_0_1, F_0_2, F_0_3, F_0_4, F_0_5, F_0_6, F_0_7, F_0_8, sh_1, F_1_0, F_1_1, F_1_2, F_1_3, F_1_4, F_1_5, sh_3, F_3_0, F_3_1, F_3_2, F_3_3, F_3_4, F_3_5, sh_5, F_5_0, F_5_1, F_5_2, F_5_3, F_5_4, F_5_5, F_5_6, F_5_7, F_5_8, sh_12, F_12_0, F_12_1, F_12_2, F_12_3, F_12_4, F_12_5, sh_14, F_14_0, F_14_1, F_14_2, F_14_3, F_14_4, F_14_5, F_14_6, F_14_7, F_14_8, sh_21, F_21_0, F_21_1, F_21_2, F_21_3, F_21_4, F_21_5, F_21_6, F_21_7, F_21_8, sh_28, F_28_0, F_28_1, F_28_2, F_28_3, F_28_4, F_28_5, F_28_6, F_28_7, F_28_8, sh_35, F_35_0, sh_39, F_39_0, F_39_1, F_39_2, F_39_3, F_39_4, F_39_5, F_39_6, F_39_7, F_39_8, F_39_9, F_39_10, F_39_11, F_39_12, F_39_13, A_2, A_4, A_6, A_7, A_8, A_9, A_10, A_11, A_13, A_15, A_16, A_17, A_18, A_19, A_20, A_22, A_23, A_24, A_25, A_26, A_27, A_29, A_30, A_31, A_32, A_33, A_34, A_36, A_37, A_38, A_40, A_41, A_42, A_43, A_44, A_45, A_46, A_47]
  refine ⟨x, n, rfl, hn, hn8, ?_⟩
  rw [show mk (fun k => (sL 0 (M.2.1 0 + 100 + 1) M).2.2 3 k == x) n = kB h0 n x from kB_e hhk x]
  dsimp only [k_X4_rateMaid_0, k_X4_rateMaid_1, k_X4_rateMaid_2, k_X4_rateMaid_5, k_X4_rateMaid_8, k_X4_rateMaid_9, k_X4_rateMaid_12, k_X4_rateMaid_13, k_X4_rateMaid_14, k_X4_rateMaid_17, k_X4_rateMaid_18, k_X4_rateMaid_21, k_X4_rateMaid_24, k_X4_rateMaid_25, k_X4_rateMaid_28, k_X4_rateMaid_31, k_X4_rateMaid_32, k_X4_rateMaid_35, k_X4_rateMaid_38, k_X4_rateMaid_41, k_X4_rateMaid_42, wp1, wp_s, cutIn, kont, Nat.reduceSub, Nat.reduceAdd, nth, o_const, o_lconst, o_ref, o_iload, o_lload, o_aload, o_istore, o_lstore, o_astore, o_iinc, o_bin, o_div, o_un, o_lbin, o_lsh, o_lcmp, o_i2l, o_l2i, o_if, o_icmp, o_goto, o_dup, o_dup2, o_pop, fav, o_getf, o_putI, o_putZ, o_putL, o_ald, o_ast, o_alen, popn, rst, o_callV, o_callT, o_callS, swx, o_sw, o_ret, o_iret, o_zret, o_cret, o_lret, o_aret, lg, lput, lput2, ls1, isL, entL, wsum, rdI1, rdI2, rdA1, rdA21, rdA22, rdL1, rdL22, rdL21, upN_at, rep, sh_0, F_0_0, F_0_1, F_0_2, F_0_3, F_0_4, F_0_5, F_0_6, F_0_7, F_0_8, sh_1, F_1_0, F_1_1, F_1_2, F_1_3, F_1_4, F_1_5, sh_3, F_3_0, F_3_1, F_3_2, F_3_3, F_3_4, F_3_5, sh_5, F_5_0, F_5_1, F_5_2, F_5_3, F_5_4, F_5_5, F_5_6, F_5_7, F_5_8, sh_12, F_12_0, F_12_1, F_12_2, F_12_3, F_12_4, F_12_5, sh_14, F_14_0, F_14_1, F_14_2, F_14_3, F_14_4, F_14_5, F_14_6, F_14_7, F_14_8, sh_21, F_21_0, F_21_1, F_21_2, F_21_3, F_21_4, F_21_5, F_21_6, F_21_7, F_21_8, sh_28, F_28_0, F_28_1, F_28_2, F_28_3, F_28_4, F_28_5, F_28_6, F_28_7, F_28_8, sh_35, F_35_0, sh_39, F_39_0, F_39_1, F_39_2, F_39_3, F_39_4, F_39_5, F_39_6, F_39_7, F_39_8, F_39_9, F_39_10, F_39_11, F_39_12, F_39_13, A_2, A_4, A_6, A_7, A_8, A_9, A_10, A_11, A_13, A_15, A_16, A_17, A_18, A_19, A_20, A_22, A_23, A_24, A_25, A_26, A_27, A_29, A_30, A_31, A_32, A_33, A_34, A_36, A_37, A_38, A_40, A_41, A_42, A_43, A_44, A_45, A_46, A_47]
  refine ⟨_, n, rfl, by omega, hn, hn8, ?_⟩
  rw [xr_I n (show ∀ k, k < n → (sL 0 (M.2.1 0 + 100 + 1) M).2.2 2 k = nI (r k) from fun k hk => (hr k hk).1)]
  have hx := xr_lt (f := r) (T := kB h0 n x) n (fun k hk => (hr k hk).2)
  dsimp only [k_X4_rateMaid_0, k_X4_rateMaid_1, k_X4_rateMaid_2, k_X4_rateMaid_5, k_X4_rateMaid_8, k_X4_rateMaid_9, k_X4_rateMaid_12, k_X4_rateMaid_13, k_X4_rateMaid_14, k_X4_rateMaid_17, k_X4_rateMaid_18, k_X4_rateMaid_21, k_X4_rateMaid_24, k_X4_rateMaid_25, k_X4_rateMaid_28, k_X4_rateMaid_31, k_X4_rateMaid_32, k_X4_rateMaid_35, k_X4_rateMaid_38, k_X4_rateMaid_41, k_X4_rateMaid_42, wp1, wp_s, cutIn, kont, Nat.reduceSub, Nat.reduceAdd, nth, o_const, o_lconst, o_ref, o_iload, o_lload, o_aload, o_istore, o_lstore, o_astore, o_iinc, o_bin, o_div, o_un, o_lbin, o_lsh, o_lcmp, o_i2l, o_l2i, o_if, o_icmp, o_goto, o_dup, o_dup2, o_pop, fav, o_getf, o_putI, o_putZ, o_putL, o_ald, o_ast, o_alen, popn, rst, o_callV, o_callT, o_callS, swx, o_sw, o_ret, o_iret, o_zret, o_cret, o_lret, o_aret, lg, lput, lput2, ls1, isL, entL, wsum, rdI1, rdI2, rdA1, rdA21, rdA22, rdL1, rdL22, rdL21, upN_at, rep, sh_0, F_0_0, F_0_1, F_0_2, F_0_3, F_0_4, F_0_5, F_0_6, F_0_7, F_0_8, sh_1, F_1_0, F_1_1, F_1_2, F_1_3, F_1_4, F_1_5, sh_3, F_3_0, F_3_1, F_3_2, F_3_3, F_3_4, F_3_5, sh_5, F_5_0, F_5_1, F_5_2, F_5_3, F_5_4, F_5_5, F_5_6, F_5_7, F_5_8, sh_12, F_12_0, F_12_1, F_12_2, F_12_3, F_12_4, F_12_5, sh_14, F_14_0, F_14_1, F_14_2, F_14_3, F_14_4, F_14_5, F_14_6, F_14_7, F_14_8, sh_21, F_21_0, F_21_1, F_21_2, F_21_3, F_21_4, F_21_5, F_21_6, F_21_7, F_21_8, sh_28, F_28_0, F_28_1, F_28_2, F_28_3, F_28_4, F_28_5, F_28_6, F_28_7, F_28_8, sh_35, F_35_0, sh_39, F_39_0, F_39_1, F_39_2, F_39_3, F_39_4, F_39_5, F_39_6, F_39_7, F_39_8, F_39_9, F_39_10, F_39_11, F_39_12, F_39_13, A_2, A_4, A_6, A_7, A_8, A_9, A_10, A_11, A_13, A_15, A_16, A_17, A_18, A_19, A_20, A_22, A_23, A_24, A_25, A_26, A_27, A_29, A_30, A_31, A_32, A_33, A_34, A_36, A_37, A_38, A_40, A_41, A_42, A_43, A_44, A_45, A_46, A_47]
  refine ⟨_, rfl, hx, ?_⟩
  dsimp only [k_X4_rateMaid_0, k_X4_rateMaid_1, k_X4_rateMaid_2, k_X4_rateMaid_5, k_X4_rateMaid_8, k_X4_rateMaid_9, k_X4_rateMaid_12, k_X4_rateMaid_13, k_X4_rateMaid_14, k_X4_rateMaid_17, k_X4_rateMaid_18, k_X4_rateMaid_21, k_X4_rateMaid_24, k_X4_rateMaid_25, k_X4_rateMaid_28, k_X4_rateMaid_31, k_X4_rateMaid_32, k_X4_rateMaid_35, k_X4_rateMaid_38, k_X4_rateMaid_41, k_X4_rateMaid_42, wp1, wp_s, cutIn, kont, Nat.reduceSub, Nat.reduceAdd, nth, o_const, o_lconst, o_ref, o_iload, o_lload, o_aload, o_istore, o_lstore, o_astore, o_iinc, o_bin, o_div, o_un, o_lbin, o_lsh, o_lcmp, o_i2l, o_l2i, o_if, o_icmp, o_goto, o_dup, o_dup2, o_pop, fav, o_getf, o_putI, o_putZ, o_putL, o_ald, o_ast, o_alen, popn, rst, o_callV, o_callT, o_callS, swx, o_sw, o_ret, o_iret, o_zret, o_cret, o_lret, o_aret, lg, lput, lput2, ls1, isL, entL, wsum, rdI1, rdI2, rdA1, rdA21, rdA22, rdL1, rdL22, rdL21, upN_at, rep, sh_0, F_0_0, F_0_1, F_0_2, F_0_3, F_0_4, F_0_5, F_0_6, F_0_7, F_0_8, sh_1, F_1_0, F_1_1, F_1_2, F_1_3, F_1_4, F_1_5, sh_3, F_3_0, F_3_1, F_3_2, F_3_3, F_3_4, F_3_5, sh_5, F_5_0, F_5_1, F_5_2, F_5_3, F_5_4, F_5_5, F_5_6, F_5_7, F_5_8, sh_12, F_12_0, F_12_1, F_12_2, F_12_3, F_12_4, F_12_5, sh_14, F_14_0, F_14_1, F_14_2, F_14_3, F_14_4, F_14_5, F_14_6, F_14_7, F_14_8, sh_21, F_21_0, F_21_1, F_21_2, F_21_3, F_21_4, F_21_5, F_21_6, F_21_7, F_21_8, sh_28, F_28_0, F_28_1, F_28_2, F_28_3, F_28_4, F_28_5, F_28_6, F_28_7, F_28_8, sh_35, F_35_0, sh_39, F_39_0, F_39_1, F_39_2, F_39_3, F_39_4, F_39_5, F_39_6, F_39_7, F_39_8, F_39_9, F_39_10, F_39_11, F_39_12, F_39_13, A_2, A_4, A_6, A_7, A_8, A_9, A_10, A_11, A_13, A_15, A_16, A_17, A_18, A_19, A_20, A_22, A_23, A_24, A_25, A_26, A_27, A_29, A_30, A_31, A_32, A_33, A_34, A_36, A_37, A_38, A_40, A_41, A_42, A_43, A_44, A_45, A_46, A_47]
  exact h
set_option maxRecDepth 100000 in
theorem v_X4_rateThief : ∀ as M post, S_X4_rateThief as M post → wsum as ≤ 2 ∧ RUN (T_X4_rateThief post) 0 (entL 2 as) [] M := by
  rintro as M post ⟨x, n, c, p, r, h0, lk, rfl, hX, h⟩
  have hX0 := hX
  obtain ⟨hn, hn8, hc, hc6, hp, hp4, hr, hhk, hl⟩ := hX
  have hk := kB_lt h0 hn8 x
  refine ⟨by show 2 ≤ 2; omega, run_wp 60 ?_⟩
  have hk4 := kB_lt h0 hn8 (-4)
  dsimp only [k_X4_rateThief_0, k_X4_rateThief_1, k_X4_rateThief_2, k_X4_rateThief_5, k_X4_rateThief_8, k_X4_rateThief_9, k_X4_rateThief_12, k_X4_rateThief_13, k_X4_rateThief_14, k_X4_rateThief_17, k_X4_rateThief_18, k_X4_rateThief_21, k_X4_rateThief_24, k_X4_rateThief_26, k_X4_rateThief_29, k_X4_rateThief_32, k_X4_rateThief_33, wp1, wp_s, cutIn, kont, Nat.reduceSub, Nat.reduceAdd, nth, o_const, o_lconst, o_ref, o_iload, o_lload, o_aload, o_istore, o_lstore, o_astore, o_iinc, o_bin, o_div, o_un, o_lbin, o_lsh, o_lcmp, o_i2l, o_l2i, o_if, o_icmp, o_goto, o_dup, o_dup2, o_pop, fav, o_getf, o_putI, o_putZ, o_putL, o_ald, o_ast, o_alen, popn, rst, o_callV, o_callT, o_callS, swx, o_sw, o_ret, o_iret, o_zret, o_cret, o_lret, o_aret, lg, lput, lput2, ls1, isL, entL, wsum, rdI1, rdI2, rdA1, rdA21, rdA22, rdL1, rdL22, rdL21, upN_at, rep, sh_0, F_0_0, F_0_1, F_0_2, F_0_3, F_0_4, F_0_5, F_0_6, F_0_7, F_0_8, sh_1, F_1_0, F_1_1, F_1_2, F_1_3, F_1_4, F_1_5, sh_3, F_3_0, F_3_1, F_3_2, F_3_3, F_3_4, F_3_5, sh_5, F_5_0, F_5_1, F_5_2, F_5_3, F_5_4, F_5_5, F_5_6, F_5_7, F_5_8, sh_12, F_12_0, F_12_1, F_12_2, F_12_3, F_12_4, F_12_5, sh_14, F_14_0, F_14_1, F_14_2, F_14_3, F_14_4, F_14_5, F_14_6, F_14_7, F_14_8, sh_21, F_21_0, F_21_1, F_21_2, F_21_3, F_21_4, F_21_5, F_21_6, F_21_7, F_21_8, sh_28, F_28_0, F_28_1, F_28_2, F_28_3, F_28_4, F_28_5, F_28_6, F_28_7, F_28_8, sh_35, F_35_0, sh_39, F_39_0, F_39_1, F_39_2, F_39_3, F_39_4, F_39_5, F_39_6, F_39_7, F_39_8, F_39_9, F_39_10, F_39_11, F_39_12, F_39_13, A_2, A_4, A_6, A_7, A_8, A_9, A_10, A_11, A_13, A_15, A_16, A_17, A_18, A_19, A_20, A_22, A_23, A_24, A_25, A_26, A_27, A_29, A_30, A_31, A_32, A_33, A_34, A_36, A_37, A_38, A_40, A_41, A_42, A_43, A_44, A_45, A_46, A_47]
  refine ⟨x, n, c, p, r, h0, lk, rfl, XW_L hX0 _, ?_⟩
  simp only [sA_sA, sA_cm, sI_sA, sI_sI, sI_cm, sL_sA, sL_sI, sL_sL, sL_cm, Nat.reduceLT]
  dsimp only [k_X4_rateThief_0, k_X4_rateThief_1, k_X4_rateThief_2, k_X4_rateThief_5, k_X4_rateThief_8, k_X4_rateThief_9, k_X4_rateThief_12, k_X4_rateThief_13, k_X4_rateThief_14, k_X4_rateThief_17, k_X4_rateThief_18, k_X4_rateThief_21, k_X4_rateThief_24, k_X4_rateThief_26, k_X4_rateThief_29, k_X4_rateThief_32, k_X4_rateThief_33, wp1, wp_s, cutIn, kont, Nat.reduceSub, Nat.reduceAdd, nth, o_const, o_lconst, o_ref, o_iload, o_lload, o_aload, o_istore, o_lstore, o_astore, o_iinc, o_bin, o_div, o_un, o_lbin, o_lsh, o_lcmp, o_i2l, o_l2i, o_if, o_icmp, o_goto, o_dup, o_dup2, o_pop, fav, o_getf, o_putI, o_putZ, o_putL, o_ald, o_ast, o_alen, popn, rst, o_callV, o_callT, o_callS, swx, o_sw, o_ret, o_iret, o_zret, o_cret, o_lret, o_aret, lg, lput, lput2, ls1, isL, entL, wsum, rdI1, rdI2, rdA1, rdA21, rdA22, rdL1, rdL22, rdL21, upN_at, rep, sh_0, F_0_0, F_0_1, F_0_2, F_0_3, F_0_4, F_0_5, F_0_6, F_0_7, F_0_8, sh_1, F_1_0, F_1_1, F_1_2, F_1_3, F_1_4, F_1_5, sh_3, F_3_0, F_3_1, F_3_2, F_3_3, F_3_4, F_3_5, sh_5, F_5_0, F_5_1, F_5_2, F_5_3, F_5_4, F_5_5, F_5_6, F_5_7, F_5_8, sh_12, F_12_0, F_12_1, F_12_2, F_12_3, F_12_4, F_12_5, sh_14, F_14_0, F_14_1, F_14_2, F_14_3, F_14_4, F_14_5, F_14_6, F_14_7, F_14_8, sh_21, F_21_0, F_21_1, F_21_2, F_21_3, F_21_4, F_21_5, F_21_6, F_21_7, F_21_8, sh_28, F_28_0, F_28_1, F_28_2, F_28_3, F_28_4, F_28_5, F_28_6, F_28_7, F_28_8, sh_35, F_35_0, sh_39, F_39_0, F_39_1, F_39_2, F_39_3, F_39_4, F_39_5, F_39_6, F_39_7, F_39_8, F_39_9, F_39_10, F_39_11, F_39_12, F_39_13, A_2, A_4, A_6, A_7, A_8, A_9, A_10, A_11, A_13, A_15, A_16, A_17, A_18, A_19, A_20, A_22, A_23, A_24, A_25, A_26, A_27, A_29, A_30, A_31, A_32, A_33, A_34, A_36, A_37, A_38, A_40, A_41, A_42, A_43, A_44, A_45, A_46, A_47]
  refine ⟨-4, n, rfl, hn, hn8, ?_⟩
  rw [show mk (fun k => (sL 0 (M.2.1 0 + 100000 + 1) M).2.2 3 k == -4) n = kB h0 n (-4) from kB_e hhk (-4)]
  dsimp only [k_X4_rateThief_0, k_X4_rateThief_1, k_X4_rateThief_2, k_X4_rateThief_5, k_X4_rateThief_8, k_X4_rateThief_9, k_X4_rateThief_12, k_X4_rateThief_13, k_X4_rateThief_14, k_X4_rateThief_17, k_X4_rateThief_18, k_X4_rateThief_21, k_X4_rateThief_24, k_X4_rateThief_26, k_X4_rateThief_29, k_X4_rateThief_32, k_X4_rateThief_33, wp1, wp_s, cutIn, kont, Nat.reduceSub, Nat.reduceAdd, nth, o_const, o_lconst, o_ref, o_iload, o_lload, o_aload, o_istore, o_lstore, o_astore, o_iinc, o_bin, o_div, o_un, o_lbin, o_lsh, o_lcmp, o_i2l, o_l2i, o_if, o_icmp, o_goto, o_dup, o_dup2, o_pop, fav, o_getf, o_putI, o_putZ, o_putL, o_ald, o_ast, o_alen, popn, rst, o_callV, o_callT, o_callS, swx, o_sw, o_ret, o_iret, o_zret, o_cret, o_lret, o_aret, lg, lput, lput2, ls1, isL, entL, wsum, rdI1, rdI2, rdA1, rdA21, rdA22, rdL1, rdL22, rdL21, upN_at, rep, sh_0, F_0_0, F_0_1, F_0_2, F_0_3, F_0_4, F_0_5, F_0_6, F_0_7, F_0_8, sh_1, F_1_0, F_1_1, F_1_2, F_1_3, F_1_4, F_1_5, sh_3, F_3_0, F_3_1, F_3_2, F_3_3, F_3_4, F_3_5, sh_5, F_5_0, F_5_1, F_5_2, F_5_3, F_5_4, F_5_5, F_5_6, F_5_7, F_5_8, sh_12, F_12_0, F_12_1, F_12_2, F_12_3, F_12_4, F_12_5, sh_14, F_14_0, F_14_1, F_14_2, F_14_3, F_14_4, F_14_5, F_14_6, F_14_7, F_14_8, sh_21, F_21_0, F_21_1, F_21_2, F_21_3, F_21_4, F_21_5, F_21_6, F_21_7, F_21_8, sh_28, F_28_0, F_28_1, F_28_2, F_28_3, F_28_4, F_28_5, F_28_6, F_28_7, F_28_8, sh_35, F_35_0, sh_39, F_39_0, F_39_1, F_39_2, F_39_3, F_39_4, F_39_5, F_39_6, F_39_7, F_39_8, F_39_9, F_39_10, F_39_11, F_39_12, F_39_13, A_2, A_4, A_6, A_7, A_8, A_9, A_10, A_11, A_13, A_15, A_16, A_17, A_18, A_19, A_20, A_22, A_23, A_24, A_25, A_26, A_27, A_29, A_30, A_31, A_32, A_33, A_34, A_36, A_37, A_38, A_40, A_41, A_42, A_43, A_44, A_45, A_46, A_47]
  refine ⟨_, rfl, by omega, ?_⟩
  dsimp only [k_X4_rateThief_0, k_X4_rateThief_1, k_X4_rateThief_2, k_X4_rateThief_5, k_X4_rateThief_8, k_X4_rateThief_9, k_X4_rateThief_12, k_X4_rateThief_13, k_X4_rateThief_14, k_X4_rateThief_17, k_X4_rateThief_18, k_X4_rateThief_21, k_X4_rateThief_24, k_X4_rateThief_26, k_X4_rateThief_29, k_X4_rateThief_32, k_X4_rateThief_33, wp1, wp_s, cutIn, kont, Nat.reduceSub, Nat.reduceAdd, nth, o_const, o_lconst, o_ref, o_iload, o_lload, o_aload, o_istore, o_lstore, o_astore, o_iinc, o_bin, o_div, o_un, o_lbin, o_lsh, o_lcmp, o_i2l, o_l2i, o_if, o_icmp, o_goto, o_dup, o_dup2, o_pop, fav, o_getf, o_putI, o_putZ, o_putL, o_ald, o_ast, o_alen, popn, rst, o_callV, o_callT, o_callS, swx, o_sw, o_ret, o_iret, o_zret, o_cret, o_lret, o_aret, lg, lput, lput2, ls1, isL, entL, wsum, rdI1, rdI2, rdA1, rdA21, rdA22, rdL1, rdL22, rdL21, upN_at, rep, sh_0, F_0_0, F_0_1, F_0_2, F_0_3, F_0_4, F_0_5, F_0_6, F_0_7, F_0_8, sh_1, F_1_0, F_1_1, F_1_2, F_1_3, F_1_4, F_1_5, sh_3, F_3_0, F_3_1, F_3_2, F_3_3, F_3_4, F_3_5, sh_5, F_5_0, F_5_1, F_5_2, F_5_3, F_5_4, F_5_5, F_5_6, F_5_7, F_5_8, sh_12, F_12_0, F_12_1, F_12_2, F_12_3, F_12_4, F_12_5, sh_14, F_14_0, F_14_1, F_14_2, F_14_3, F_14_4, F_14_5, F_14_6, F_14_7, F_14_8, sh_21, F_21_0, F_21_1, F_21_2, F_21_3, F_21_4, F_21_5, F_21_6, F_21_7, F_21_8, sh_28, F_28_0, F_28_1, F_28_2, F_28_3, F_28_4, F_28_5, F_28_6, F_28_7, F_28_8, sh_35, F_35_0, sh_39, F_39_0, F_39_1, F_39_2, F_39_3, F_39_4, F_39_5, F_39_6, F_39_7, F_39_8, F_39_9, F_39_10, F_39_11, F_39_12, F_39_13, A_2, A_4, A_6, A_7, A_8, A_9, A_10, A_11, A_13, A_15, A_16, A_17, A_18, A_19, A_20, A_22, A_23, A_24, A_25, A_26, A_27, A_29, A_30, A_31, A_32, A_33, A_34, A_36, A_37, A_38, A_40, A_41, A_42, A_43, A_44, A_45, A_46, A_47]
  exact h
theorem c_X4_rateCook : Ctr yX4_rateCook cX4_rateCook 2 (some .int) ({ frames := 4, cells := 0, slots := 0, locals := 91 } : Room) S_X4_rateCook := ctr_of (T := T_X4_rateCook) (by decide +kernel) (fun post C hr => t_X4_rateCook post C hr) v_X4_rateCook
theorem c_X4_rateMaid : Ctr yX4_rateMaid cX4_rateMaid 2 (some .int) ({ frames := 2, cells := 0, slots := 0, locals := 44 } : Room) S_X4_rateMaid := ctr_of (T := T_X4_rateMaid) (by decide +kernel) (fun post C hr => t_X4_rateMaid post C hr) v_X4_rateMaid
theorem c_X4_rateThief : Ctr yX4_rateThief cX4_rateThief 2 (some .int) ({ frames := 2, cells := 0, slots := 0, locals := 44 } : Room) S_X4_rateThief := ctr_of (T := T_X4_rateThief) (by decide +kernel) (fun post C hr => t_X4_rateThief post C hr) v_X4_rateThief
theorem ctL_RX4_231 : Cond.constantLong RX4 231 (1000) ∈ tb := tb_of 595 (by decide +kernel) (by decide +kernel)
theorem cw_RX4_186 : ∀ w ∈ ([.methodLink RX4 186 yX4_rateCook, .instanceMethod yX4_rateCook, .selects yX4_rateCook.cls yX4_rateCook yX4_rateCook, .initialized yX4_rateCook.cls, .code yX4_rateCook cX4_rateCook 2 (some .int)] : List Cond), w ∈ tb := tb_all [581, 583, 24, 54, 584] (by decide +kernel) (by decide +kernel)
theorem dX4_rateSteward_0 : decode cX4_rateSteward 0 = .ok (.aload_n 0, 1) := by decide +kernel
theorem dX4_rateSteward_1 : decode cX4_rateSteward 1 = .ok (.dup, 1) := by decide +kernel
theorem dX4_rateSteward_2 : decode cX4_rateSteward 2 = .ok (.getfield 214, 3) := by decide +kernel
theorem dX4_rateSteward_5 : decode cX4_rateSteward 5 = .ok (.ldc2_w 231, 3) := by decide +kernel
theorem dX4_rateSteward_8 : decode cX4_rateSteward 8 = .ok (.ladd, 1) := by decide +kernel
theorem dX4_rateSteward_9 : decode cX4_rateSteward 9 = .ok (.putfield 214, 3) := by decide +kernel
theorem dX4_rateSteward_12 : decode cX4_rateSteward 12 = .ok (.iconst 2, 1) := by decide +kernel
theorem dX4_rateSteward_13 : decode cX4_rateSteward 13 = .ok (.aload_n 0, 1) := by decide +kernel
theorem dX4_rateSteward_14 : decode cX4_rateSteward 14 = .ok (.iload_n 1, 1) := by decide +kernel
theorem dX4_rateSteward_15 : decode cX4_rateSteward 15 = .ok (.invokevirtual 186, 3) := by decide +kernel
theorem dX4_rateSteward_18 : decode cX4_rateSteward 18 = .ok (.imul, 1) := by decide +kernel
theorem dX4_rateSteward_19 : decode cX4_rateSteward 19 = .ok (.ireturn, 1) := by decide +kernel
def T_X4_rateSteward (post : PO) : List (Nat × OP) := [(0, o_aload 0 1), (1, o_dup 2), (2, o_getf 4 8 5), (5, o_lconst 1000 8), (8, o_lbin (fun x y => x + y) 9), (9, o_putL 4 8 12), (12, o_const 2 13), (13, o_aload 0 14), (14, o_iload 1 15), (15, o_callV 4 S_X4_rateCook 1 18), (18, o_bin (fun x y => x * y) 19), (19, o_iret post)]
theorem k_X4_rateSteward_0 (post : PO) : lk (T_X4_rateSteward post) 0 = o_aload 0 1 := rfl
theorem k_X4_rateSteward_1 (post : PO) : lk (T_X4_rateSteward post) 1 = o_dup 2 := rfl
theorem k_X4_rateSteward_2 (post : PO) : lk (T_X4_rateSteward post) 2 = o_getf 4 8 5 := rfl
theorem k_X4_rateSteward_5 (post : PO) : lk (T_X4_rateSteward post) 5 = o_lconst 1000 8 := rfl
theorem k_X4_rateSteward_8 (post : PO) : lk (T_X4_rateSteward post) 8 = o_lbin (fun x y => x + y) 9 := rfl
theorem k_X4_rateSteward_9 (post : PO) : lk (T_X4_rateSteward post) 9 = o_putL 4 8 12 := rfl
theorem k_X4_rateSteward_12 (post : PO) : lk (T_X4_rateSteward post) 12 = o_const 2 13 := rfl
theorem k_X4_rateSteward_13 (post : PO) : lk (T_X4_rateSteward post) 13 = o_aload 0 14 := rfl
theorem k_X4_rateSteward_14 (post : PO) : lk (T_X4_rateSteward post) 14 = o_iload 1 15 := rfl
theorem k_X4_rateSteward_15 (post : PO) : lk (T_X4_rateSteward post) 15 = o_callV 4 S_X4_rateCook 1 18 := rfl
theorem k_X4_rateSteward_18 (post : PO) : lk (T_X4_rateSteward post) 18 = o_bin (fun x y => x * y) 19 := rfl
theorem k_X4_rateSteward_19 (post : PO) : lk (T_X4_rateSteward post) 19 = o_iret post := rfl
set_option maxRecDepth 100000 in
theorem t_X4_rateSteward {p : Program} {l : Launch} {e : Env} {s : State} {m : MethodId} {args : Array Value} {below : List Frame} {meth : Method} {c : Code} {D : va_G} {dA : Nat → ClassId} {ad : Nat → Nat} (post : PO) (C : CX p s m args meth c cX4_rateSteward 2 yX4_rateSteward.cls D dA ad (AA ad s.heap.size)) (hr : meth.sig.returnType = (some .int)) : SndL (WW p l e ({ frames := 5, cells := 0, slots := 0, locals := 112 } : Room) s m args below meth c 0 0 (MQ below (CQ D dA ad post (AA ad s.heap.size)) args s 0 0 (AA ad s.heap.size)) 2 D dA ad (AA ad s.heap.size)) (T_X4_rateSteward post) := by
  refine snd_c (s_aload_n C rfl dX4_rateSteward_0) ?_
  refine snd_c (s_dup C dX4_rateSteward_1) ?_
  refine snd_c (s_getf C (ci := 4) (j := 8) (T := TX4) rfl inX4 (by decide) fl_RX4_214 dX4_rateSteward_2) ?_
  refine snd_c (s_ldc2 C ctL_RX4_231 dX4_rateSteward_5) ?_
  refine snd_c (s_ladd C dX4_rateSteward_8) ?_
  refine snd_c (s_putL C (ci := 4) (j := 8) (T := TX4) tyX4 tyX4_ok nmX4 rfl inX4 (by decide) rfl rfl fl_RX4_214 dX4_rateSteward_9) ?_
  refine snd_c (s_iconst C dX4_rateSteward_12 rfl) ?_
  refine snd_c (s_aload_n C rfl dX4_rateSteward_13) ?_
  refine snd_c (s_iload_n C rfl dX4_rateSteward_14) ?_
  refine snd_c (s_callV C (ci := 4) c_X4_rateCook rfl cw_RX4_186 ⟨rfl, rfl⟩ ⟨by decide +kernel, by decide +kernel, by decide +kernel⟩ ⟨by decide, by decide⟩ ⟨Nat.zero_le _, Nat.zero_le _⟩ dX4_rateSteward_15) ?_
  refine snd_c (s_imul C dX4_rateSteward_18) ?_
  refine snd_c (s_iret C hr dX4_rateSteward_19) ?_
  exact trivial
theorem ctL_RX4_233 : Cond.constantLong RX4 233 (10000) ∈ tb := tb_of 600 (by decide +kernel) (by decide +kernel)
theorem cw_RX4_189 : ∀ w ∈ ([.methodLink RX4 189 yX4_rateMaid, .instanceMethod yX4_rateMaid, .selects yX4_rateMaid.cls yX4_rateMaid yX4_rateMaid, .initialized yX4_rateMaid.cls, .code yX4_rateMaid cX4_rateMaid 2 (some .int)] : List Cond), w ∈ tb := tb_all [586, 588, 25, 54, 589] (by decide +kernel) (by decide +kernel)
theorem dX4_rateGroom_0 : decode cX4_rateGroom 0 = .ok (.aload_n 0, 1) := by decide +kernel
theorem dX4_rateGroom_1 : decode cX4_rateGroom 1 = .ok (.dup, 1) := by decide +kernel
theorem dX4_rateGroom_2 : decode cX4_rateGroom 2 = .ok (.getfield 214, 3) := by decide +kernel
theorem dX4_rateGroom_5 : decode cX4_rateGroom 5 = .ok (.ldc2_w 233, 3) := by decide +kernel
theorem dX4_rateGroom_8 : decode cX4_rateGroom 8 = .ok (.ladd, 1) := by decide +kernel
theorem dX4_rateGroom_9 : decode cX4_rateGroom 9 = .ok (.putfield 214, 3) := by decide +kernel
theorem dX4_rateGroom_12 : decode cX4_rateGroom 12 = .ok (.aload_n 0, 1) := by decide +kernel
theorem dX4_rateGroom_13 : decode cX4_rateGroom 13 = .ok (.iload_n 1, 1) := by decide +kernel
theorem dX4_rateGroom_14 : decode cX4_rateGroom 14 = .ok (.invokevirtual 189, 3) := by decide +kernel
theorem dX4_rateGroom_17 : decode cX4_rateGroom 17 = .ok (.iload_n 1, 1) := by decide +kernel
theorem dX4_rateGroom_18 : decode cX4_rateGroom 18 = .ok (.iadd, 1) := by decide +kernel
theorem dX4_rateGroom_19 : decode cX4_rateGroom 19 = .ok (.ireturn, 1) := by decide +kernel
def T_X4_rateGroom (post : PO) : List (Nat × OP) := [(0, o_aload 0 1), (1, o_dup 2), (2, o_getf 4 8 5), (5, o_lconst 10000 8), (8, o_lbin (fun x y => x + y) 9), (9, o_putL 4 8 12), (12, o_aload 0 13), (13, o_iload 1 14), (14, o_callV 4 S_X4_rateMaid 1 17), (17, o_iload 1 18), (18, o_bin (fun x y => x + y) 19), (19, o_iret post)]
theorem k_X4_rateGroom_0 (post : PO) : lk (T_X4_rateGroom post) 0 = o_aload 0 1 := rfl
theorem k_X4_rateGroom_1 (post : PO) : lk (T_X4_rateGroom post) 1 = o_dup 2 := rfl
theorem k_X4_rateGroom_2 (post : PO) : lk (T_X4_rateGroom post) 2 = o_getf 4 8 5 := rfl
theorem k_X4_rateGroom_5 (post : PO) : lk (T_X4_rateGroom post) 5 = o_lconst 10000 8 := rfl
theorem k_X4_rateGroom_8 (post : PO) : lk (T_X4_rateGroom post) 8 = o_lbin (fun x y => x + y) 9 := rfl
theorem k_X4_rateGroom_9 (post : PO) : lk (T_X4_rateGroom post) 9 = o_putL 4 8 12 := rfl
theorem k_X4_rateGroom_12 (post : PO) : lk (T_X4_rateGroom post) 12 = o_aload 0 13 := rfl
theorem k_X4_rateGroom_13 (post : PO) : lk (T_X4_rateGroom post) 13 = o_iload 1 14 := rfl
theorem k_X4_rateGroom_14 (post : PO) : lk (T_X4_rateGroom post) 14 = o_callV 4 S_X4_rateMaid 1 17 := rfl
theorem k_X4_rateGroom_17 (post : PO) : lk (T_X4_rateGroom post) 17 = o_iload 1 18 := rfl
theorem k_X4_rateGroom_18 (post : PO) : lk (T_X4_rateGroom post) 18 = o_bin (fun x y => x + y) 19 := rfl
theorem k_X4_rateGroom_19 (post : PO) : lk (T_X4_rateGroom post) 19 = o_iret post := rfl
set_option maxRecDepth 100000 in
theorem t_X4_rateGroom {p : Program} {l : Launch} {e : Env} {s : State} {m : MethodId} {args : Array Value} {below : List Frame} {meth : Method} {c : Code} {D : va_G} {dA : Nat → ClassId} {ad : Nat → Nat} (post : PO) (C : CX p s m args meth c cX4_rateGroom 2 yX4_rateGroom.cls D dA ad (AA ad s.heap.size)) (hr : meth.sig.returnType = (some .int)) : SndL (WW p l e ({ frames := 3, cells := 0, slots := 0, locals := 65 } : Room) s m args below meth c 0 0 (MQ below (CQ D dA ad post (AA ad s.heap.size)) args s 0 0 (AA ad s.heap.size)) 2 D dA ad (AA ad s.heap.size)) (T_X4_rateGroom post) := by
  refine snd_c (s_aload_n C rfl dX4_rateGroom_0) ?_
  refine snd_c (s_dup C dX4_rateGroom_1) ?_
  refine snd_c (s_getf C (ci := 4) (j := 8) (T := TX4) rfl inX4 (by decide) fl_RX4_214 dX4_rateGroom_2) ?_
  refine snd_c (s_ldc2 C ctL_RX4_233 dX4_rateGroom_5) ?_
  refine snd_c (s_ladd C dX4_rateGroom_8) ?_
  refine snd_c (s_putL C (ci := 4) (j := 8) (T := TX4) tyX4 tyX4_ok nmX4 rfl inX4 (by decide) rfl rfl fl_RX4_214 dX4_rateGroom_9) ?_
  refine snd_c (s_aload_n C rfl dX4_rateGroom_12) ?_
  refine snd_c (s_iload_n C rfl dX4_rateGroom_13) ?_
  refine snd_c (s_callV C (ci := 4) c_X4_rateMaid rfl cw_RX4_189 ⟨rfl, rfl⟩ ⟨by decide +kernel, by decide +kernel, by decide +kernel⟩ ⟨by decide, by decide⟩ ⟨Nat.zero_le _, Nat.zero_le _⟩ dX4_rateGroom_14) ?_
  refine snd_c (s_iload_n C rfl dX4_rateGroom_17) ?_
  refine snd_c (s_iadd C dX4_rateGroom_18) ?_
  refine snd_c (s_iret C hr dX4_rateGroom_19) ?_
  exact trivial
set_option maxRecDepth 100000 in
theorem v_X4_rateSteward : ∀ as M post, S_X4_rateSteward as M post → wsum as ≤ 2 ∧ RUN (T_X4_rateSteward post) 0 (entL 2 as) [] M := by
  rintro as M post ⟨x, n, c, p, r, h0, lk, rfl, hX, h⟩
  have hX0 := hX
  obtain ⟨hn, hn8, hc, hc6, hp, hp4, hr, hhk, hl⟩ := hX
  have hk := kB_lt h0 hn8 x
  refine ⟨by show 2 ≤ 2; omega, run_wp 60 ?_⟩
  dsimp only [k_X4_rateSteward_0, k_X4_rateSteward_1, k_X4_rateSteward_2, k_X4_rateSteward_5, k_X4_rateSteward_8, k_X4_rateSteward_9, k_X4_rateSteward_12, k_X4_rateSteward_13, k_X4_rateSteward_14, k_X4_rateSteward_15, k_X4_rateSteward_18, k_X4_rateSteward_19, wp1, wp_s, cutIn, kont, Nat.reduceSub, Nat.reduceAdd, nth, o_const, o_lconst, o_ref, o_iload, o_lload, o_aload, o_istore, o_lstore, o_astore, o_iinc, o_bin, o_div, o_un, o_lbin, o_lsh, o_lcmp, o_i2l, o_l2i, o_if, o_icmp, o_goto, o_dup, o_dup2, o_pop, fav, o_getf, o_putI, o_putZ, o_putL, o_ald, o_ast, o_alen, popn, rst, o_callV, o_callT, o_callS, swx, o_sw, o_ret, o_iret, o_zret, o_cret, o_lret, o_aret, lg, lput, lput2, ls1, isL, entL, wsum, rdI1, rdI2, rdA1, rdA21, rdA22, rdL1, rdL22, rdL21, upN_at, rep, sh_0, F_0_0, F_0_1, F_0_2, F_0_3, F_0_4, F_0_5, F_0_6, F_0_7, F_0_8, sh_1, F_1_0, F_1_1, F_1_2, F_1_3, F_1_4, F_1_5, sh_3, F_3_0, F_3_1, F_3_2, F_3_3, F_3_4, F_3_5, sh_5, F_5_0, F_5_1, F_5_2, F_5_3, F_5_4, F_5_5, F_5_6, F_5_7, F_5_8, sh_12, F_12_0, F_12_1, F_12_2, F_12_3, F_12_4, F_12_5, sh_14, F_14_0, F_14_1, F_14_2, F_14_3, F_14_4, F_14_5, F_14_6, F_14_7, F_14_8, sh_21, F_21_0, F_21_1, F_21_2, F_21_3, F_21_4, F_21_5, F_21_6, F_21_7, F_21_8, sh_28, F_28_0, F_28_1, F_28_2, F_28_3, F_28_4, F_28_5, F_28_6, F_28_7, F_28_8, sh_35, F_35_0, sh_39, F_39_0, F_39_1, F_39_2, F_39_3, F_39_4, F_39_5, F_39_6, F_39_7, F_39_8, F_39_9, F_39_10, F_39_11, F_39_12, F_39_13, A_2, A_4, A_6, A_7, A_8, A_9, A_10, A_11, A_13, A_15, A_16, A_17, A_18, A_19, A_20, A_22, A_23, A_24, A_25, A_26, A_27, A_29, A_30, A_31, A_32, A_33, A_34, A_36, A_37, A_38, A_40, A_41, A_42, A_43, A_44, A_45, A_46, A_47]
  refine ⟨x, n, c, p, r, h0, lk, rfl, XW_L hX0 _, fun f => ?_⟩
  simp only [sA_sA, sA_cm, sI_sA, sI_sI, sI_cm, sL_sA, sL_sI, sL_sL, sL_cm, Nat.reduceLT]
  dsimp only [k_X4_rateSteward_0, k_X4_rateSteward_1, k_X4_rateSteward_2, k_X4_rateSteward_5, k_X4_rateSteward_8, k_X4_rateSteward_9, k_X4_rateSteward_12, k_X4_rateSteward_13, k_X4_rateSteward_14, k_X4_rateSteward_15, k_X4_rateSteward_18, k_X4_rateSteward_19, wp1, wp_s, cutIn, kont, Nat.reduceSub, Nat.reduceAdd, nth, o_const, o_lconst, o_ref, o_iload, o_lload, o_aload, o_istore, o_lstore, o_astore, o_iinc, o_bin, o_div, o_un, o_lbin, o_lsh, o_lcmp, o_i2l, o_l2i, o_if, o_icmp, o_goto, o_dup, o_dup2, o_pop, fav, o_getf, o_putI, o_putZ, o_putL, o_ald, o_ast, o_alen, popn, rst, o_callV, o_callT, o_callS, swx, o_sw, o_ret, o_iret, o_zret, o_cret, o_lret, o_aret, lg, lput, lput2, ls1, isL, entL, wsum, rdI1, rdI2, rdA1, rdA21, rdA22, rdL1, rdL22, rdL21, upN_at, rep, sh_0, F_0_0, F_0_1, F_0_2, F_0_3, F_0_4, F_0_5, F_0_6, F_0_7, F_0_8, sh_1, F_1_0, F_1_1, F_1_2, F_1_3, F_1_4, F_1_5, sh_3, F_3_0, F_3_1, F_3_2, F_3_3, F_3_4, F_3_5, sh_5, F_5_0, F_5_1, F_5_2, F_5_3, F_5_4, F_5_5, F_5_6, F_5_7, F_5_8, sh_12, F_12_0, F_12_1, F_12_2, F_12_3, F_12_4, F_12_5, sh_14, F_14_0, F_14_1, F_14_2, F_14_3, F_14_4, F_14_5, F_14_6, F_14_7, F_14_8, sh_21, F_21_0, F_21_1, F_21_2, F_21_3, F_21_4, F_21_5, F_21_6, F_21_7, F_21_8, sh_28, F_28_0, F_28_1, F_28_2, F_28_3, F_28_4, F_28_5, F_28_6, F_28_7, F_28_8, sh_35, F_35_0, sh_39, F_39_0, F_39_1, F_39_2, F_39_3, F_39_4, F_39_5, F_39_6, F_39_7, F_39_8, F_39_9, F_39_10, F_39_11, F_39_12, F_39_13, A_2, A_4, A_6, A_7, A_8, A_9, A_10, A_11, A_13, A_15, A_16, A_17, A_18, A_19, A_20, A_22, A_23, A_24, A_25, A_26, A_27, A_29, A_30, A_31, A_32, A_33, A_34, A_36, A_37, A_38, A_40, A_41, A_42, A_43, A_44, A_45, A_46, A_47]
  exact h f
set_option maxRecDepth 100000 in
theorem v_X4_rateGroom : ∀ as M post, S_X4_rateGroom as M post → wsum as ≤ 2 ∧ RUN (T_X4_rateGroom post) 0 (entL 2 as) [] M := by
  rintro as M post ⟨x, n, c, p, r, h0, lk, rfl, hX, h⟩
  have hX0 := hX
  obtain ⟨hn, hn8, hc, hc6, hp, hp4, hr, hhk, hl⟩ := hX
  have hk := kB_lt h0 hn8 x
  refine ⟨by show 2 ≤ 2; omega, run_wp 60 ?_⟩
  dsimp only [k_X4_rateGroom_0, k_X4_rateGroom_1, k_X4_rateGroom_2, k_X4_rateGroom_5, k_X4_rateGroom_8, k_X4_rateGroom_9, k_X4_rateGroom_12, k_X4_rateGroom_13, k_X4_rateGroom_14, k_X4_rateGroom_17, k_X4_rateGroom_18, k_X4_rateGroom_19, wp1, wp_s, cutIn, kont, Nat.reduceSub, Nat.reduceAdd, nth, o_const, o_lconst, o_ref, o_iload, o_lload, o_aload, o_istore, o_lstore, o_astore, o_iinc, o_bin, o_div, o_un, o_lbin, o_lsh, o_lcmp, o_i2l, o_l2i, o_if, o_icmp, o_goto, o_dup, o_dup2, o_pop, fav, o_getf, o_putI, o_putZ, o_putL, o_ald, o_ast, o_alen, popn, rst, o_callV, o_callT, o_callS, swx, o_sw, o_ret, o_iret, o_zret, o_cret, o_lret, o_aret, lg, lput, lput2, ls1, isL, entL, wsum, rdI1, rdI2, rdA1, rdA21, rdA22, rdL1, rdL22, rdL21, upN_at, rep, sh_0, F_0_0, F_0_1, F_0_2, F_0_3, F_0_4, F_0_5, F_0_6, F_0_7, F_0_8, sh_1, F_1_0, F_1_1, F_1_2, F_1_3, F_1_4, F_1_5, sh_3, F_3_0, F_3_1, F_3_2, F_3_3, F_3_4, F_3_5, sh_5, F_5_0, F_5_1, F_5_2, F_5_3, F_5_4, F_5_5, F_5_6, F_5_7, F_5_8, sh_12, F_12_0, F_12_1, F_12_2, F_12_3, F_12_4, F_12_5, sh_14, F_14_0, F_14_1, F_14_2, F_14_3, F_14_4, F_14_5, F_14_6, F_14_7, F_14_8, sh_21, F_21_0, F_21_1, F_21_2, F_21_3, F_21_4, F_21_5, F_21_6, F_21_7, F_21_8, sh_28, F_28_0, F_28_1, F_28_2, F_28_3, F_28_4, F_28_5, F_28_6, F_28_7, F_28_8, sh_35, F_35_0, sh_39, F_39_0, F_39_1, F_39_2, F_39_3, F_39_4, F_39_5, F_39_6, F_39_7, F_39_8, F_39_9, F_39_10, F_39_11, F_39_12, F_39_13, A_2, A_4, A_6, A_7, A_8, A_9, A_10, A_11, A_13, A_15, A_16, A_17, A_18, A_19, A_20, A_22, A_23, A_24, A_25, A_26, A_27, A_29, A_30, A_31, A_32, A_33, A_34, A_36, A_37, A_38, A_40, A_41, A_42, A_43, A_44, A_45, A_46, A_47]
  refine ⟨x, n, c, p, r, h0, lk, rfl, XW_L hX0 _, ?_⟩
  simp only [sA_sA, sA_cm, sI_sA, sI_sI, sI_cm, sL_sA, sL_sI, sL_sL, sL_cm, Nat.reduceLT]
  dsimp only [k_X4_rateGroom_0, k_X4_rateGroom_1, k_X4_rateGroom_2, k_X4_rateGroom_5, k_X4_rateGroom_8, k_X4_rateGroom_9, k_X4_rateGroom_12, k_X4_rateGroom_13, k_X4_rateGroom_14, k_X4_rateGroom_17, k_X4_rateGroom_18, k_X4_rateGroom_19, wp1, wp_s, cutIn, kont, Nat.reduceSub, Nat.reduceAdd, nth, o_const, o_lconst, o_ref, o_iload, o_lload, o_aload, o_istore, o_lstore, o_astore, o_iinc, o_bin, o_div, o_un, o_lbin, o_lsh, o_lcmp, o_i2l, o_l2i, o_if, o_icmp, o_goto, o_dup, o_dup2, o_pop, fav, o_getf, o_putI, o_putZ, o_putL, o_ald, o_ast, o_alen, popn, rst, o_callV, o_callT, o_callS, swx, o_sw, o_ret, o_iret, o_zret, o_cret, o_lret, o_aret, lg, lput, lput2, ls1, isL, entL, wsum, rdI1, rdI2, rdA1, rdA21, rdA22, rdL1, rdL22, rdL21, upN_at, rep, sh_0, F_0_0, F_0_1, F_0_2, F_0_3, F_0_4, F_0_5, F_0_6, F_0_7, F_0_8, sh_1, F_1_0, F_1_1, F_1_2, F_1_3, F_1_4, F_1_5, sh_3, F_3_0, F_3_1, F_3_2, F_3_3, F_3_4, F_3_5, sh_5, F_5_0, F_5_1, F_5_2, F_5_3, F_5_4, F_5_5, F_5_6, F_5_7, F_5_8, sh_12, F_12_0, F_12_1, F_12_2, F_12_3, F_12_4, F_12_5, sh_14, F_14_0, F_14_1, F_14_2, F_14_3, F_14_4, F_14_5, F_14_6, F_14_7, F_14_8, sh_21, F_21_0, F_21_1, F_21_2, F_21_3, F_21_4, F_21_5, F_21_6, F_21_7, F_21_8, sh_28, F_28_0, F_28_1, F_28_2, F_28_3, F_28_4, F_28_5, F_28_6, F_28_7, F_28_8, sh_35, F_35_0, sh_39, F_39_0, F_39_1, F_39_2, F_39_3, F_39_4, F_39_5, F_39_6, F_39_7, F_39_8, F_39_9, F_39_10, F_39_11, F_39_12, F_39_13, A_2, A_4, A_6, A_7, A_8, A_9, A_10, A_11, A_13, A_15, A_16, A_17, A_18, A_19, A_20, A_22, A_23, A_24, A_25, A_26, A_27, A_29, A_30, A_31, A_32, A_33, A_34, A_36, A_37, A_38, A_40, A_41, A_42, A_43, A_44, A_45, A_46, A_47]
  exact h
theorem c_X4_rateSteward : Ctr yX4_rateSteward cX4_rateSteward 2 (some .int) ({ frames := 5, cells := 0, slots := 0, locals := 112 } : Room) S_X4_rateSteward := ctr_of (T := T_X4_rateSteward) (by decide +kernel) (fun post C hr => t_X4_rateSteward post C hr) v_X4_rateSteward
theorem c_X4_rateGroom : Ctr yX4_rateGroom cX4_rateGroom 2 (some .int) ({ frames := 3, cells := 0, slots := 0, locals := 65 } : Room) S_X4_rateGroom := ctr_of (T := T_X4_rateGroom) (by decide +kernel) (fun post C hr => t_X4_rateGroom post C hr) v_X4_rateGroom
def rV (k : Nat) (r : Nat → Nat) (h : Nat → Int32) (n : Nat) (lk : Nat → Nat) (c : Nat) (x : Int32) : Int32 := match k with
  | 0 => rP h n x
  | 1 => rC r h n lk c x
  | 2 => rM r h n x
  | 3 => 2 * rC r h n lk c x
  | 4 => rM r h n x + x
  | _ => rP h n x + nI (cn (kB h n (-4)) 9)
def rT (k : Nat) (t : Int64) : Int64 := match k with
  | 0 => t + 1
  | 1 => t + 10 + 1
  | 2 => t + 100 + 1
  | 3 => t + 1000 + 10 + 1
  | 4 => t + 10000 + 100 + 1
  | _ => t + 100000 + 1
def S_X4_rate : SP := fun as M post => ∃ y x n c p r h lk, as = [VR 0, VI y, VI x] ∧ XW M n c p r h lk ∧ ((¬ ((0 ≤ x ∧ x < nI p) ∧ (0 ≤ y ∧ y < 6))) → post (some (VI (-1000000))) M) ∧ (∀ k q, y = nI k → k < 6 → x = nI q → q < p → ∀ f, (k ≠ 1 → k ≠ 3 → f = M.2.2 27) → post (some (VI (rV k r h n lk c x))) (sA 27 f (sL 0 (rT k (M.2.1 0)) M)))
def S_X4_trace : SP := fun as M post => as = [VR 0] ∧ post (some (VL (M.2.1 0))) M
def S_X4_keep : SP := fun as M post => ∃ x, as = [VR 0, VI x] ∧ (¬ (x = 0 ∨ x = 1) → post (some (VI (-1))) M) ∧ (x = 0 → post (some (VI (M.1 9))) (sI 21 1 (cpR 17 19 4 9 M))) ∧ (x = 1 → post (some (VI (M.1 9))) (sI 24 1 (cpR 23 22 4 9 M)))
def S_X4_back : SP := fun as M post => ∃ x, as = [VR 0, VI x] ∧ (¬ (x = 0 ∨ x = 1) → post (some (VI (-1))) M) ∧ (x = 0 → M.1 21 = 0 → post (some (VI (-2))) M) ∧ (x = 1 → M.1 24 = 0 → post (some (VI (-2))) M) ∧ (x = 0 → ¬ M.1 21 = 0 → post (some (VI (M.1 19))) (cpR 4 9 17 19 M)) ∧ (x = 1 → ¬ M.1 24 = 0 → post (some (VI (M.1 22))) (cpR 4 9 23 22 M))
def S_X4_count : SP := fun as M post => ∃ x n c p r h lk, as = [VR 0, VI x] ∧ XW M n c p r h lk ∧ (x = 0 → post (some (VI (nI n))) M) ∧ (x = 1 → post (some (VI (nI c))) M) ∧ (x = 2 → post (some (VI (nI p))) M) ∧ (x = 3 → post (some (VI (nI (cn (kB h n (-4)) 9)))) M) ∧ (x = 4 → post (some (VI (nI (cn (kB h n (-3)) 9)))) M) ∧ (x = 5 → post (some (VI (M.1 10))) M) ∧ (x = 6 → post (some (VI (M.1 0))) M) ∧ (¬ (0 ≤ x ∧ x < 7) → post (some (VI (-1))) M)
theorem ct_RX4_182 : Cond.constant RX4 182 (-1000000) ∈ tb := tb_of 576 (by decide +kernel) (by decide +kernel)
theorem cw_RX4_192 : ∀ w ∈ ([.methodLink RX4 192 yX4_rateSteward, .instanceMethod yX4_rateSteward, .selects yX4_rateSteward.cls yX4_rateSteward yX4_rateSteward, .initialized yX4_rateSteward.cls, .code yX4_rateSteward cX4_rateSteward 2 (some .int)] : List Cond), w ∈ tb := tb_all [591, 593, 26, 54, 594] (by decide +kernel) (by decide +kernel)
theorem cw_RX4_195 : ∀ w ∈ ([.methodLink RX4 195 yX4_rateGroom, .instanceMethod yX4_rateGroom, .selects yX4_rateGroom.cls yX4_rateGroom yX4_rateGroom, .initialized yX4_rateGroom.cls, .code yX4_rateGroom cX4_rateGroom 2 (some .int)] : List Cond), w ∈ tb := tb_all [596, 598, 27, 54, 599] (by decide +kernel) (by decide +kernel)
theorem cw_RX4_198 : ∀ w ∈ ([.methodLink RX4 198 yX4_rateThief, .instanceMethod yX4_rateThief, .selects yX4_rateThief.cls yX4_rateThief yX4_rateThief, .initialized yX4_rateThief.cls, .code yX4_rateThief cX4_rateThief 2 (some .int)] : List Cond), w ∈ tb := tb_all [601, 603, 28, 54, 604] (by decide +kernel) (by decide +kernel)
theorem dX4_rate_0 : decode cX4_rate 0 = .ok (.aload_n 0, 1) := by decide +kernel
theorem dX4_rate_1 : decode cX4_rate 1 = .ok (.getfield 19, 3) := by decide +kernel
theorem dX4_rate_4 : decode cX4_rate 4 = .ok (.iload_n 2, 1) := by decide +kernel
theorem dX4_rate_5 : decode cX4_rate 5 = .ok (.invokevirtual 117, 3) := by decide +kernel
theorem dX4_rate_8 : decode cX4_rate 8 = .ok (.ifCond .ne 6, 3) := by decide +kernel
theorem dX4_rate_11 : decode cX4_rate 11 = .ok (.ldc 182, 2) := by decide +kernel
theorem dX4_rate_13 : decode cX4_rate 13 = .ok (.ireturn, 1) := by decide +kernel
theorem dX4_rate_14 : decode cX4_rate 14 = .ok (.iload_n 1, 1) := by decide +kernel
theorem dX4_rate_15 : decode cX4_rate 15 = .ok (.tableswitch 73 0 5 #[37, 43, 49, 55, 61, 67], 37) := by decide +kernel
theorem dX4_rate_52 : decode cX4_rate 52 = .ok (.aload_n 0, 1) := by decide +kernel
theorem dX4_rate_53 : decode cX4_rate 53 = .ok (.iload_n 2, 1) := by decide +kernel
theorem dX4_rate_54 : decode cX4_rate 54 = .ok (.invokevirtual 183, 3) := by decide +kernel
theorem dX4_rate_57 : decode cX4_rate 57 = .ok (.ireturn, 1) := by decide +kernel
theorem dX4_rate_58 : decode cX4_rate 58 = .ok (.aload_n 0, 1) := by decide +kernel
theorem dX4_rate_59 : decode cX4_rate 59 = .ok (.iload_n 2, 1) := by decide +kernel
theorem dX4_rate_60 : decode cX4_rate 60 = .ok (.invokevirtual 186, 3) := by decide +kernel
theorem dX4_rate_63 : decode cX4_rate 63 = .ok (.ireturn, 1) := by decide +kernel
theorem dX4_rate_64 : decode cX4_rate 64 = .ok (.aload_n 0, 1) := by decide +kernel
theorem dX4_rate_65 : decode cX4_rate 65 = .ok (.iload_n 2, 1) := by decide +kernel
theorem dX4_rate_66 : decode cX4_rate 66 = .ok (.invokevirtual 189, 3) := by decide +kernel
theorem dX4_rate_69 : decode cX4_rate 69 = .ok (.ireturn, 1) := by decide +kernel
theorem dX4_rate_70 : decode cX4_rate 70 = .ok (.aload_n 0, 1) := by decide +kernel
theorem dX4_rate_71 : decode cX4_rate 71 = .ok (.iload_n 2, 1) := by decide +kernel
theorem dX4_rate_72 : decode cX4_rate 72 = .ok (.invokevirtual 192, 3) := by decide +kernel
theorem dX4_rate_75 : decode cX4_rate 75 = .ok (.ireturn, 1) := by decide +kernel
theorem dX4_rate_76 : decode cX4_rate 76 = .ok (.aload_n 0, 1) := by decide +kernel
theorem dX4_rate_77 : decode cX4_rate 77 = .ok (.iload_n 2, 1) := by decide +kernel
theorem dX4_rate_78 : decode cX4_rate 78 = .ok (.invokevirtual 195, 3) := by decide +kernel
theorem dX4_rate_81 : decode cX4_rate 81 = .ok (.ireturn, 1) := by decide +kernel
theorem dX4_rate_82 : decode cX4_rate 82 = .ok (.aload_n 0, 1) := by decide +kernel
theorem dX4_rate_83 : decode cX4_rate 83 = .ok (.iload_n 2, 1) := by decide +kernel
theorem dX4_rate_84 : decode cX4_rate 84 = .ok (.invokevirtual 198, 3) := by decide +kernel
theorem dX4_rate_87 : decode cX4_rate 87 = .ok (.ireturn, 1) := by decide +kernel
theorem dX4_rate_88 : decode cX4_rate 88 = .ok (.ldc 182, 2) := by decide +kernel
theorem dX4_rate_90 : decode cX4_rate 90 = .ok (.ireturn, 1) := by decide +kernel
def T_X4_rate (post : PO) : List (Nat × OP) := [(0, o_aload 0 1), (1, o_getf 4 1 4), (4, o_iload 2 5), (5, o_callV 0 S_X0_hasPerson 1 8), (8, o_if (fun x => x = 0) 11 14), (11, o_const (-1000000) 13), (13, o_iret post), (14, o_iload 1 15), (15, o_sw [(0, 52), (1, 58), (2, 64), (3, 70), (4, 76), (5, 82)] 88), (52, o_aload 0 53), (53, o_iload 2 54), (54, o_callV 4 S_X4_ratePerson 1 57), (57, o_iret post), (58, o_aload 0 59), (59, o_iload 2 60), (60, o_callV 4 S_X4_rateCook 1 63), (63, o_iret post), (64, o_aload 0 65), (65, o_iload 2 66), (66, o_callV 4 S_X4_rateMaid 1 69), (69, o_iret post), (70, o_aload 0 71), (71, o_iload 2 72), (72, o_callV 4 S_X4_rateSteward 1 75), (75, o_iret post), (76, o_aload 0 77), (77, o_iload 2 78), (78, o_callV 4 S_X4_rateGroom 1 81), (81, o_iret post), (82, o_aload 0 83), (83, o_iload 2 84), (84, o_callV 4 S_X4_rateThief 1 87), (87, o_iret post), (88, o_const (-1000000) 90), (90, o_iret post)]
theorem k_X4_rate_0 (post : PO) : lk (T_X4_rate post) 0 = o_aload 0 1 := rfl
theorem k_X4_rate_1 (post : PO) : lk (T_X4_rate post) 1 = o_getf 4 1 4 := rfl
theorem k_X4_rate_4 (post : PO) : lk (T_X4_rate post) 4 = o_iload 2 5 := rfl
theorem k_X4_rate_5 (post : PO) : lk (T_X4_rate post) 5 = o_callV 0 S_X0_hasPerson 1 8 := rfl
theorem k_X4_rate_8 (post : PO) : lk (T_X4_rate post) 8 = o_if (fun x => x = 0) 11 14 := rfl
theorem k_X4_rate_11 (post : PO) : lk (T_X4_rate post) 11 = o_const (-1000000) 13 := rfl
theorem k_X4_rate_13 (post : PO) : lk (T_X4_rate post) 13 = o_iret post := rfl
theorem k_X4_rate_14 (post : PO) : lk (T_X4_rate post) 14 = o_iload 1 15 := rfl
theorem k_X4_rate_15 (post : PO) : lk (T_X4_rate post) 15 = o_sw [(0, 52), (1, 58), (2, 64), (3, 70), (4, 76), (5, 82)] 88 := rfl
theorem k_X4_rate_52 (post : PO) : lk (T_X4_rate post) 52 = o_aload 0 53 := rfl
theorem k_X4_rate_53 (post : PO) : lk (T_X4_rate post) 53 = o_iload 2 54 := rfl
theorem k_X4_rate_54 (post : PO) : lk (T_X4_rate post) 54 = o_callV 4 S_X4_ratePerson 1 57 := rfl
theorem k_X4_rate_57 (post : PO) : lk (T_X4_rate post) 57 = o_iret post := rfl
theorem k_X4_rate_58 (post : PO) : lk (T_X4_rate post) 58 = o_aload 0 59 := rfl
theorem k_X4_rate_59 (post : PO) : lk (T_X4_rate post) 59 = o_iload 2 60 := rfl
theorem k_X4_rate_60 (post : PO) : lk (T_X4_rate post) 60 = o_callV 4 S_X4_rateCook 1 63 := rfl
theorem k_X4_rate_63 (post : PO) : lk (T_X4_rate post) 63 = o_iret post := rfl
theorem k_X4_rate_64 (post : PO) : lk (T_X4_rate post) 64 = o_aload 0 65 := rfl
theorem k_X4_rate_65 (post : PO) : lk (T_X4_rate post) 65 = o_iload 2 66 := rfl
theorem k_X4_rate_66 (post : PO) : lk (T_X4_rate post) 66 = o_callV 4 S_X4_rateMaid 1 69 := rfl
theorem k_X4_rate_69 (post : PO) : lk (T_X4_rate post) 69 = o_iret post := rfl
theorem k_X4_rate_70 (post : PO) : lk (T_X4_rate post) 70 = o_aload 0 71 := rfl
theorem k_X4_rate_71 (post : PO) : lk (T_X4_rate post) 71 = o_iload 2 72 := rfl
theorem k_X4_rate_72 (post : PO) : lk (T_X4_rate post) 72 = o_callV 4 S_X4_rateSteward 1 75 := rfl
theorem k_X4_rate_75 (post : PO) : lk (T_X4_rate post) 75 = o_iret post := rfl
theorem k_X4_rate_76 (post : PO) : lk (T_X4_rate post) 76 = o_aload 0 77 := rfl
theorem k_X4_rate_77 (post : PO) : lk (T_X4_rate post) 77 = o_iload 2 78 := rfl
theorem k_X4_rate_78 (post : PO) : lk (T_X4_rate post) 78 = o_callV 4 S_X4_rateGroom 1 81 := rfl
theorem k_X4_rate_81 (post : PO) : lk (T_X4_rate post) 81 = o_iret post := rfl
theorem k_X4_rate_82 (post : PO) : lk (T_X4_rate post) 82 = o_aload 0 83 := rfl
theorem k_X4_rate_83 (post : PO) : lk (T_X4_rate post) 83 = o_iload 2 84 := rfl
theorem k_X4_rate_84 (post : PO) : lk (T_X4_rate post) 84 = o_callV 4 S_X4_rateThief 1 87 := rfl
theorem k_X4_rate_87 (post : PO) : lk (T_X4_rate post) 87 = o_iret post := rfl
theorem k_X4_rate_88 (post : PO) : lk (T_X4_rate post) 88 = o_const (-1000000) 90 := rfl
theorem k_X4_rate_90 (post : PO) : lk (T_X4_rate post) 90 = o_iret post := rfl
set_option maxRecDepth 100000 in
theorem t_X4_rate {p : Program} {l : Launch} {e : Env} {s : State} {m : MethodId} {args : Array Value} {below : List Frame} {meth : Method} {c : Code} {D : va_G} {dA : Nat → ClassId} {ad : Nat → Nat} (post : PO) (C : CX p s m args meth c cX4_rate 3 yX4_rate.cls D dA ad (AA ad s.heap.size)) (hr : meth.sig.returnType = (some .int)) : SndL (WW p l e ({ frames := 6, cells := 0, slots := 0, locals := 133 } : Room) s m args below meth c 0 0 (MQ below (CQ D dA ad post (AA ad s.heap.size)) args s 0 0 (AA ad s.heap.size)) 3 D dA ad (AA ad s.heap.size)) (T_X4_rate post) := by
  refine snd_c (s_aload_n C rfl dX4_rate_0) ?_
  refine snd_c (s_getf C (ci := 4) (j := 1) (T := TX4) rfl inX4 (by decide) fl_RX4_19 dX4_rate_1) ?_
  refine snd_c (s_iload_n C rfl dX4_rate_4) ?_
  refine snd_c (s_callV C (ci := 0) c_X0_hasPerson rfl cw_RX4_117 ⟨rfl, rfl⟩ ⟨by decide +kernel, by decide +kernel, by decide +kernel⟩ ⟨by decide, by decide⟩ ⟨Nat.zero_le _, Nat.zero_le _⟩ dX4_rate_5) ?_
  refine snd_c (s_if_ne C dX4_rate_8 (by decide)) ?_
  refine snd_c (s_ldc C ct_RX4_182 dX4_rate_11) ?_
  refine snd_c (s_iret C hr dX4_rate_13) ?_
  refine snd_c (s_iload_n C rfl dX4_rate_14) ?_
  refine snd_c (s_sw C dX4_rate_15 (by decide) (by decide +kernel) (by decide)) ?_
  refine snd_c (s_aload_n C rfl dX4_rate_52) ?_
  refine snd_c (s_iload_n C rfl dX4_rate_53) ?_
  refine snd_c (s_callV C (ci := 4) c_X4_ratePerson rfl cw_RX4_183 ⟨rfl, rfl⟩ ⟨by decide +kernel, by decide +kernel, by decide +kernel⟩ ⟨by decide, by decide⟩ ⟨Nat.zero_le _, Nat.zero_le _⟩ dX4_rate_54) ?_
  refine snd_c (s_iret C hr dX4_rate_57) ?_
  refine snd_c (s_aload_n C rfl dX4_rate_58) ?_
  refine snd_c (s_iload_n C rfl dX4_rate_59) ?_
  refine snd_c (s_callV C (ci := 4) c_X4_rateCook rfl cw_RX4_186 ⟨rfl, rfl⟩ ⟨by decide +kernel, by decide +kernel, by decide +kernel⟩ ⟨by decide, by decide⟩ ⟨Nat.zero_le _, Nat.zero_le _⟩ dX4_rate_60) ?_
  refine snd_c (s_iret C hr dX4_rate_63) ?_
  refine snd_c (s_aload_n C rfl dX4_rate_64) ?_
  refine snd_c (s_iload_n C rfl dX4_rate_65) ?_
  refine snd_c (s_callV C (ci := 4) c_X4_rateMaid rfl cw_RX4_189 ⟨rfl, rfl⟩ ⟨by decide +kernel, by decide +kernel, by decide +kernel⟩ ⟨by decide, by decide⟩ ⟨Nat.zero_le _, Nat.zero_le _⟩ dX4_rate_66) ?_
  refine snd_c (s_iret C hr dX4_rate_69) ?_
  refine snd_c (s_aload_n C rfl dX4_rate_70) ?_
  refine snd_c (s_iload_n C rfl dX4_rate_71) ?_
  refine snd_c (s_callV C (ci := 4) c_X4_rateSteward rfl cw_RX4_192 ⟨rfl, rfl⟩ ⟨by decide +kernel, by decide +kernel, by decide +kernel⟩ ⟨by decide, by decide⟩ ⟨Nat.zero_le _, Nat.zero_le _⟩ dX4_rate_72) ?_
  refine snd_c (s_iret C hr dX4_rate_75) ?_
  refine snd_c (s_aload_n C rfl dX4_rate_76) ?_
  refine snd_c (s_iload_n C rfl dX4_rate_77) ?_
  refine snd_c (s_callV C (ci := 4) c_X4_rateGroom rfl cw_RX4_195 ⟨rfl, rfl⟩ ⟨by decide +kernel, by decide +kernel, by decide +kernel⟩ ⟨by decide, by decide⟩ ⟨Nat.zero_le _, Nat.zero_le _⟩ dX4_rate_78) ?_
  refine snd_c (s_iret C hr dX4_rate_81) ?_
  refine snd_c (s_aload_n C rfl dX4_rate_82) ?_
  refine snd_c (s_iload_n C rfl dX4_rate_83) ?_
  refine snd_c (s_callV C (ci := 4) c_X4_rateThief rfl cw_RX4_198 ⟨rfl, rfl⟩ ⟨by decide +kernel, by decide +kernel, by decide +kernel⟩ ⟨by decide, by decide⟩ ⟨Nat.zero_le _, Nat.zero_le _⟩ dX4_rate_84) ?_
  refine snd_c (s_iret C hr dX4_rate_87) ?_
  refine snd_c (s_ldc C ct_RX4_182 dX4_rate_88) ?_
  refine snd_c (s_iret C hr dX4_rate_90) ?_
  exact trivial
theorem dX4_trace_0 : decode cX4_trace 0 = .ok (.aload_n 0, 1) := by decide +kernel
theorem dX4_trace_1 : decode cX4_trace 1 = .ok (.getfield 214, 3) := by decide +kernel
theorem dX4_trace_4 : decode cX4_trace 4 = .ok (.lreturn, 1) := by decide +kernel
def T_X4_trace (post : PO) : List (Nat × OP) := [(0, o_aload 0 1), (1, o_getf 4 8 4), (4, o_lret post)]
theorem k_X4_trace_0 (post : PO) : lk (T_X4_trace post) 0 = o_aload 0 1 := rfl
theorem k_X4_trace_1 (post : PO) : lk (T_X4_trace post) 1 = o_getf 4 8 4 := rfl
theorem k_X4_trace_4 (post : PO) : lk (T_X4_trace post) 4 = o_lret post := rfl
set_option maxRecDepth 100000 in
theorem t_X4_trace {p : Program} {l : Launch} {e : Env} {s : State} {m : MethodId} {args : Array Value} {below : List Frame} {meth : Method} {c : Code} {D : va_G} {dA : Nat → ClassId} {ad : Nat → Nat} (post : PO) (C : CX p s m args meth c cX4_trace 1 yX4_trace.cls D dA ad (AA ad s.heap.size)) (hr : meth.sig.returnType = (some .long)) : SndL (WW p l e ({ frames := 0, cells := 0, slots := 0, locals := 0 } : Room) s m args below meth c 0 0 (MQ below (CQ D dA ad post (AA ad s.heap.size)) args s 0 0 (AA ad s.heap.size)) 1 D dA ad (AA ad s.heap.size)) (T_X4_trace post) := by
  refine snd_c (s_aload_n C rfl dX4_trace_0) ?_
  refine snd_c (s_getf C (ci := 4) (j := 8) (T := TX4) rfl inX4 (by decide) fl_RX4_214 dX4_trace_1) ?_
  refine snd_c (s_lret C hr dX4_trace_4) ?_
  exact trivial
theorem cw_RX4_201 : ∀ w ∈ ([.methodLink RX4 201 yX4_imageAt, .instanceMethod yX4_imageAt, .selects yX4_imageAt.cls yX4_imageAt yX4_imageAt, .initialized yX4_imageAt.cls, .code yX4_imageAt cX4_imageAt 2 (some (.object "NotchKeys$Ring"))] : List Cond), w ∈ tb := tb_all [610, 612, 29, 54, 613] (by decide +kernel) (by decide +kernel)
theorem cw_RX4_205 : ∀ w ∈ ([.methodLink RX4 205 yX1_copyOf, .instanceMethod yX1_copyOf, .selects yX1_copyOf.cls yX1_copyOf yX1_copyOf, .initialized yX1_copyOf.cls, .code yX1_copyOf cX1_copyOf 3 none] : List Cond), w ∈ tb := tb_all [614, 370, 371, 57, 372] (by decide +kernel) (by decide +kernel)
theorem dX4_keep_0 : decode cX4_keep 0 = .ok (.iload_n 1, 1) := by decide +kernel
theorem dX4_keep_1 : decode cX4_keep 1 = .ok (.invokestatic 78, 3) := by decide +kernel
theorem dX4_keep_4 : decode cX4_keep 4 = .ok (.ifCond .ne 5, 3) := by decide +kernel
theorem dX4_keep_7 : decode cX4_keep 7 = .ok (.iconst (-1), 1) := by decide +kernel
theorem dX4_keep_8 : decode cX4_keep 8 = .ok (.ireturn, 1) := by decide +kernel
theorem dX4_keep_9 : decode cX4_keep 9 = .ok (.aload_n 0, 1) := by decide +kernel
theorem dX4_keep_10 : decode cX4_keep 10 = .ok (.iload_n 1, 1) := by decide +kernel
theorem dX4_keep_11 : decode cX4_keep 11 = .ok (.invokevirtual 201, 3) := by decide +kernel
theorem dX4_keep_14 : decode cX4_keep 14 = .ok (.astore_n 2, 1) := by decide +kernel
theorem dX4_keep_15 : decode cX4_keep 15 = .ok (.aload_n 2, 1) := by decide +kernel
theorem dX4_keep_16 : decode cX4_keep 16 = .ok (.aload_n 0, 1) := by decide +kernel
theorem dX4_keep_17 : decode cX4_keep 17 = .ok (.getfield 19, 3) := by decide +kernel
theorem dX4_keep_20 : decode cX4_keep 20 = .ok (.getfield 71, 3) := by decide +kernel
theorem dX4_keep_23 : decode cX4_keep 23 = .ok (.invokevirtual 205, 3) := by decide +kernel
theorem dX4_keep_26 : decode cX4_keep 26 = .ok (.aload_n 2, 1) := by decide +kernel
theorem dX4_keep_27 : decode cX4_keep 27 = .ok (.iconst 1, 1) := by decide +kernel
theorem dX4_keep_28 : decode cX4_keep 28 = .ok (.putfield 67, 3) := by decide +kernel
theorem dX4_keep_31 : decode cX4_keep 31 = .ok (.aload_n 0, 1) := by decide +kernel
theorem dX4_keep_32 : decode cX4_keep 32 = .ok (.getfield 19, 3) := by decide +kernel
theorem dX4_keep_35 : decode cX4_keep 35 = .ok (.getfield 71, 3) := by decide +kernel
theorem dX4_keep_38 : decode cX4_keep 38 = .ok (.getfield 108, 3) := by decide +kernel
theorem dX4_keep_41 : decode cX4_keep 41 = .ok (.ireturn, 1) := by decide +kernel
def T_X4_keep (post : PO) : List (Nat × OP) := [(0, o_iload 1 1), (1, o_callS S_X4_isEither 1 4), (4, o_if (fun x => x = 0) 7 9), (7, o_const (-1) 8), (8, o_iret post), (9, o_aload 0 10), (10, o_iload 1 11), (11, o_callV 4 S_X4_imageAt 1 14), (14, o_astore 2 15), (15, o_aload 2 16), (16, o_aload 0 17), (17, o_getf 4 1 20), (20, o_getf 0 0 23), (23, o_callV 1 S_X1_copyOf 1 26), (26, o_aload 2 27), (27, o_const 1 28), (28, o_putZ 1 8 31), (31, o_aload 0 32), (32, o_getf 4 1 35), (35, o_getf 0 0 38), (38, o_getf 1 2 41), (41, o_iret post)]
theorem k_X4_keep_0 (post : PO) : lk (T_X4_keep post) 0 = o_iload 1 1 := rfl
theorem k_X4_keep_1 (post : PO) : lk (T_X4_keep post) 1 = o_callS S_X4_isEither 1 4 := rfl
theorem k_X4_keep_4 (post : PO) : lk (T_X4_keep post) 4 = o_if (fun x => x = 0) 7 9 := rfl
theorem k_X4_keep_7 (post : PO) : lk (T_X4_keep post) 7 = o_const (-1) 8 := rfl
theorem k_X4_keep_8 (post : PO) : lk (T_X4_keep post) 8 = o_iret post := rfl
theorem k_X4_keep_9 (post : PO) : lk (T_X4_keep post) 9 = o_aload 0 10 := rfl
theorem k_X4_keep_10 (post : PO) : lk (T_X4_keep post) 10 = o_iload 1 11 := rfl
theorem k_X4_keep_11 (post : PO) : lk (T_X4_keep post) 11 = o_callV 4 S_X4_imageAt 1 14 := rfl
theorem k_X4_keep_14 (post : PO) : lk (T_X4_keep post) 14 = o_astore 2 15 := rfl
theorem k_X4_keep_15 (post : PO) : lk (T_X4_keep post) 15 = o_aload 2 16 := rfl
theorem k_X4_keep_16 (post : PO) : lk (T_X4_keep post) 16 = o_aload 0 17 := rfl
theorem k_X4_keep_17 (post : PO) : lk (T_X4_keep post) 17 = o_getf 4 1 20 := rfl
theorem k_X4_keep_20 (post : PO) : lk (T_X4_keep post) 20 = o_getf 0 0 23 := rfl
theorem k_X4_keep_23 (post : PO) : lk (T_X4_keep post) 23 = o_callV 1 S_X1_copyOf 1 26 := rfl
theorem k_X4_keep_26 (post : PO) : lk (T_X4_keep post) 26 = o_aload 2 27 := rfl
theorem k_X4_keep_27 (post : PO) : lk (T_X4_keep post) 27 = o_const 1 28 := rfl
theorem k_X4_keep_28 (post : PO) : lk (T_X4_keep post) 28 = o_putZ 1 8 31 := rfl
theorem k_X4_keep_31 (post : PO) : lk (T_X4_keep post) 31 = o_aload 0 32 := rfl
theorem k_X4_keep_32 (post : PO) : lk (T_X4_keep post) 32 = o_getf 4 1 35 := rfl
theorem k_X4_keep_35 (post : PO) : lk (T_X4_keep post) 35 = o_getf 0 0 38 := rfl
theorem k_X4_keep_38 (post : PO) : lk (T_X4_keep post) 38 = o_getf 1 2 41 := rfl
theorem k_X4_keep_41 (post : PO) : lk (T_X4_keep post) 41 = o_iret post := rfl
set_option maxRecDepth 100000 in
theorem t_X4_keep {p : Program} {l : Launch} {e : Env} {s : State} {m : MethodId} {args : Array Value} {below : List Frame} {meth : Method} {c : Code} {D : va_G} {dA : Nat → ClassId} {ad : Nat → Nat} (post : PO) (C : CX p s m args meth c cX4_keep 3 yX4_keep.cls D dA ad (AA ad s.heap.size)) (hr : meth.sig.returnType = (some .int)) : SndL (WW p l e ({ frames := 2, cells := 0, slots := 0, locals := 45 } : Room) s m args below meth c 0 0 (MQ below (CQ D dA ad post (AA ad s.heap.size)) args s 0 0 (AA ad s.heap.size)) 3 D dA ad (AA ad s.heap.size)) (T_X4_keep post) := by
  refine snd_c (s_iload_n C rfl dX4_keep_0) ?_
  refine snd_c (s_callS C c_X4_isEither cw_RX4_78 ⟨rfl, rfl⟩ ⟨by decide +kernel, by decide +kernel, by decide +kernel⟩ ⟨by decide, by decide⟩ ⟨Nat.zero_le _, Nat.zero_le _⟩ dX4_keep_1) ?_
  refine snd_c (s_if_ne C dX4_keep_4 (by decide)) ?_
  refine snd_c (s_iconst C dX4_keep_7 rfl) ?_
  refine snd_c (s_iret C hr dX4_keep_8) ?_
  refine snd_c (s_aload_n C rfl dX4_keep_9) ?_
  refine snd_c (s_iload_n C rfl dX4_keep_10) ?_
  refine snd_c (s_callV C (ci := 4) c_X4_imageAt rfl cw_RX4_201 ⟨rfl, rfl⟩ ⟨by decide +kernel, by decide +kernel, by decide +kernel⟩ ⟨by decide, by decide⟩ ⟨Nat.zero_le _, Nat.zero_le _⟩ dX4_keep_11) ?_
  refine snd_c (s_astore_n C rfl (by decide) dX4_keep_14) ?_
  refine snd_c (s_aload_n C rfl dX4_keep_15) ?_
  refine snd_c (s_aload_n C rfl dX4_keep_16) ?_
  refine snd_c (s_getf C (ci := 4) (j := 1) (T := TX4) rfl inX4 (by decide) fl_RX4_19 dX4_keep_17) ?_
  refine snd_c (s_getf C (ci := 0) (j := 0) (T := TX0) rfl inX0 (by decide) fl_RX4_71 dX4_keep_20) ?_
  refine snd_c (s_callV C (ci := 1) c_X1_copyOf rfl cw_RX4_205 ⟨rfl, rfl⟩ ⟨by decide +kernel, by decide +kernel, by decide +kernel⟩ ⟨by decide, by decide⟩ ⟨Nat.zero_le _, Nat.zero_le _⟩ dX4_keep_23) ?_
  refine snd_c (s_aload_n C rfl dX4_keep_26) ?_
  refine snd_c (s_iconst C dX4_keep_27 rfl) ?_
  refine snd_c (s_putZ C (ci := 1) (j := 8) (T := TX1) tyX1 tyX1_ok nmX1 rfl inX1 (by decide) rfl rfl fl_RX4_67 dX4_keep_28) ?_
  refine snd_c (s_aload_n C rfl dX4_keep_31) ?_
  refine snd_c (s_getf C (ci := 4) (j := 1) (T := TX4) rfl inX4 (by decide) fl_RX4_19 dX4_keep_32) ?_
  refine snd_c (s_getf C (ci := 0) (j := 0) (T := TX0) rfl inX0 (by decide) fl_RX4_71 dX4_keep_35) ?_
  refine snd_c (s_getf C (ci := 1) (j := 2) (T := TX1) rfl inX1 (by decide) fl_RX4_108 dX4_keep_38) ?_
  refine snd_c (s_iret C hr dX4_keep_41) ?_
  exact trivial
theorem dX4_back_0 : decode cX4_back 0 = .ok (.iload_n 1, 1) := by decide +kernel
theorem dX4_back_1 : decode cX4_back 1 = .ok (.invokestatic 78, 3) := by decide +kernel
theorem dX4_back_4 : decode cX4_back 4 = .ok (.ifCond .ne 5, 3) := by decide +kernel
theorem dX4_back_7 : decode cX4_back 7 = .ok (.iconst (-1), 1) := by decide +kernel
theorem dX4_back_8 : decode cX4_back 8 = .ok (.ireturn, 1) := by decide +kernel
theorem dX4_back_9 : decode cX4_back 9 = .ok (.aload_n 0, 1) := by decide +kernel
theorem dX4_back_10 : decode cX4_back 10 = .ok (.iload_n 1, 1) := by decide +kernel
theorem dX4_back_11 : decode cX4_back 11 = .ok (.invokevirtual 201, 3) := by decide +kernel
theorem dX4_back_14 : decode cX4_back 14 = .ok (.astore_n 2, 1) := by decide +kernel
theorem dX4_back_15 : decode cX4_back 15 = .ok (.aload_n 2, 1) := by decide +kernel
theorem dX4_back_16 : decode cX4_back 16 = .ok (.getfield 67, 3) := by decide +kernel
theorem dX4_back_19 : decode cX4_back 19 = .ok (.ifCond .ne 6, 3) := by decide +kernel
theorem dX4_back_22 : decode cX4_back 22 = .ok (.bipush (-2), 2) := by decide +kernel
theorem dX4_back_24 : decode cX4_back 24 = .ok (.ireturn, 1) := by decide +kernel
theorem dX4_back_25 : decode cX4_back 25 = .ok (.aload_n 0, 1) := by decide +kernel
theorem dX4_back_26 : decode cX4_back 26 = .ok (.getfield 19, 3) := by decide +kernel
theorem dX4_back_29 : decode cX4_back 29 = .ok (.getfield 71, 3) := by decide +kernel
theorem dX4_back_32 : decode cX4_back 32 = .ok (.aload_n 2, 1) := by decide +kernel
theorem dX4_back_33 : decode cX4_back 33 = .ok (.invokevirtual 205, 3) := by decide +kernel
theorem dX4_back_36 : decode cX4_back 36 = .ok (.aload_n 0, 1) := by decide +kernel
theorem dX4_back_37 : decode cX4_back 37 = .ok (.getfield 19, 3) := by decide +kernel
theorem dX4_back_40 : decode cX4_back 40 = .ok (.getfield 71, 3) := by decide +kernel
theorem dX4_back_43 : decode cX4_back 43 = .ok (.getfield 108, 3) := by decide +kernel
theorem dX4_back_46 : decode cX4_back 46 = .ok (.ireturn, 1) := by decide +kernel
def T_X4_back (post : PO) : List (Nat × OP) := [(0, o_iload 1 1), (1, o_callS S_X4_isEither 1 4), (4, o_if (fun x => x = 0) 7 9), (7, o_const (-1) 8), (8, o_iret post), (9, o_aload 0 10), (10, o_iload 1 11), (11, o_callV 4 S_X4_imageAt 1 14), (14, o_astore 2 15), (15, o_aload 2 16), (16, o_getf 1 8 19), (19, o_if (fun x => x = 0) 22 25), (22, o_const (-2) 24), (24, o_iret post), (25, o_aload 0 26), (26, o_getf 4 1 29), (29, o_getf 0 0 32), (32, o_aload 2 33), (33, o_callV 1 S_X1_copyOf 1 36), (36, o_aload 0 37), (37, o_getf 4 1 40), (40, o_getf 0 0 43), (43, o_getf 1 2 46), (46, o_iret post)]
theorem k_X4_back_0 (post : PO) : lk (T_X4_back post) 0 = o_iload 1 1 := rfl
theorem k_X4_back_1 (post : PO) : lk (T_X4_back post) 1 = o_callS S_X4_isEither 1 4 := rfl
theorem k_X4_back_4 (post : PO) : lk (T_X4_back post) 4 = o_if (fun x => x = 0) 7 9 := rfl
theorem k_X4_back_7 (post : PO) : lk (T_X4_back post) 7 = o_const (-1) 8 := rfl
theorem k_X4_back_8 (post : PO) : lk (T_X4_back post) 8 = o_iret post := rfl
theorem k_X4_back_9 (post : PO) : lk (T_X4_back post) 9 = o_aload 0 10 := rfl
theorem k_X4_back_10 (post : PO) : lk (T_X4_back post) 10 = o_iload 1 11 := rfl
theorem k_X4_back_11 (post : PO) : lk (T_X4_back post) 11 = o_callV 4 S_X4_imageAt 1 14 := rfl
theorem k_X4_back_14 (post : PO) : lk (T_X4_back post) 14 = o_astore 2 15 := rfl
theorem k_X4_back_15 (post : PO) : lk (T_X4_back post) 15 = o_aload 2 16 := rfl
theorem k_X4_back_16 (post : PO) : lk (T_X4_back post) 16 = o_getf 1 8 19 := rfl
theorem k_X4_back_19 (post : PO) : lk (T_X4_back post) 19 = o_if (fun x => x = 0) 22 25 := rfl
theorem k_X4_back_22 (post : PO) : lk (T_X4_back post) 22 = o_const (-2) 24 := rfl
theorem k_X4_back_24 (post : PO) : lk (T_X4_back post) 24 = o_iret post := rfl
theorem k_X4_back_25 (post : PO) : lk (T_X4_back post) 25 = o_aload 0 26 := rfl
theorem k_X4_back_26 (post : PO) : lk (T_X4_back post) 26 = o_getf 4 1 29 := rfl
theorem k_X4_back_29 (post : PO) : lk (T_X4_back post) 29 = o_getf 0 0 32 := rfl
theorem k_X4_back_32 (post : PO) : lk (T_X4_back post) 32 = o_aload 2 33 := rfl
theorem k_X4_back_33 (post : PO) : lk (T_X4_back post) 33 = o_callV 1 S_X1_copyOf 1 36 := rfl
theorem k_X4_back_36 (post : PO) : lk (T_X4_back post) 36 = o_aload 0 37 := rfl
theorem k_X4_back_37 (post : PO) : lk (T_X4_back post) 37 = o_getf 4 1 40 := rfl
theorem k_X4_back_40 (post : PO) : lk (T_X4_back post) 40 = o_getf 0 0 43 := rfl
theorem k_X4_back_43 (post : PO) : lk (T_X4_back post) 43 = o_getf 1 2 46 := rfl
theorem k_X4_back_46 (post : PO) : lk (T_X4_back post) 46 = o_iret post := rfl
set_option maxRecDepth 100000 in
theorem t_X4_back {p : Program} {l : Launch} {e : Env} {s : State} {m : MethodId} {args : Array Value} {below : List Frame} {meth : Method} {c : Code} {D : va_G} {dA : Nat → ClassId} {ad : Nat → Nat} (post : PO) (C : CX p s m args meth c cX4_back 3 yX4_back.cls D dA ad (AA ad s.heap.size)) (hr : meth.sig.returnType = (some .int)) : SndL (WW p l e ({ frames := 2, cells := 0, slots := 0, locals := 45 } : Room) s m args below meth c 0 0 (MQ below (CQ D dA ad post (AA ad s.heap.size)) args s 0 0 (AA ad s.heap.size)) 3 D dA ad (AA ad s.heap.size)) (T_X4_back post) := by
  refine snd_c (s_iload_n C rfl dX4_back_0) ?_
  refine snd_c (s_callS C c_X4_isEither cw_RX4_78 ⟨rfl, rfl⟩ ⟨by decide +kernel, by decide +kernel, by decide +kernel⟩ ⟨by decide, by decide⟩ ⟨Nat.zero_le _, Nat.zero_le _⟩ dX4_back_1) ?_
  refine snd_c (s_if_ne C dX4_back_4 (by decide)) ?_
  refine snd_c (s_iconst C dX4_back_7 rfl) ?_
  refine snd_c (s_iret C hr dX4_back_8) ?_
  refine snd_c (s_aload_n C rfl dX4_back_9) ?_
  refine snd_c (s_iload_n C rfl dX4_back_10) ?_
  refine snd_c (s_callV C (ci := 4) c_X4_imageAt rfl cw_RX4_201 ⟨rfl, rfl⟩ ⟨by decide +kernel, by decide +kernel, by decide +kernel⟩ ⟨by decide, by decide⟩ ⟨Nat.zero_le _, Nat.zero_le _⟩ dX4_back_11) ?_
  refine snd_c (s_astore_n C rfl (by decide) dX4_back_14) ?_
  refine snd_c (s_aload_n C rfl dX4_back_15) ?_
  refine snd_c (s_getf C (ci := 1) (j := 8) (T := TX1) rfl inX1 (by decide) fl_RX4_67 dX4_back_16) ?_
  refine snd_c (s_if_ne C dX4_back_19 (by decide)) ?_
  refine snd_c (s_bipush C dX4_back_22 rfl) ?_
  refine snd_c (s_iret C hr dX4_back_24) ?_
  refine snd_c (s_aload_n C rfl dX4_back_25) ?_
  refine snd_c (s_getf C (ci := 4) (j := 1) (T := TX4) rfl inX4 (by decide) fl_RX4_19 dX4_back_26) ?_
  refine snd_c (s_getf C (ci := 0) (j := 0) (T := TX0) rfl inX0 (by decide) fl_RX4_71 dX4_back_29) ?_
  refine snd_c (s_aload_n C rfl dX4_back_32) ?_
  refine snd_c (s_callV C (ci := 1) c_X1_copyOf rfl cw_RX4_205 ⟨rfl, rfl⟩ ⟨by decide +kernel, by decide +kernel, by decide +kernel⟩ ⟨by decide, by decide⟩ ⟨Nat.zero_le _, Nat.zero_le _⟩ dX4_back_33) ?_
  refine snd_c (s_aload_n C rfl dX4_back_36) ?_
  refine snd_c (s_getf C (ci := 4) (j := 1) (T := TX4) rfl inX4 (by decide) fl_RX4_19 dX4_back_37) ?_
  refine snd_c (s_getf C (ci := 0) (j := 0) (T := TX0) rfl inX0 (by decide) fl_RX4_71 dX4_back_40) ?_
  refine snd_c (s_getf C (ci := 1) (j := 2) (T := TX1) rfl inX1 (by decide) fl_RX4_108 dX4_back_43) ?_
  refine snd_c (s_iret C hr dX4_back_46) ?_
  exact trivial
theorem dX4_count_0 : decode cX4_count 0 = .ok (.iload_n 1, 1) := by decide +kernel
theorem dX4_count_1 : decode cX4_count 1 = .ok (.tableswitch 121 0 6 #[43, 54, 62, 70, 86, 102, 113], 43) := by decide +kernel
theorem dX4_count_44 : decode cX4_count 44 = .ok (.aload_n 0, 1) := by decide +kernel
theorem dX4_count_45 : decode cX4_count 45 = .ok (.getfield 19, 3) := by decide +kernel
theorem dX4_count_48 : decode cX4_count 48 = .ok (.getfield 71, 3) := by decide +kernel
theorem dX4_count_51 : decode cX4_count 51 = .ok (.getfield 108, 3) := by decide +kernel
theorem dX4_count_54 : decode cX4_count 54 = .ok (.ireturn, 1) := by decide +kernel
theorem dX4_count_55 : decode cX4_count 55 = .ok (.aload_n 0, 1) := by decide +kernel
theorem dX4_count_56 : decode cX4_count 56 = .ok (.getfield 19, 3) := by decide +kernel
theorem dX4_count_59 : decode cX4_count 59 = .ok (.getfield 208, 3) := by decide +kernel
theorem dX4_count_62 : decode cX4_count 62 = .ok (.ireturn, 1) := by decide +kernel
theorem dX4_count_63 : decode cX4_count 63 = .ok (.aload_n 0, 1) := by decide +kernel
theorem dX4_count_64 : decode cX4_count 64 = .ok (.getfield 19, 3) := by decide +kernel
theorem dX4_count_67 : decode cX4_count 67 = .ok (.getfield 211, 3) := by decide +kernel
theorem dX4_count_70 : decode cX4_count 70 = .ok (.ireturn, 1) := by decide +kernel
theorem dX4_count_71 : decode cX4_count 71 = .ok (.aload_n 0, 1) := by decide +kernel
theorem dX4_count_72 : decode cX4_count 72 = .ok (.getfield 19, 3) := by decide +kernel
theorem dX4_count_75 : decode cX4_count 75 = .ok (.getfield 71, 3) := by decide +kernel
theorem dX4_count_78 : decode cX4_count 78 = .ok (.bipush (-4), 2) := by decide +kernel
theorem dX4_count_80 : decode cX4_count 80 = .ok (.invokevirtual 166, 3) := by decide +kernel
theorem dX4_count_83 : decode cX4_count 83 = .ok (.invokestatic 132, 3) := by decide +kernel
theorem dX4_count_86 : decode cX4_count 86 = .ok (.ireturn, 1) := by decide +kernel
theorem dX4_count_87 : decode cX4_count 87 = .ok (.aload_n 0, 1) := by decide +kernel
theorem dX4_count_88 : decode cX4_count 88 = .ok (.getfield 19, 3) := by decide +kernel
theorem dX4_count_91 : decode cX4_count 91 = .ok (.getfield 71, 3) := by decide +kernel
theorem dX4_count_94 : decode cX4_count 94 = .ok (.bipush (-3), 2) := by decide +kernel
theorem dX4_count_96 : decode cX4_count 96 = .ok (.invokevirtual 166, 3) := by decide +kernel
theorem dX4_count_99 : decode cX4_count 99 = .ok (.invokestatic 132, 3) := by decide +kernel
theorem dX4_count_102 : decode cX4_count 102 = .ok (.ireturn, 1) := by decide +kernel
theorem dX4_count_103 : decode cX4_count 103 = .ok (.aload_n 0, 1) := by decide +kernel
theorem dX4_count_104 : decode cX4_count 104 = .ok (.getfield 19, 3) := by decide +kernel
theorem dX4_count_107 : decode cX4_count 107 = .ok (.getfield 71, 3) := by decide +kernel
theorem dX4_count_110 : decode cX4_count 110 = .ok (.getfield 120, 3) := by decide +kernel
theorem dX4_count_113 : decode cX4_count 113 = .ok (.ireturn, 1) := by decide +kernel
theorem dX4_count_114 : decode cX4_count 114 = .ok (.aload_n 0, 1) := by decide +kernel
theorem dX4_count_115 : decode cX4_count 115 = .ok (.getfield 10, 3) := by decide +kernel
theorem dX4_count_118 : decode cX4_count 118 = .ok (.getfield 51, 3) := by decide +kernel
theorem dX4_count_121 : decode cX4_count 121 = .ok (.ireturn, 1) := by decide +kernel
theorem dX4_count_122 : decode cX4_count 122 = .ok (.iconst (-1), 1) := by decide +kernel
theorem dX4_count_123 : decode cX4_count 123 = .ok (.ireturn, 1) := by decide +kernel
def T_X4_count (post : PO) : List (Nat × OP) := [(0, o_iload 1 1), (1, o_sw [(0, 44), (1, 55), (2, 63), (3, 71), (4, 87), (5, 103), (6, 114)] 122), (44, o_aload 0 45), (45, o_getf 4 1 48), (48, o_getf 0 0 51), (51, o_getf 1 2 54), (54, o_iret post), (55, o_aload 0 56), (56, o_getf 4 1 59), (59, o_getf 0 2 62), (62, o_iret post), (63, o_aload 0 64), (64, o_getf 4 1 67), (67, o_getf 0 3 70), (70, o_iret post), (71, o_aload 0 72), (72, o_getf 4 1 75), (75, o_getf 0 0 78), (78, o_const (-4) 80), (80, o_callV 1 S_X1_keptBy 1 83), (83, o_callS S_J6_bitCount_0f7a4 1 86), (86, o_iret post), (87, o_aload 0 88), (88, o_getf 4 1 91), (91, o_getf 0 0 94), (94, o_const (-3) 96), (96, o_callV 1 S_X1_keptBy 1 99), (99, o_callS S_J6_bitCount_0f7a4 1 102), (102, o_iret post), (103, o_aload 0 104), (104, o_getf 4 1 107), (107, o_getf 0 0 110), (110, o_getf 1 3 113), (113, o_iret post), (114, o_aload 0 115), (115, o_getf 4 0 118), (118, o_getf 3 1 121), (121, o_iret post), (122, o_const (-1) 123), (123, o_iret post)]
theorem k_X4_count_0 (post : PO) : lk (T_X4_count post) 0 = o_iload 1 1 := rfl
theorem k_X4_count_1 (post : PO) : lk (T_X4_count post) 1 = o_sw [(0, 44), (1, 55), (2, 63), (3, 71), (4, 87), (5, 103), (6, 114)] 122 := rfl
theorem k_X4_count_44 (post : PO) : lk (T_X4_count post) 44 = o_aload 0 45 := rfl
theorem k_X4_count_45 (post : PO) : lk (T_X4_count post) 45 = o_getf 4 1 48 := rfl
theorem k_X4_count_48 (post : PO) : lk (T_X4_count post) 48 = o_getf 0 0 51 := rfl
theorem k_X4_count_51 (post : PO) : lk (T_X4_count post) 51 = o_getf 1 2 54 := rfl
theorem k_X4_count_54 (post : PO) : lk (T_X4_count post) 54 = o_iret post := rfl
theorem k_X4_count_55 (post : PO) : lk (T_X4_count post) 55 = o_aload 0 56 := rfl
theorem k_X4_count_56 (post : PO) : lk (T_X4_count post) 56 = o_getf 4 1 59 := rfl
theorem k_X4_count_59 (post : PO) : lk (T_X4_count post) 59 = o_getf 0 2 62 := rfl
theorem k_X4_count_62 (post : PO) : lk (T_X4_count post) 62 = o_iret post := rfl
theorem k_X4_count_63 (post : PO) : lk (T_X4_count post) 63 = o_aload 0 64 := rfl
theorem k_X4_count_64 (post : PO) : lk (T_X4_count post) 64 = o_getf 4 1 67 := rfl
theorem k_X4_count_67 (post : PO) : lk (T_X4_count post) 67 = o_getf 0 3 70 := rfl
theorem k_X4_count_70 (post : PO) : lk (T_X4_count post) 70 = o_iret post := rfl
theorem k_X4_count_71 (post : PO) : lk (T_X4_count post) 71 = o_aload 0 72 := rfl
theorem k_X4_count_72 (post : PO) : lk (T_X4_count post) 72 = o_getf 4 1 75 := rfl
theorem k_X4_count_75 (post : PO) : lk (T_X4_count post) 75 = o_getf 0 0 78 := rfl
theorem k_X4_count_78 (post : PO) : lk (T_X4_count post) 78 = o_const (-4) 80 := rfl
theorem k_X4_count_80 (post : PO) : lk (T_X4_count post) 80 = o_callV 1 S_X1_keptBy 1 83 := rfl
theorem k_X4_count_83 (post : PO) : lk (T_X4_count post) 83 = o_callS S_J6_bitCount_0f7a4 1 86 := rfl
theorem k_X4_count_86 (post : PO) : lk (T_X4_count post) 86 = o_iret post := rfl
theorem k_X4_count_87 (post : PO) : lk (T_X4_count post) 87 = o_aload 0 88 := rfl
theorem k_X4_count_88 (post : PO) : lk (T_X4_count post) 88 = o_getf 4 1 91 := rfl
theorem k_X4_count_91 (post : PO) : lk (T_X4_count post) 91 = o_getf 0 0 94 := rfl
theorem k_X4_count_94 (post : PO) : lk (T_X4_count post) 94 = o_const (-3) 96 := rfl
theorem k_X4_count_96 (post : PO) : lk (T_X4_count post) 96 = o_callV 1 S_X1_keptBy 1 99 := rfl
theorem k_X4_count_99 (post : PO) : lk (T_X4_count post) 99 = o_callS S_J6_bitCount_0f7a4 1 102 := rfl
theorem k_X4_count_102 (post : PO) : lk (T_X4_count post) 102 = o_iret post := rfl
theorem k_X4_count_103 (post : PO) : lk (T_X4_count post) 103 = o_aload 0 104 := rfl
theorem k_X4_count_104 (post : PO) : lk (T_X4_count post) 104 = o_getf 4 1 107 := rfl
theorem k_X4_count_107 (post : PO) : lk (T_X4_count post) 107 = o_getf 0 0 110 := rfl
theorem k_X4_count_110 (post : PO) : lk (T_X4_count post) 110 = o_getf 1 3 113 := rfl
theorem k_X4_count_113 (post : PO) : lk (T_X4_count post) 113 = o_iret post := rfl
theorem k_X4_count_114 (post : PO) : lk (T_X4_count post) 114 = o_aload 0 115 := rfl
theorem k_X4_count_115 (post : PO) : lk (T_X4_count post) 115 = o_getf 4 0 118 := rfl
theorem k_X4_count_118 (post : PO) : lk (T_X4_count post) 118 = o_getf 3 1 121 := rfl
theorem k_X4_count_121 (post : PO) : lk (T_X4_count post) 121 = o_iret post := rfl
theorem k_X4_count_122 (post : PO) : lk (T_X4_count post) 122 = o_const (-1) 123 := rfl
theorem k_X4_count_123 (post : PO) : lk (T_X4_count post) 123 = o_iret post := rfl
set_option maxRecDepth 100000 in
theorem t_X4_count {p : Program} {l : Launch} {e : Env} {s : State} {m : MethodId} {args : Array Value} {below : List Frame} {meth : Method} {c : Code} {D : va_G} {dA : Nat → ClassId} {ad : Nat → Nat} (post : PO) (C : CX p s m args meth c cX4_count 2 yX4_count.cls D dA ad (AA ad s.heap.size)) (hr : meth.sig.returnType = (some .int)) : SndL (WW p l e ({ frames := 1, cells := 0, slots := 0, locals := 23 } : Room) s m args below meth c 0 0 (MQ below (CQ D dA ad post (AA ad s.heap.size)) args s 0 0 (AA ad s.heap.size)) 2 D dA ad (AA ad s.heap.size)) (T_X4_count post) := by
  refine snd_c (s_iload_n C rfl dX4_count_0) ?_
  refine snd_c (s_sw C dX4_count_1 (by decide) (by decide +kernel) (by decide)) ?_
  refine snd_c (s_aload_n C rfl dX4_count_44) ?_
  refine snd_c (s_getf C (ci := 4) (j := 1) (T := TX4) rfl inX4 (by decide) fl_RX4_19 dX4_count_45) ?_
  refine snd_c (s_getf C (ci := 0) (j := 0) (T := TX0) rfl inX0 (by decide) fl_RX4_71 dX4_count_48) ?_
  refine snd_c (s_getf C (ci := 1) (j := 2) (T := TX1) rfl inX1 (by decide) fl_RX4_108 dX4_count_51) ?_
  refine snd_c (s_iret C hr dX4_count_54) ?_
  refine snd_c (s_aload_n C rfl dX4_count_55) ?_
  refine snd_c (s_getf C (ci := 4) (j := 1) (T := TX4) rfl inX4 (by decide) fl_RX4_19 dX4_count_56) ?_
  refine snd_c (s_getf C (ci := 0) (j := 2) (T := TX0) rfl inX0 (by decide) fl_RX4_208 dX4_count_59) ?_
  refine snd_c (s_iret C hr dX4_count_62) ?_
  refine snd_c (s_aload_n C rfl dX4_count_63) ?_
  refine snd_c (s_getf C (ci := 4) (j := 1) (T := TX4) rfl inX4 (by decide) fl_RX4_19 dX4_count_64) ?_
  refine snd_c (s_getf C (ci := 0) (j := 3) (T := TX0) rfl inX0 (by decide) fl_RX4_211 dX4_count_67) ?_
  refine snd_c (s_iret C hr dX4_count_70) ?_
  refine snd_c (s_aload_n C rfl dX4_count_71) ?_
  refine snd_c (s_getf C (ci := 4) (j := 1) (T := TX4) rfl inX4 (by decide) fl_RX4_19 dX4_count_72) ?_
  refine snd_c (s_getf C (ci := 0) (j := 0) (T := TX0) rfl inX0 (by decide) fl_RX4_71 dX4_count_75) ?_
  refine snd_c (s_bipush C dX4_count_78 rfl) ?_
  refine snd_c (s_callV C (ci := 1) c_X1_keptBy rfl cw_RX4_166 ⟨rfl, rfl⟩ ⟨by decide +kernel, by decide +kernel, by decide +kernel⟩ ⟨by decide, by decide⟩ ⟨Nat.zero_le _, Nat.zero_le _⟩ dX4_count_80) ?_
  refine snd_c (s_callS C c_J6_bitCount_0f7a4 cw_RX4_132 ⟨rfl, rfl⟩ ⟨by decide +kernel, by decide +kernel, by decide +kernel⟩ ⟨by decide, by decide⟩ ⟨Nat.zero_le _, Nat.zero_le _⟩ dX4_count_83) ?_
  refine snd_c (s_iret C hr dX4_count_86) ?_
  refine snd_c (s_aload_n C rfl dX4_count_87) ?_
  refine snd_c (s_getf C (ci := 4) (j := 1) (T := TX4) rfl inX4 (by decide) fl_RX4_19 dX4_count_88) ?_
  refine snd_c (s_getf C (ci := 0) (j := 0) (T := TX0) rfl inX0 (by decide) fl_RX4_71 dX4_count_91) ?_
  refine snd_c (s_bipush C dX4_count_94 rfl) ?_
  refine snd_c (s_callV C (ci := 1) c_X1_keptBy rfl cw_RX4_166 ⟨rfl, rfl⟩ ⟨by decide +kernel, by decide +kernel, by decide +kernel⟩ ⟨by decide, by decide⟩ ⟨Nat.zero_le _, Nat.zero_le _⟩ dX4_count_96) ?_
  refine snd_c (s_callS C c_J6_bitCount_0f7a4 cw_RX4_132 ⟨rfl, rfl⟩ ⟨by decide +kernel, by decide +kernel, by decide +kernel⟩ ⟨by decide, by decide⟩ ⟨Nat.zero_le _, Nat.zero_le _⟩ dX4_count_99) ?_
  refine snd_c (s_iret C hr dX4_count_102) ?_
  refine snd_c (s_aload_n C rfl dX4_count_103) ?_
  refine snd_c (s_getf C (ci := 4) (j := 1) (T := TX4) rfl inX4 (by decide) fl_RX4_19 dX4_count_104) ?_
  refine snd_c (s_getf C (ci := 0) (j := 0) (T := TX0) rfl inX0 (by decide) fl_RX4_71 dX4_count_107) ?_
  refine snd_c (s_getf C (ci := 1) (j := 3) (T := TX1) rfl inX1 (by decide) fl_RX4_120 dX4_count_110) ?_
  refine snd_c (s_iret C hr dX4_count_113) ?_
  refine snd_c (s_aload_n C rfl dX4_count_114) ?_
  refine snd_c (s_getf C (ci := 4) (j := 0) (T := TX4) rfl inX4 (by decide) fl_RX4_10 dX4_count_115) ?_
  refine snd_c (s_getf C (ci := 3) (j := 1) (T := TX3) rfl inX3 (by decide) fl_RX4_51 dX4_count_118) ?_
  refine snd_c (s_iret C hr dX4_count_121) ?_
  refine snd_c (s_iconst C dX4_count_122 rfl) ?_
  refine snd_c (s_iret C hr dX4_count_123) ?_
  exact trivial
set_option maxRecDepth 100000 in
theorem v_X4_trace : ∀ as M post, S_X4_trace as M post → wsum as ≤ 1 ∧ RUN (T_X4_trace post) 0 (entL 1 as) [] M := by
  rintro as M post ⟨rfl, h⟩
  refine ⟨by show 1 ≤ 1; omega, run_wp 40 ?_⟩
  dsimp only [k_X4_trace_0, k_X4_trace_1, k_X4_trace_4, wp1, wp_s, cutIn, kont, Nat.reduceSub, Nat.reduceAdd, nth, o_const, o_lconst, o_ref, o_iload, o_lload, o_aload, o_istore, o_lstore, o_astore, o_iinc, o_bin, o_div, o_un, o_lbin, o_lsh, o_lcmp, o_i2l, o_l2i, o_if, o_icmp, o_goto, o_dup, o_dup2, o_pop, fav, o_getf, o_putI, o_putZ, o_putL, o_ald, o_ast, o_alen, popn, rst, o_callV, o_callT, o_callS, swx, o_sw, o_ret, o_iret, o_zret, o_cret, o_lret, o_aret, lg, lput, lput2, ls1, isL, entL, wsum, rdI1, rdI2, rdA1, rdA21, rdA22, rdL1, rdL22, rdL21, upN_at, rep, sh_0, F_0_0, F_0_1, F_0_2, F_0_3, F_0_4, F_0_5, F_0_6, F_0_7, F_0_8, sh_1, F_1_0, F_1_1, F_1_2, F_1_3, F_1_4, F_1_5, sh_3, F_3_0, F_3_1, F_3_2, F_3_3, F_3_4, F_3_5, sh_5, F_5_0, F_5_1, F_5_2, F_5_3, F_5_4, F_5_5, F_5_6, F_5_7, F_5_8, sh_12, F_12_0, F_12_1, F_12_2, F_12_3, F_12_4, F_12_5, sh_14, F_14_0, F_14_1, F_14_2, F_14_3, F_14_4, F_14_5, F_14_6, F_14_7, F_14_8, sh_21, F_21_0, F_21_1, F_21_2, F_21_3, F_21_4, F_21_5, F_21_6, F_21_7, F_21_8, sh_28, F_28_0, F_28_1, F_28_2, F_28_3, F_28_4, F_28_5, F_28_6, F_28_7, F_28_8, sh_35, F_35_0, sh_39, F_39_0, F_39_1, F_39_2, F_39_3, F_39_4, F_39_5, F_39_6, F_39_7, F_39_8, F_39_9, F_39_10, F_39_11, F_39_12, F_39_13, A_2, A_4, A_6, A_7, A_8, A_9, A_10, A_11, A_13, A_15, A_16, A_17, A_18, A_19, A_20, A_22, A_23, A_24, A_25, A_26, A_27, A_29, A_30, A_31, A_32, A_33, A_34, A_36, A_37, A_38, A_40, A_41, A_42, A_43, A_44, A_45, A_46, A_47]
  exact h
set_option maxRecDepth 100000 in
theorem v_X4_keep : ∀ as M post, S_X4_keep as M post → wsum as ≤ 3 ∧ RUN (T_X4_keep post) 0 (entL 3 as) [] M := by
  rintro as M post ⟨x, rfl, h1, h2, h3⟩
  refine ⟨by show 2 ≤ 3; omega, run_wp 60 ?_⟩
  dsimp only [k_X4_keep_0, k_X4_keep_1, k_X4_keep_4, k_X4_keep_7, k_X4_keep_8, k_X4_keep_9, k_X4_keep_10, k_X4_keep_11, k_X4_keep_14, k_X4_keep_15, k_X4_keep_16, k_X4_keep_17, k_X4_keep_20, k_X4_keep_23, k_X4_keep_26, k_X4_keep_27, k_X4_keep_28, k_X4_keep_31, k_X4_keep_32, k_X4_keep_35, k_X4_keep_38, k_X4_keep_41, wp1, wp_s, cutIn, kont, Nat.reduceSub, Nat.reduceAdd, nth, o_const, o_lconst, o_ref, o_iload, o_lload, o_aload, o_istore, o_lstore, o_astore, o_iinc, o_bin, o_div, o_un, o_lbin, o_lsh, o_lcmp, o_i2l, o_l2i, o_if, o_icmp, o_goto, o_dup, o_dup2, o_pop, fav, o_getf, o_putI, o_putZ, o_putL, o_ald, o_ast, o_alen, popn, rst, o_callV, o_callT, o_callS, swx, o_sw, o_ret, o_iret, o_zret, o_cret, o_lret, o_aret, lg, lput, lput2, ls1, isL, entL, wsum, rdI1, rdI2, rdA1, rdA21, rdA22, rdL1, rdL22, rdL21, upN_at, rep, sh_0, F_0_0, F_0_1, F_0_2, F_0_3, F_0_4, F_0_5, F_0_6, F_0_7, F_0_8, sh_1, F_1_0, F_1_1, F_1_2, F_1_3, F_1_4, F_1_5, sh_3, F_3_0, F_3_1, F_3_2, F_3_3, F_3_4, F_3_5, sh_5, F_5_0, F_5_1, F_5_2, F_5_3, F_5_4, F_5_5, F_5_6, F_5_7, F_5_8, sh_12, F_12_0, F_12_1, F_12_2, F_12_3, F_12_4, F_12_5, sh_14, F_14_0, F_14_1, F_14_2, F_14_3, F_14_4, F_14_5, F_14_6, F_14_7, F_14_8, sh_21, F_21_0, F_21_1, F_21_2, F_21_3, F_21_4, F_21_5, F_21_6, F_21_7, F_21_8, sh_28, F_28_0, F_28_1, F_28_2, F_28_3, F_28_4, F_28_5, F_28_6, F_28_7, F_28_8, sh_35, F_35_0, sh_39, F_39_0, F_39_1, F_39_2, F_39_3, F_39_4, F_39_5, F_39_6, F_39_7, F_39_8, F_39_9, F_39_10, F_39_11, F_39_12, F_39_13, A_2, A_4, A_6, A_7, A_8, A_9, A_10, A_11, A_13, A_15, A_16, A_17, A_18, A_19, A_20, A_22, A_23, A_24, A_25, A_26, A_27, A_29, A_30, A_31, A_32, A_33, A_34, A_36, A_37, A_38, A_40, A_41, A_42, A_43, A_44, A_45, A_46, A_47]
  refine ⟨x, rfl, fun q => ?_, fun q => ?_⟩
  · dsimp only [k_X4_keep_0, k_X4_keep_1, k_X4_keep_4, k_X4_keep_7, k_X4_keep_8, k_X4_keep_9, k_X4_keep_10, k_X4_keep_11, k_X4_keep_14, k_X4_keep_15, k_X4_keep_16, k_X4_keep_17, k_X4_keep_20, k_X4_keep_23, k_X4_keep_26, k_X4_keep_27, k_X4_keep_28, k_X4_keep_31, k_X4_keep_32, k_X4_keep_35, k_X4_keep_38, k_X4_keep_41, wp1, wp_s, cutIn, kont, Nat.reduceSub, Nat.reduceAdd, nth, o_const, o_lconst, o_ref, o_iload, o_lload, o_aload, o_istore, o_lstore, o_astore, o_iinc, o_bin, o_div, o_un, o_lbin, o_lsh, o_lcmp, o_i2l, o_l2i, o_if, o_icmp, o_goto, o_dup, o_dup2, o_pop, fav, o_getf, o_putI, o_putZ, o_putL, o_ald, o_ast, o_alen, popn, rst, o_callV, o_callT, o_callS, swx, o_sw, o_ret, o_iret, o_zret, o_cret, o_lret, o_aret, lg, lput, lput2, ls1, isL, entL, wsum, rdI1, rdI2, rdA1, rdA21, rdA22, rdL1, rdL22, rdL21, upN_at, rep, sh_0, F_0_0, F_0_1, F_0_2, F_0_3, F_0_4, F_0_5, F_0_6, F_0_7, F_0_8, sh_1, F_1_0, F_1_1, F_1_2, F_1_3, F_1_4, F_1_5, sh_3, F_3_0, F_3_1, F_3_2, F_3_3, F_3_4, F_3_5, sh_5, F_5_0, F_5_1, F_5_2, F_5_3, F_5_4, F_5_5, F_5_6, F_5_7, F_5_8, sh_12, F_12_0, F_12_1, F_12_2, F_12_3, F_12_4, F_12_5, sh_14, F_14_0, F_14_1, F_14_2, F_14_3, F_14_4, F_14_5, F_14_6, F_14_7, F_14_8, sh_21, F_21_0, F_21_1, F_21_2, F_21_3, F_21_4, F_21_5, F_21_6, F_21_7, F_21_8, sh_28, F_28_0, F_28_1, F_28_2, F_28_3, F_28_4, F_28_5, F_28_6, F_28_7, F_28_8, sh_35, F_35_0, sh_39, F_39_0, F_39_1, F_39_2, F_39_3, F_39_4, F_39_5, F_39_6, F_39_7, F_39_8, F_39_9, F_39_10, F_39_11, F_39_12, F_39_13, A_2, A_4, A_6, A_7, A_8, A_9, A_10, A_11, A_13, A_15, A_16, A_17, A_18, A_19, A_20, A_22, A_23, A_24, A_25, A_26, A_27, A_29, A_30, A_31, A_32, A_33, A_34, A_36, A_37, A_38, A_40, A_41, A_42, A_43, A_44, A_45, A_46, A_47]
    refine ⟨fun q2 => absurd q2 (by decide), fun _ => ⟨x, rfl, fun q2 => ?_, fun q2 => ?_⟩⟩
    · dsimp only [k_X4_keep_0, k_X4_keep_1, k_X4_keep_4, k_X4_keep_7, k_X4_keep_8, k_X4_keep_9, k_X4_keep_10, k_X4_keep_11, k_X4_keep_14, k_X4_keep_15, k_X4_keep_16, k_X4_keep_17, k_X4_keep_20, k_X4_keep_23, k_X4_keep_26, k_X4_keep_27, k_X4_keep_28, k_X4_keep_31, k_X4_keep_32, k_X4_keep_35, k_X4_keep_38, k_X4_keep_41, wp1, wp_s, cutIn, kont, Nat.reduceSub, Nat.reduceAdd, nth, o_const, o_lconst, o_ref, o_iload, o_lload, o_aload, o_istore, o_lstore, o_astore, o_iinc, o_bin, o_div, o_un, o_lbin, o_lsh, o_lcmp, o_i2l, o_l2i, o_if, o_icmp, o_goto, o_dup, o_dup2, o_pop, fav, o_getf, o_putI, o_putZ, o_putL, o_ald, o_ast, o_alen, popn, rst, o_callV, o_callT, o_callS, swx, o_sw, o_ret, o_iret, o_zret, o_cret, o_lret, o_aret, lg, lput, lput2, ls1, isL, entL, wsum, rdI1, rdI2, rdA1, rdA21, rdA22, rdL1, rdL22, rdL21, upN_at, rep, sh_0, F_0_0, F_0_1, F_0_2, F_0_3, F_0_4, F_0_5, F_0_6, F_0_7, F_0_8, sh_1, F_1_0, F_1_1, F_1_2, F_1_3, F_1_4, F_1_5, sh_3, F_3_0, F_3_1, F_3_2, F_3_3, F_3_4, F_3_5, sh_5, F_5_0, F_5_1, F_5_2, F_5_3, F_5_4, F_5_5, F_5_6, F_5_7, F_5_8, sh_12, F_12_0, F_12_1, F_12_2, F_12_3, F_12_4, F_12_5, sh_14, F_14_0, F_14_1, F_14_2, F_14_3, F_14_4, F_14_5, F_14_6, F_14_7, F_14_8, sh_21, F_21_0, F_21_1, F_21_2, F_21_3, F_21_4, F_21_5, F_21_6, F_21_7, F_21_8, sh_28, F_28_0, F_28_1, F_28_2, F_28_3, F_28_4, F_28_5, F_28_6, F_28_7, F_28_8, sh_35, F_35_0, sh_39, F_39_0, F_39_1, F_39_2, F_39_3, F_39_4, F_39_5, F_39_6, F_39_7, F_39_8, F_39_9, F_39_10, F_39_11, F_39_12, F_39_13, A_2, A_4, A_6, A_7, A_8, A_9, A_10, A_11, A_13, A_15, A_16, A_17, A_18, A_19, A_20, A_22, A_23, A_24, A_25, A_26, A_27, A_29, A_30, A_31, A_32, A_33, A_34, A_36, A_37, A_38, A_40, A_41, A_42, A_43, A_44, A_45, A_46, A_47]
      refine ⟨_, _, 17, 4, 19, 9, rfl, by simp, ?_⟩
      dsimp only [k_X4_keep_0, k_X4_keep_1, k_X4_keep_4, k_X4_keep_7, k_X4_keep_8, k_X4_keep_9, k_X4_keep_10, k_X4_keep_11, k_X4_keep_14, k_X4_keep_15, k_X4_keep_16, k_X4_keep_17, k_X4_keep_20, k_X4_keep_23, k_X4_keep_26, k_X4_keep_27, k_X4_keep_28, k_X4_keep_31, k_X4_keep_32, k_X4_keep_35, k_X4_keep_38, k_X4_keep_41, wp1, wp_s, cutIn, kont, Nat.reduceSub, Nat.reduceAdd, nth, o_const, o_lconst, o_ref, o_iload, o_lload, o_aload, o_istore, o_lstore, o_astore, o_iinc, o_bin, o_div, o_un, o_lbin, o_lsh, o_lcmp, o_i2l, o_l2i, o_if, o_icmp, o_goto, o_dup, o_dup2, o_pop, fav, o_getf, o_putI, o_putZ, o_putL, o_ald, o_ast, o_alen, popn, rst, o_callV, o_callT, o_callS, swx, o_sw, o_ret, o_iret, o_zret, o_cret, o_lret, o_aret, lg, lput, lput2, ls1, isL, entL, wsum, rdI1, rdI2, rdA1, rdA21, rdA22, rdL1, rdL22, rdL21, upN_at, rep, sh_0, F_0_0, F_0_1, F_0_2, F_0_3, F_0_4, F_0_5, F_0_6, F_0_7, F_0_8, sh_1, F_1_0, F_1_1, F_1_2, F_1_3, F_1_4, F_1_5, sh_3, F_3_0, F_3_1, F_3_2, F_3_3, F_3_4, F_3_5, sh_5, F_5_0, F_5_1, F_5_2, F_5_3, F_5_4, F_5_5, F_5_6, F_5_7, F_5_8, sh_12, F_12_0, F_12_1, F_12_2, F_12_3, F_12_4, F_12_5, sh_14, F_14_0, F_14_1, F_14_2, F_14_3, F_14_4, F_14_5, F_14_6, F_14_7, F_14_8, sh_21, F_21_0, F_21_1, F_21_2, F_21_3, F_21_4, F_21_5, F_21_6, F_21_7, F_21_8, sh_28, F_28_0, F_28_1, F_28_2, F_28_3, F_28_4, F_28_5, F_28_6, F_28_7, F_28_8, sh_35, F_35_0, sh_39, F_39_0, F_39_1, F_39_2, F_39_3, F_39_4, F_39_5, F_39_6, F_39_7, F_39_8, F_39_9, F_39_10, F_39_11, F_39_12, F_39_13, A_2, A_4, A_6, A_7, A_8, A_9, A_10, A_11, A_13, A_15, A_16, A_17, A_18, A_19, A_20, A_22, A_23, A_24, A_25, A_26, A_27, A_29, A_30, A_31, A_32, A_33, A_34, A_36, A_37, A_38, A_40, A_41, A_42, A_43, A_44, A_45, A_46, A_47]
      exact ⟨Or.inr rfl, h2 q2⟩
    · dsimp only [k_X4_keep_0, k_X4_keep_1, k_X4_keep_4, k_X4_keep_7, k_X4_keep_8, k_X4_keep_9, k_X4_keep_10, k_X4_keep_11, k_X4_keep_14, k_X4_keep_15, k_X4_keep_16, k_X4_keep_17, k_X4_keep_20, k_X4_keep_23, k_X4_keep_26, k_X4_keep_27, k_X4_keep_28, k_X4_keep_31, k_X4_keep_32, k_X4_keep_35, k_X4_keep_38, k_X4_keep_41, wp1, wp_s, cutIn, kont, Nat.reduceSub, Nat.reduceAdd, nth, o_const, o_lconst, o_ref, o_iload, o_lload, o_aload, o_istore, o_lstore, o_astore, o_iinc, o_bin, o_div, o_un, o_lbin, o_lsh, o_lcmp, o_i2l, o_l2i, o_if, o_icmp, o_goto, o_dup, o_dup2, o_pop, fav, o_getf, o_putI, o_putZ, o_putL, o_ald, o_ast, o_alen, popn, rst, o_callV, o_callT, o_callS, swx, o_sw, o_ret, o_iret, o_zret, o_cret, o_lret, o_aret, lg, lput, lput2, ls1, isL, entL, wsum, rdI1, rdI2, rdA1, rdA21, rdA22, rdL1, rdL22, rdL21, upN_at, rep, sh_0, F_0_0, F_0_1, F_0_2, F_0_3, F_0_4, F_0_5, F_0_6, F_0_7, F_0_8, sh_1, F_1_0, F_1_1, F_1_2, F_1_3, F_1_4, F_1_5, sh_3, F_3_0, F_3_1, F_3_2, F_3_3, F_3_4, F_3_5, sh_5, F_5_0, F_5_1, F_5_2, F_5_3, F_5_4, F_5_5, F_5_6, F_5_7, F_5_8, sh_12, F_12_0, F_12_1, F_12_2, F_12_3, F_12_4, F_12_5, sh_14, F_14_0, F_14_1, F_14_2, F_14_3, F_14_4, F_14_5, F_14_6, F_14_7, F_14_8, sh_21, F_21_0, F_21_1, F_21_2, F_21_3, F_21_4, F_21_5, F_21_6, F_21_7, F_21_8, sh_28, F_28_0, F_28_1, F_28_2, F_28_3, F_28_4, F_28_5, F_28_6, F_28_7, F_28_8, sh_35, F_35_0, sh_39, F_39_0, F_39_1, F_39_2, F_39_3, F_39_4, F_39_5, F_39_6, F_39_7, F_39_8, F_39_9, F_39_10, F_39_11, F_39_12, F_39_13, A_2, A_4, A_6, A_7, A_8, A_9, A_10, A_11, A_13, A_15, A_16, A_17, A_18, A_19, A_20, A_22, A_23, A_24, A_25, A_26, A_27, A_29, A_30, A_31, A_32, A_33, A_34, A_36, A_37, A_38, A_40, A_41, A_42, A_43, A_44, A_45, A_46, A_47]
      refine ⟨_, _, 23, 4, 22, 9, rfl, by simp, ?_⟩
      dsimp only [k_X4_keep_0, k_X4_keep_1, k_X4_keep_4, k_X4_keep_7, k_X4_keep_8, k_X4_keep_9, k_X4_keep_10, k_X4_keep_11, k_X4_keep_14, k_X4_keep_15, k_X4_keep_16, k_X4_keep_17, k_X4_keep_20, k_X4_keep_23, k_X4_keep_26, k_X4_keep_27, k_X4_keep_28, k_X4_keep_31, k_X4_keep_32, k_X4_keep_35, k_X4_keep_38, k_X4_keep_41, wp1, wp_s, cutIn, kont, Nat.reduceSub, Nat.reduceAdd, nth, o_const, o_lconst, o_ref, o_iload, o_lload, o_aload, o_istore, o_lstore, o_astore, o_iinc, o_bin, o_div, o_un, o_lbin, o_lsh, o_lcmp, o_i2l, o_l2i, o_if, o_icmp, o_goto, o_dup, o_dup2, o_pop, fav, o_getf, o_putI, o_putZ, o_putL, o_ald, o_ast, o_alen, popn, rst, o_callV, o_callT, o_callS, swx, o_sw, o_ret, o_iret, o_zret, o_cret, o_lret, o_aret, lg, lput, lput2, ls1, isL, entL, wsum, rdI1, rdI2, rdA1, rdA21, rdA22, rdL1, rdL22, rdL21, upN_at, rep, sh_0, F_0_0, F_0_1, F_0_2, F_0_3, F_0_4, F_0_5, F_0_6, F_0_7, F_0_8, sh_1, F_1_0, F_1_1, F_1_2, F_1_3, F_1_4, F_1_5, sh_3, F_3_0, F_3_1, F_3_2, F_3_3, F_3_4, F_3_5, sh_5, F_5_0, F_5_1, F_5_2, F_5_3, F_5_4, F_5_5, F_5_6, F_5_7, F_5_8, sh_12, F_12_0, F_12_1, F_12_2, F_12_3, F_12_4, F_12_5, sh_14, F_14_0, F_14_1, F_14_2, F_14_3, F_14_4, F_14_5, F_14_6, F_14_7, F_14_8, sh_21, F_21_0, F_21_1, F_21_2, F_21_3, F_21_4, F_21_5, F_21_6, F_21_7, F_21_8, sh_28, F_28_0, F_28_1, F_28_2, F_28_3, F_28_4, F_28_5, F_28_6, F_28_7, F_28_8, sh_35, F_35_0, sh_39, F_39_0, F_39_1, F_39_2, F_39_3, F_39_4, F_39_5, F_39_6, F_39_7, F_39_8, F_39_9, F_39_10, F_39_11, F_39_12, F_39_13, A_2, A_4, A_6, A_7, A_8, A_9, A_10, A_11, A_13, A_15, A_16, A_17, A_18, A_19, A_20, A_22, A_23, A_24, A_25, A_26, A_27, A_29, A_30, A_31, A_32, A_33, A_34, A_36, A_37, A_38, A_40, A_41, A_42, A_43, A_44, A_45, A_46, A_47]
      exact ⟨Or.inr rfl, h3 (q.elim (fun q3 => absurd q3 q2) id)⟩
  · dsimp only [k_X4_keep_0, k_X4_keep_1, k_X4_keep_4, k_X4_keep_7, k_X4_keep_8, k_X4_keep_9, k_X4_keep_10, k_X4_keep_11, k_X4_keep_14, k_X4_keep_15, k_X4_keep_16, k_X4_keep_17, k_X4_keep_20, k_X4_keep_23, k_X4_keep_26, k_X4_keep_27, k_X4_keep_28, k_X4_keep_31, k_X4_keep_32, k_X4_keep_35, k_X4_keep_38, k_X4_keep_41, wp1, wp_s, cutIn, kont, Nat.reduceSub, Nat.reduceAdd, nth, o_const, o_lconst, o_ref, o_iload, o_lload, o_aload, o_istore, o_lstore, o_astore, o_iinc, o_bin, o_div, o_un, o_lbin, o_lsh, o_lcmp, o_i2l, o_l2i, o_if, o_icmp, o_goto, o_dup, o_dup2, o_pop, fav, o_getf, o_putI, o_putZ, o_putL, o_ald, o_ast, o_alen, popn, rst, o_callV, o_callT, o_callS, swx, o_sw, o_ret, o_iret, o_zret, o_cret, o_lret, o_aret, lg, lput, lput2, ls1, isL, entL, wsum, rdI1, rdI2, rdA1, rdA21, rdA22, rdL1, rdL22, rdL21, upN_at, rep, sh_0, F_0_0, F_0_1, F_0_2, F_0_3, F_0_4, F_0_5, F_0_6, F_0_7, F_0_8, sh_1, F_1_0, F_1_1, F_1_2, F_1_3, F_1_4, F_1_5, sh_3, F_3_0, F_3_1, F_3_2, F_3_3, F_3_4, F_3_5, sh_5, F_5_0, F_5_1, F_5_2, F_5_3, F_5_4, F_5_5, F_5_6, F_5_7, F_5_8, sh_12, F_12_0, F_12_1, F_12_2, F_12_3, F_12_4, F_12_5, sh_14, F_14_0, F_14_1, F_14_2, F_14_3, F_14_4, F_14_5, F_14_6, F_14_7, F_14_8, sh_21, F_21_0, F_21_1, F_21_2, F_21_3, F_21_4, F_21_5, F_21_6, F_21_7, F_21_8, sh_28, F_28_0, F_28_1, F_28_2, F_28_3, F_28_4, F_28_5, F_28_6, F_28_7, F_28_8, sh_35, F_35_0, sh_39, F_39_0, F_39_1, F_39_2, F_39_3, F_39_4, F_39_5, F_39_6, F_39_7, F_39_8, F_39_9, F_39_10, F_39_11, F_39_12, F_39_13, A_2, A_4, A_6, A_7, A_8, A_9, A_10, A_11, A_13, A_15, A_16, A_17, A_18, A_19, A_20, A_22, A_23, A_24, A_25, A_26, A_27, A_29, A_30, A_31, A_32, A_33, A_34, A_36, A_37, A_38, A_40, A_41, A_42, A_43, A_44, A_45, A_46, A_47]
    exact ⟨fun _ => h1 q, fun q2 => absurd rfl q2⟩
set_option maxRecDepth 100000 in
theorem v_X4_back : ∀ as M post, S_X4_back as M post → wsum as ≤ 3 ∧ RUN (T_X4_back post) 0 (entL 3 as) [] M := by
  rintro as M post ⟨x, rfl, h1, h2, h3, h4, h5⟩
  refine ⟨by show 2 ≤ 3; omega, run_wp 60 ?_⟩
  dsimp only [k_X4_back_0, k_X4_back_1, k_X4_back_4, k_X4_back_7, k_X4_back_8, k_X4_back_9, k_X4_back_10, k_X4_back_11, k_X4_back_14, k_X4_back_15, k_X4_back_16, k_X4_back_19, k_X4_back_22, k_X4_back_24, k_X4_back_25, k_X4_back_26, k_X4_back_29, k_X4_back_32, k_X4_back_33, k_X4_back_36, k_X4_back_37, k_X4_back_40, k_X4_back_43, k_X4_back_46, wp1, wp_s, cutIn, kont, Nat.reduceSub, Nat.reduceAdd, nth, o_const, o_lconst, o_ref, o_iload, o_lload, o_aload, o_istore, o_lstore, o_astore, o_iinc, o_bin, o_div, o_un, o_lbin, o_lsh, o_lcmp, o_i2l, o_l2i, o_if, o_icmp, o_goto, o_dup, o_dup2, o_pop, fav, o_getf, o_putI, o_putZ, o_putL, o_ald, o_ast, o_alen, popn, rst, o_callV, o_callT, o_callS, swx, o_sw, o_ret, o_iret, o_zret, o_cret, o_lret, o_aret, lg, lput, lput2, ls1, isL, entL, wsum, rdI1, rdI2, rdA1, rdA21, rdA22, rdL1, rdL22, rdL21, upN_at, rep, sh_0, F_0_0, F_0_1, F_0_2, F_0_3, F_0_4, F_0_5, F_0_6, F_0_7, F_0_8, sh_1, F_1_0, F_1_1, F_1_2, F_1_3, F_1_4, F_1_5, sh_3, F_3_0, F_3_1, F_3_2, F_3_3, F_3_4, F_3_5, sh_5, F_5_0, F_5_1, F_5_2, F_5_3, F_5_4, F_5_5, F_5_6, F_5_7, F_5_8, sh_12, F_12_0, F_12_1, F_12_2, F_12_3, F_12_4, F_12_5, sh_14, F_14_0, F_14_1, F_14_2, F_14_3, F_14_4, F_14_5, F_14_6, F_14_7, F_14_8, sh_21, F_21_0, F_21_1, F_21_2, F_21_3, F_21_4, F_21_5, F_21_6, F_21_7, F_21_8, sh_28, F_28_0, F_28_1, F_28_2, F_28_3, F_28_4, F_28_5, F_28_6, F_28_7, F_28_8, sh_35, F_35_0, sh_39, F_39_0, F_39_1, F_39_2, F_39_3, F_39_4, F_39_5, F_39_6, F_39_7, F_39_8, F_39_9, F_39_10, F_39_11, F_39_12, F_39_13, A_2, A_4, A_6, A_7, A_8, A_9, A_10, A_11, A_13, A_15, A_16, A_17, A_18, A_19, A_20, A_22, A_23, A_24, A_25, A_26, A_27, A_29, A_30, A_31, A_32, A_33, A_34, A_36, A_37, A_38, A_40, A_41, A_42, A_43, A_44, A_45, A_46, A_47]
  refine ⟨x, rfl, fun q => ?_, fun q => ?_⟩
  · dsimp only [k_X4_back_0, k_X4_back_1, k_X4_back_4, k_X4_back_7, k_X4_back_8, k_X4_back_9, k_X4_back_10, k_X4_back_11, k_X4_back_14, k_X4_back_15, k_X4_back_16, k_X4_back_19, k_X4_back_22, k_X4_back_24, k_X4_back_25, k_X4_back_26, k_X4_back_29, k_X4_back_32, k_X4_back_33, k_X4_back_36, k_X4_back_37, k_X4_back_40, k_X4_back_43, k_X4_back_46, wp1, wp_s, cutIn, kont, Nat.reduceSub, Nat.reduceAdd, nth, o_const, o_lconst, o_ref, o_iload, o_lload, o_aload, o_istore, o_lstore, o_astore, o_iinc, o_bin, o_div, o_un, o_lbin, o_lsh, o_lcmp, o_i2l, o_l2i, o_if, o_icmp, o_goto, o_dup, o_dup2, o_pop, fav, o_getf, o_putI, o_putZ, o_putL, o_ald, o_ast, o_alen, popn, rst, o_callV, o_callT, o_callS, swx, o_sw, o_ret, o_iret, o_zret, o_cret, o_lret, o_aret, lg, lput, lput2, ls1, isL, entL, wsum, rdI1, rdI2, rdA1, rdA21, rdA22, rdL1, rdL22, rdL21, upN_at, rep, sh_0, F_0_0, F_0_1, F_0_2, F_0_3, F_0_4, F_0_5, F_0_6, F_0_7, F_0_8, sh_1, F_1_0, F_1_1, F_1_2, F_1_3, F_1_4, F_1_5, sh_3, F_3_0, F_3_1, F_3_2, F_3_3, F_3_4, F_3_5, sh_5, F_5_0, F_5_1, F_5_2, F_5_3, F_5_4, F_5_5, F_5_6, F_5_7, F_5_8, sh_12, F_12_0, F_12_1, F_12_2, F_12_3, F_12_4, F_12_5, sh_14, F_14_0, F_14_1, F_14_2, F_14_3, F_14_4, F_14_5, F_14_6, F_14_7, F_14_8, sh_21, F_21_0, F_21_1, F_21_2, F_21_3, F_21_4, F_21_5, F_21_6, F_21_7, F_21_8, sh_28, F_28_0, F_28_1, F_28_2, F_28_3, F_28_4, F_28_5, F_28_6, F_28_7, F_28_8, sh_35, F_35_0, sh_39, F_39_0, F_39_1, F_39_2, F_39_3, F_39_4, F_39_5, F_39_6, F_39_7, F_39_8, F_39_9, F_39_10, F_39_11, F_39_12, F_39_13, A_2, A_4, A_6, A_7, A_8, A_9, A_10, A_11, A_13, A_15, A_16, A_17, A_18, A_19, A_20, A_22, A_23, A_24, A_25, A_26, A_27, A_29, A_30, A_31, A_32, A_33, A_34, A_36, A_37, A_38, A_40, A_41, A_42, A_43, A_44, A_45, A_46, A_47]
    refine ⟨fun q2 => absurd q2 (by decide), fun _ => ⟨x, rfl, fun q2 => ?_, fun q2 => ?_⟩⟩
    · dsimp only [k_X4_back_0, k_X4_back_1, k_X4_back_4, k_X4_back_7, k_X4_back_8, k_X4_back_9, k_X4_back_10, k_X4_back_11, k_X4_back_14, k_X4_back_15, k_X4_back_16, k_X4_back_19, k_X4_back_22, k_X4_back_24, k_X4_back_25, k_X4_back_26, k_X4_back_29, k_X4_back_32, k_X4_back_33, k_X4_back_36, k_X4_back_37, k_X4_back_40, k_X4_back_43, k_X4_back_46, wp1, wp_s, cutIn, kont, Nat.reduceSub, Nat.reduceAdd, nth, o_const, o_lconst, o_ref, o_iload, o_lload, o_aload, o_istore, o_lstore, o_astore, o_iinc, o_bin, o_div, o_un, o_lbin, o_lsh, o_lcmp, o_i2l, o_l2i, o_if, o_icmp, o_goto, o_dup, o_dup2, o_pop, fav, o_getf, o_putI, o_putZ, o_putL, o_ald, o_ast, o_alen, popn, rst, o_callV, o_callT, o_callS, swx, o_sw, o_ret, o_iret, o_zret, o_cret, o_lret, o_aret, lg, lput, lput2, ls1, isL, entL, wsum, rdI1, rdI2, rdA1, rdA21, rdA22, rdL1, rdL22, rdL21, upN_at, rep, sh_0, F_0_0, F_0_1, F_0_2, F_0_3, F_0_4, F_0_5, F_0_6, F_0_7, F_0_8, sh_1, F_1_0, F_1_1, F_1_2, F_1_3, F_1_4, F_1_5, sh_3, F_3_0, F_3_1, F_3_2, F_3_3, F_3_4, F_3_5, sh_5, F_5_0, F_5_1, F_5_2, F_5_3, F_5_4, F_5_5, F_5_6, F_5_7, F_5_8, sh_12, F_12_0, F_12_1, F_12_2, F_12_3, F_12_4, F_12_5, sh_14, F_14_0, F_14_1, F_14_2, F_14_3, F_14_4, F_14_5, F_14_6, F_14_7, F_14_8, sh_21, F_21_0, F_21_1, F_21_2, F_21_3, F_21_4, F_21_5, F_21_6, F_21_7, F_21_8, sh_28, F_28_0, F_28_1, F_28_2, F_28_3, F_28_4, F_28_5, F_28_6, F_28_7, F_28_8, sh_35, F_35_0, sh_39, F_39_0, F_39_1, F_39_2, F_39_3, F_39_4, F_39_5, F_39_6, F_39_7, F_39_8, F_39_9, F_39_10, F_39_11, F_39_12, F_39_13, A_2, A_4, A_6, A_7, A_8, A_9, A_10, A_11, A_13, A_15, A_16, A_17, A_18, A_19, A_20, A_22, A_23, A_24, A_25, A_26, A_27, A_29, A_30, A_31, A_32, A_33, A_34, A_36, A_37, A_38, A_40, A_41, A_42, A_43, A_44, A_45, A_46, A_47]
      refine ⟨fun q3 => h2 q2 q3, fun q3 => ?_⟩
      refine ⟨_, _, 4, 17, 9, 19, rfl, by simp, ?_⟩
      dsimp only [k_X4_back_0, k_X4_back_1, k_X4_back_4, k_X4_back_7, k_X4_back_8, k_X4_back_9, k_X4_back_10, k_X4_back_11, k_X4_back_14, k_X4_back_15, k_X4_back_16, k_X4_back_19, k_X4_back_22, k_X4_back_24, k_X4_back_25, k_X4_back_26, k_X4_back_29, k_X4_back_32, k_X4_back_33, k_X4_back_36, k_X4_back_37, k_X4_back_40, k_X4_back_43, k_X4_back_46, wp1, wp_s, cutIn, kont, Nat.reduceSub, Nat.reduceAdd, nth, o_const, o_lconst, o_ref, o_iload, o_lload, o_aload, o_istore, o_lstore, o_astore, o_iinc, o_bin, o_div, o_un, o_lbin, o_lsh, o_lcmp, o_i2l, o_l2i, o_if, o_icmp, o_goto, o_dup, o_dup2, o_pop, fav, o_getf, o_putI, o_putZ, o_putL, o_ald, o_ast, o_alen, popn, rst, o_callV, o_callT, o_callS, swx, o_sw, o_ret, o_iret, o_zret, o_cret, o_lret, o_aret, lg, lput, lput2, ls1, isL, entL, wsum, rdI1, rdI2, rdA1, rdA21, rdA22, rdL1, rdL22, rdL21, upN_at, rep, sh_0, F_0_0, F_0_1, F_0_2, F_0_3, F_0_4, F_0_5, F_0_6, F_0_7, F_0_8, sh_1, F_1_0, F_1_1, F_1_2, F_1_3, F_1_4, F_1_5, sh_3, F_3_0, F_3_1, F_3_2, F_3_3, F_3_4, F_3_5, sh_5, F_5_0, F_5_1, F_5_2, F_5_3, F_5_4, F_5_5, F_5_6, F_5_7, F_5_8, sh_12, F_12_0, F_12_1, F_12_2, F_12_3, F_12_4, F_12_5, sh_14, F_14_0, F_14_1, F_14_2, F_14_3, F_14_4, F_14_5, F_14_6, F_14_7, F_14_8, sh_21, F_21_0, F_21_1, F_21_2, F_21_3, F_21_4, F_21_5, F_21_6, F_21_7, F_21_8, sh_28, F_28_0, F_28_1, F_28_2, F_28_3, F_28_4, F_28_5, F_28_6, F_28_7, F_28_8, sh_35, F_35_0, sh_39, F_39_0, F_39_1, F_39_2, F_39_3, F_39_4, F_39_5, F_39_6, F_39_7, F_39_8, F_39_9, F_39_10, F_39_11, F_39_12, F_39_13, A_2, A_4, A_6, A_7, A_8, A_9, A_10, A_11, A_13, A_15, A_16, A_17, A_18, A_19, A_20, A_22, A_23, A_24, A_25, A_26, A_27, A_29, A_30, A_31, A_32, A_33, A_34, A_36, A_37, A_38, A_40, A_41, A_42, A_43, A_44, A_45, A_46, A_47]
      exact h4 q2 q3
    · have q4 := q.elim (fun q3 => absurd q3 q2) id
      dsimp only [k_X4_back_0, k_X4_back_1, k_X4_back_4, k_X4_back_7, k_X4_back_8, k_X4_back_9, k_X4_back_10, k_X4_back_11, k_X4_back_14, k_X4_back_15, k_X4_back_16, k_X4_back_19, k_X4_back_22, k_X4_back_24, k_X4_back_25, k_X4_back_26, k_X4_back_29, k_X4_back_32, k_X4_back_33, k_X4_back_36, k_X4_back_37, k_X4_back_40, k_X4_back_43, k_X4_back_46, wp1, wp_s, cutIn, kont, Nat.reduceSub, Nat.reduceAdd, nth, o_const, o_lconst, o_ref, o_iload, o_lload, o_aload, o_istore, o_lstore, o_astore, o_iinc, o_bin, o_div, o_un, o_lbin, o_lsh, o_lcmp, o_i2l, o_l2i, o_if, o_icmp, o_goto, o_dup, o_dup2, o_pop, fav, o_getf, o_putI, o_putZ, o_putL, o_ald, o_ast, o_alen, popn, rst, o_callV, o_callT, o_callS, swx, o_sw, o_ret, o_iret, o_zret, o_cret, o_lret, o_aret, lg, lput, lput2, ls1, isL, entL, wsum, rdI1, rdI2, rdA1, rdA21, rdA22, rdL1, rdL22, rdL21, upN_at, rep, sh_0, F_0_0, F_0_1, F_0_2, F_0_3, F_0_4, F_0_5, F_0_6, F_0_7, F_0_8, sh_1, F_1_0, F_1_1, F_1_2, F_1_3, F_1_4, F_1_5, sh_3, F_3_0, F_3_1, F_3_2, F_3_3, F_3_4, F_3_5, sh_5, F_5_0, F_5_1, F_5_2, F_5_3, F_5_4, F_5_5, F_5_6, F_5_7, F_5_8, sh_12, F_12_0, F_12_1, F_12_2, F_12_3, F_12_4, F_12_5, sh_14, F_14_0, F_14_1, F_14_2, F_14_3, F_14_4, F_14_5, F_14_6, F_14_7, F_14_8, sh_21, F_21_0, F_21_1, F_21_2, F_21_3, F_21_4, F_21_5, F_21_6, F_21_7, F_21_8, sh_28, F_28_0, F_28_1, F_28_2, F_28_3, F_28_4, F_28_5, F_28_6, F_28_7, F_28_8, sh_35, F_35_0, sh_39, F_39_0, F_39_1, F_39_2, F_39_3, F_39_4, F_39_5, F_39_6, F_39_7, F_39_8, F_39_9, F_39_10, F_39_11, F_39_12, F_39_13, A_2, A_4, A_6, A_7, A_8, A_9, A_10, A_11, A_13, A_15, A_16, A_17, A_18, A_19, A_20, A_22, A_23, A_24, A_25, A_26, A_27, A_29, A_30, A_31, A_32, A_33, A_34, A_36, A_37, A_38, A_40, A_41, A_42, A_43, A_44, A_45, A_46, A_47]
      refine ⟨fun q3 => h3 q4 q3, fun q3 => ?_⟩
      refine ⟨_, _, 4, 23, 9, 22, rfl, by simp, ?_⟩
      dsimp only [k_X4_back_0, k_X4_back_1, k_X4_back_4, k_X4_back_7, k_X4_back_8, k_X4_back_9, k_X4_back_10, k_X4_back_11, k_X4_back_14, k_X4_back_15, k_X4_back_16, k_X4_back_19, k_X4_back_22, k_X4_back_24, k_X4_back_25, k_X4_back_26, k_X4_back_29, k_X4_back_32, k_X4_back_33, k_X4_back_36, k_X4_back_37, k_X4_back_40, k_X4_back_43, k_X4_back_46, wp1, wp_s, cutIn, kont, Nat.reduceSub, Nat.reduceAdd, nth, o_const, o_lconst, o_ref, o_iload, o_lload, o_aload, o_istore, o_lstore, o_astore, o_iinc, o_bin, o_div, o_un, o_lbin, o_lsh, o_lcmp, o_i2l, o_l2i, o_if, o_icmp, o_goto, o_dup, o_dup2, o_pop, fav, o_getf, o_putI, o_putZ, o_putL, o_ald, o_ast, o_alen, popn, rst, o_callV, o_callT, o_callS, swx, o_sw, o_ret, o_iret, o_zret, o_cret, o_lret, o_aret, lg, lput, lput2, ls1, isL, entL, wsum, rdI1, rdI2, rdA1, rdA21, rdA22, rdL1, rdL22, rdL21, upN_at, rep, sh_0, F_0_0, F_0_1, F_0_2, F_0_3, F_0_4, F_0_5, F_0_6, F_0_7, F_0_8, sh_1, F_1_0, F_1_1, F_1_2, F_1_3, F_1_4, F_1_5, sh_3, F_3_0, F_3_1, F_3_2, F_3_3, F_3_4, F_3_5, sh_5, F_5_0, F_5_1, F_5_2, F_5_3, F_5_4, F_5_5, F_5_6, F_5_7, F_5_8, sh_12, F_12_0, F_12_1, F_12_2, F_12_3, F_12_4, F_12_5, sh_14, F_14_0, F_14_1, F_14_2, F_14_3, F_14_4, F_14_5, F_14_6, F_14_7, F_14_8, sh_21, F_21_0, F_21_1, F_21_2, F_21_3, F_21_4, F_21_5, F_21_6, F_21_7, F_21_8, sh_28, F_28_0, F_28_1, F_28_2, F_28_3, F_28_4, F_28_5, F_28_6, F_28_7, F_28_8, sh_35, F_35_0, sh_39, F_39_0, F_39_1, F_39_2, F_39_3, F_39_4, F_39_5, F_39_6, F_39_7, F_39_8, F_39_9, F_39_10, F_39_11, F_39_12, F_39_13, A_2, A_4, A_6, A_7, A_8, A_9, A_10, A_11, A_13, A_15, A_16, A_17, A_18, A_19, A_20, A_22, A_23, A_24, A_25, A_26, A_27, A_29, A_30, A_31, A_32, A_33, A_34, A_36, A_37, A_38, A_40, A_41, A_42, A_43, A_44, A_45, A_46, A_47]
      exact h5 q4 q3
  · dsimp only [k_X4_back_0, k_X4_back_1, k_X4_back_4, k_X4_back_7, k_X4_back_8, k_X4_back_9, k_X4_back_10, k_X4_back_11, k_X4_back_14, k_X4_back_15, k_X4_back_16, k_X4_back_19, k_X4_back_22, k_X4_back_24, k_X4_back_25, k_X4_back_26, k_X4_back_29, k_X4_back_32, k_X4_back_33, k_X4_back_36, k_X4_back_37, k_X4_back_40, k_X4_back_43, k_X4_back_46, wp1, wp_s, cutIn, kont, Nat.reduceSub, Nat.reduceAdd, nth, o_const, o_lconst, o_ref, o_iload, o_lload, o_aload, o_istore, o_lstore, o_astore, o_iinc, o_bin, o_div, o_un, o_lbin, o_lsh, o_lcmp, o_i2l, o_l2i, o_if, o_icmp, o_goto, o_dup, o_dup2, o_pop, fav, o_getf, o_putI, o_putZ, o_putL, o_ald, o_ast, o_alen, popn, rst, o_callV, o_callT, o_callS, swx, o_sw, o_ret, o_iret, o_zret, o_cret, o_lret, o_aret, lg, lput, lput2, ls1, isL, entL, wsum, rdI1, rdI2, rdA1, rdA21, rdA22, rdL1, rdL22, rdL21, upN_at, rep, sh_0, F_0_0, F_0_1, F_0_2, F_0_3, F_0_4, F_0_5, F_0_6, F_0_7, F_0_8, sh_1, F_1_0, F_1_1, F_1_2, F_1_3, F_1_4, F_1_5, sh_3, F_3_0, F_3_1, F_3_2, F_3_3, F_3_4, F_3_5, sh_5, F_5_0, F_5_1, F_5_2, F_5_3, F_5_4, F_5_5, F_5_6, F_5_7, F_5_8, sh_12, F_12_0, F_12_1, F_12_2, F_12_3, F_12_4, F_12_5, sh_14, F_14_0, F_14_1, F_14_2, F_14_3, F_14_4, F_14_5, F_14_6, F_14_7, F_14_8, sh_21, F_21_0, F_21_1, F_21_2, F_21_3, F_21_4, F_21_5, F_21_6, F_21_7, F_21_8, sh_28, F_28_0, F_28_1, F_28_2, F_28_3, F_28_4, F_28_5, F_28_6, F_28_7, F_28_8, sh_35, F_35_0, sh_39, F_39_0, F_39_1, F_39_2, F_39_3, F_39_4, F_39_5, F_39_6, F_39_7, F_39_8, F_39_9, F_39_10, F_39_11, F_39_12, F_39_13, A_2, A_4, A_6, A_7, A_8, A_9, A_10, A_11, A_13, A_15, A_16, A_17, A_18, A_19, A_20, A_22, A_23, A_24, A_25, A_26, A_27, A_29, A_30, A_31, A_32, A_33, A_34, A_36, A_37, A_38, A_40, A_41, A_42, A_43, A_44, A_45, A_46, A_47]
    exact ⟨fun _ => h1 q, fun q2 => absurd rfl q2⟩
set_option maxRecDepth 100000 in
theorem v_X4_count : ∀ as M post, S_X4_count as M post → wsum as ≤ 2 ∧ RUN (T_X4_count post) 0 (entL 2 as) [] M := by
  rintro as M post ⟨x, n, c, p, r, h0, lk, rfl, hX, h0', h1, h2, h3, h4, h5, h6, h7⟩
  obtain ⟨hn, hn8, hc, hc6, hp, hp4, hr, hhk, hl⟩ := hX
  have hk3 := kB_lt h0 hn8 (-3)
  have hk4 := kB_lt h0 hn8 (-4)
  refine ⟨by show 2 ≤ 2; omega, run_wp 60 ?_⟩
  dsimp only [k_X4_count_0, k_X4_count_1, k_X4_count_44, k_X4_count_45, k_X4_count_48, k_X4_count_51, k_X4_count_54, k_X4_count_55, k_X4_count_56, k_X4_count_59, k_X4_count_62, k_X4_count_63, k_X4_count_64, k_X4_count_67, k_X4_count_70, k_X4_count_71, k_X4_count_72, k_X4_count_75, k_X4_count_78, k_X4_count_80, k_X4_count_83, k_X4_count_86, k_X4_count_87, k_X4_count_88, k_X4_count_91, k_X4_count_94, k_X4_count_96, k_X4_count_99, k_X4_count_102, k_X4_count_103, k_X4_count_104, k_X4_count_107, k_X4_count_110, k_X4_count_113, k_X4_count_114, k_X4_count_115, k_X4_count_118, k_X4_count_121, k_X4_count_122, k_X4_count_123, wp1, wp_s, cutIn, kont, Nat.reduceSub, Nat.reduceAdd, nth, o_const, o_lconst, o_ref, o_iload, o_lload, o_aload, o_istore, o_lstore, o_astore, o_iinc, o_bin, o_div, o_un, o_lbin, o_lsh, o_lcmp, o_i2l, o_l2i, o_if, o_icmp, o_goto, o_dup, o_dup2, o_pop, fav, o_getf, o_putI, o_putZ, o_putL, o_ald, o_ast, o_alen, popn, rst, o_callV, o_callT, o_callS, swx, o_sw, o_ret, o_iret, o_zret, o_cret, o_lret, o_aret, lg, lput, lput2, ls1, isL, entL, wsum, rdI1, rdI2, rdA1, rdA21, rdA22, rdL1, rdL22, rdL21, upN_at, rep, sh_0, F_0_0, F_0_1, F_0_2, F_0_3, F_0_4, F_0_5, F_0_6, F_0_7, F_0_8, sh_1, F_1_0, F_1_1, F_1_2, F_1_3, F_1_4, F_1_5, sh_3, F_3_0, F_3_1, F_3_2, F_3_3, F_3_4, F_3_5, sh_5, F_5_0, F_5_1, F_5_2, F_5_3, F_5_4, F_5_5, F_5_6, F_5_7, F_5_8, sh_12, F_12_0, F_12_1, F_12_2, F_12_3, F_12_4, F_12_5, sh_14, F_14_0, F_14_1, F_14_2, F_14_3, F_14_4, F_14_5, F_14_6, F_14_7, F_14_8, sh_21, F_21_0, F_21_1, F_21_2, F_21_3, F_21_4, F_21_5, F_21_6, F_21_7, F_21_8, sh_28, F_28_0, F_28_1, F_28_2, F_28_3, F_28_4, F_28_5, F_28_6, F_28_7, F_28_8, sh_35, F_35_0, sh_39, F_39_0, F_39_1, F_39_2, F_39_3, F_39_4, F_39_5, F_39_6, F_39_7, F_39_8, F_39_9, F_39_10, F_39_11, F_39_12, F_39_13, A_2, A_4, A_6, A_7, A_8, A_9, A_10, A_11, A_13, A_15, A_16, A_17, A_18, A_19, A_20, A_22, A_23, A_24, A_25, A_26, A_27, A_29, A_30, A_31, A_32, A_33, A_34, A_36, A_37, A_38, A_40, A_41, A_42, A_43, A_44, A_45, A_46, A_47]
  rw [hn, hc, hp]
  refine ⟨h0', fun q0 => ⟨h1, fun q1 => ⟨h2, fun q2 => ⟨fun q => ?_, fun q3 => ⟨fun q => ?_, fun q4 => ⟨h5, fun q5 => ⟨h6, fun q6 => h7 fun q7 => ?_⟩⟩⟩⟩⟩⟩⟩
  · refine ⟨-4, n, rfl, hn, hn8, ?_⟩
    rw [show mk (fun k => M.2.2 3 k == -4) n = kB h0 n (-4) from kB_e hhk (-4)]
    dsimp only [k_X4_count_0, k_X4_count_1, k_X4_count_44, k_X4_count_45, k_X4_count_48, k_X4_count_51, k_X4_count_54, k_X4_count_55, k_X4_count_56, k_X4_count_59, k_X4_count_62, k_X4_count_63, k_X4_count_64, k_X4_count_67, k_X4_count_70, k_X4_count_71, k_X4_count_72, k_X4_count_75, k_X4_count_78, k_X4_count_80, k_X4_count_83, k_X4_count_86, k_X4_count_87, k_X4_count_88, k_X4_count_91, k_X4_count_94, k_X4_count_96, k_X4_count_99, k_X4_count_102, k_X4_count_103, k_X4_count_104, k_X4_count_107, k_X4_count_110, k_X4_count_113, k_X4_count_114, k_X4_count_115, k_X4_count_118, k_X4_count_121, k_X4_count_122, k_X4_count_123, wp1, wp_s, cutIn, kont, Nat.reduceSub, Nat.reduceAdd, nth, o_const, o_lconst, o_ref, o_iload, o_lload, o_aload, o_istore, o_lstore, o_astore, o_iinc, o_bin, o_div, o_un, o_lbin, o_lsh, o_lcmp, o_i2l, o_l2i, o_if, o_icmp, o_goto, o_dup, o_dup2, o_pop, fav, o_getf, o_putI, o_putZ, o_putL, o_ald, o_ast, o_alen, popn, rst, o_callV, o_callT, o_callS, swx, o_sw, o_ret, o_iret, o_zret, o_cret, o_lret, o_aret, lg, lput, lput2, ls1, isL, entL, wsum, rdI1, rdI2, rdA1, rdA21, rdA22, rdL1, rdL22, rdL21, upN_at, rep, sh_0, F_0_0, F_0_1, F_0_2, F_0_3, F_0_4, F_0_5, F_0_6, F_0_7, F_0_8, sh_1, F_1_0, F_1_1, F_1_2, F_1_3, F_1_4, F_1_5, sh_3, F_3_0, F_3_1, F_3_2, F_3_3, F_3_4, F_3_5, sh_5, F_5_0, F_5_1, F_5_2, F_5_3, F_5_4, F_5_5, F_5_6, F_5_7, F_5_8, sh_12, F_12_0, F_12_1, F_12_2, F_12_3, F_12_4, F_12_5, sh_14, F_14_0, F_14_1, F_14_2, F_14_3, F_14_4, F_14_5, F_14_6, F_14_7, F_14_8, sh_21, F_21_0, F_21_1, F_21_2, F_21_3, F_21_4, F_21_5, F_21_6, F_21_7, F_21_8, sh_28, F_28_0, F_28_1, F_28_2, F_28_3, F_28_4, F_28_5, F_28_6, F_28_7, F_28_8, sh_35, F_35_0, sh_39, F_39_0, F_39_1, F_39_2, F_39_3, F_39_4, F_39_5, F_39_6, F_39_7, F_39_8, F_39_9, F_39_10, F_39_11, F_39_12, F_39_13, A_2, A_4, A_6, A_7, A_8, A_9, A_10, A_11, A_13, A_15, A_16, A_17, A_18, A_19, A_20, A_22, A_23, A_24, A_25, A_26, A_27, A_29, A_30, A_31, A_32, A_33, A_34, A_36, A_37, A_38, A_40, A_41, A_42, A_43, A_44, A_45, A_46, A_47]
    refine ⟨_, rfl, by omega, ?_⟩
    dsimp only [k_X4_count_0, k_X4_count_1, k_X4_count_44, k_X4_count_45, k_X4_count_48, k_X4_count_51, k_X4_count_54, k_X4_count_55, k_X4_count_56, k_X4_count_59, k_X4_count_62, k_X4_count_63, k_X4_count_64, k_X4_count_67, k_X4_count_70, k_X4_count_71, k_X4_count_72, k_X4_count_75, k_X4_count_78, k_X4_count_80, k_X4_count_83, k_X4_count_86, k_X4_count_87, k_X4_count_88, k_X4_count_91, k_X4_count_94, k_X4_count_96, k_X4_count_99, k_X4_count_102, k_X4_count_103, k_X4_count_104, k_X4_count_107, k_X4_count_110, k_X4_count_113, k_X4_count_114, k_X4_count_115, k_X4_count_118, k_X4_count_121, k_X4_count_122, k_X4_count_123, wp1, wp_s, cutIn, kont, Nat.reduceSub, Nat.reduceAdd, nth, o_const, o_lconst, o_ref, o_iload, o_lload, o_aload, o_istore, o_lstore, o_astore, o_iinc, o_bin, o_div, o_un, o_lbin, o_lsh, o_lcmp, o_i2l, o_l2i, o_if, o_icmp, o_goto, o_dup, o_dup2, o_pop, fav, o_getf, o_putI, o_putZ, o_putL, o_ald, o_ast, o_alen, popn, rst, o_callV, o_callT, o_callS, swx, o_sw, o_ret, o_iret, o_zret, o_cret, o_lret, o_aret, lg, lput, lput2, ls1, isL, entL, wsum, rdI1, rdI2, rdA1, rdA21, rdA22, rdL1, rdL22, rdL21, upN_at, rep, sh_0, F_0_0, F_0_1, F_0_2, F_0_3, F_0_4, F_0_5, F_0_6, F_0_7, F_0_8, sh_1, F_1_0, F_1_1, F_1_2, F_1_3, F_1_4, F_1_5, sh_3, F_3_0, F_3_1, F_3_2, F_3_3, F_3_4, F_3_5, sh_5, F_5_0, F_5_1, F_5_2, F_5_3, F_5_4, F_5_5, F_5_6, F_5_7, F_5_8, sh_12, F_12_0, F_12_1, F_12_2, F_12_3, F_12_4, F_12_5, sh_14, F_14_0, F_14_1, F_14_2, F_14_3, F_14_4, F_14_5, F_14_6, F_14_7, F_14_8, sh_21, F_21_0, F_21_1, F_21_2, F_21_3, F_21_4, F_21_5, F_21_6, F_21_7, F_21_8, sh_28, F_28_0, F_28_1, F_28_2, F_28_3, F_28_4, F_28_5, F_28_6, F_28_7, F_28_8, sh_35, F_35_0, sh_39, F_39_0, F_39_1, F_39_2, F_39_3, F_39_4, F_39_5, F_39_6, F_39_7, F_39_8, F_39_9, F_39_10, F_39_11, F_39_12, F_39_13, A_2, A_4, A_6, A_7, A_8, A_9, A_10, A_11, A_13, A_15, A_16, A_17, A_18, A_19, A_20, A_22, A_23, A_24, A_25, A_26, A_27, A_29, A_30, A_31, A_32, A_33, A_34, A_36, A_37, A_38, A_40, A_41, A_42, A_43, A_44, A_45, A_46, A_47]
    exact h3 q
  · refine ⟨-3, n, rfl, hn, hn8, ?_⟩
    rw [show mk (fun k => M.2.2 3 k == -3) n = kB h0 n (-3) from kB_e hhk (-3)]
    dsimp only [k_X4_count_0, k_X4_count_1, k_X4_count_44, k_X4_count_45, k_X4_count_48, k_X4_count_51, k_X4_count_54, k_X4_count_55, k_X4_count_56, k_X4_count_59, k_X4_count_62, k_X4_count_63, k_X4_count_64, k_X4_count_67, k_X4_count_70, k_X4_count_71, k_X4_count_72, k_X4_count_75, k_X4_count_78, k_X4_count_80, k_X4_count_83, k_X4_count_86, k_X4_count_87, k_X4_count_88, k_X4_count_91, k_X4_count_94, k_X4_count_96, k_X4_count_99, k_X4_count_102, k_X4_count_103, k_X4_count_104, k_X4_count_107, k_X4_count_110, k_X4_count_113, k_X4_count_114, k_X4_count_115, k_X4_count_118, k_X4_count_121, k_X4_count_122, k_X4_count_123, wp1, wp_s, cutIn, kont, Nat.reduceSub, Nat.reduceAdd, nth, o_const, o_lconst, o_ref, o_iload, o_lload, o_aload, o_istore, o_lstore, o_astore, o_iinc, o_bin, o_div, o_un, o_lbin, o_lsh, o_lcmp, o_i2l, o_l2i, o_if, o_icmp, o_goto, o_dup, o_dup2, o_pop, fav, o_getf, o_putI, o_putZ, o_putL, o_ald, o_ast, o_alen, popn, rst, o_callV, o_callT, o_callS, swx, o_sw, o_ret, o_iret, o_zret, o_cret, o_lret, o_aret, lg, lput, lput2, ls1, isL, entL, wsum, rdI1, rdI2, rdA1, rdA21, rdA22, rdL1, rdL22, rdL21, upN_at, rep, sh_0, F_0_0, F_0_1, F_0_2, F_0_3, F_0_4, F_0_5, F_0_6, F_0_7, F_0_8, sh_1, F_1_0, F_1_1, F_1_2, F_1_3, F_1_4, F_1_5, sh_3, F_3_0, F_3_1, F_3_2, F_3_3, F_3_4, F_3_5, sh_5, F_5_0, F_5_1, F_5_2, F_5_3, F_5_4, F_5_5, F_5_6, F_5_7, F_5_8, sh_12, F_12_0, F_12_1, F_12_2, F_12_3, F_12_4, F_12_5, sh_14, F_14_0, F_14_1, F_14_2, F_14_3, F_14_4, F_14_5, F_14_6, F_14_7, F_14_8, sh_21, F_21_0, F_21_1, F_21_2, F_21_3, F_21_4, F_21_5, F_21_6, F_21_7, F_21_8, sh_28, F_28_0, F_28_1, F_28_2, F_28_3, F_28_4, F_28_5, F_28_6, F_28_7, F_28_8, sh_35, F_35_0, sh_39, F_39_0, F_39_1, F_39_2, F_39_3, F_39_4, F_39_5, F_39_6, F_39_7, F_39_8, F_39_9, F_39_10, F_39_11, F_39_12, F_39_13, A_2, A_4, A_6, A_7, A_8, A_9, A_10, A_11, A_13, A_15, A_16, A_17, A_18, A_19, A_20, A_22, A_23, A_24, A_25, A_26, A_27, A_29, A_30, A_31, A_32, A_33, A_34, A_36, A_37, A_38, A_40, A_41, A_42, A_43, A_44, A_45, A_46, A_47]
    refine ⟨_, rfl, by omega, ?_⟩
    dsimp only [k_X4_count_0, k_X4_count_1, k_X4_count_44, k_X4_count_45, k_X4_count_48, k_X4_count_51, k_X4_count_54, k_X4_count_55, k_X4_count_56, k_X4_count_59, k_X4_count_62, k_X4_count_63, k_X4_count_64, k_X4_count_67, k_X4_count_70, k_X4_count_71, k_X4_count_72, k_X4_count_75, k_X4_count_78, k_X4_count_80, k_X4_count_83, k_X4_count_86, k_X4_count_87, k_X4_count_88, k_X4_count_91, k_X4_count_94, k_X4_count_96, k_X4_count_99, k_X4_count_102, k_X4_count_103, k_X4_count_104, k_X4_count_107, k_X4_count_110, k_X4_count_113, k_X4_count_114, k_X4_count_115, k_X4_count_118, k_X4_count_121, k_X4_count_122, k_X4_count_123, wp1, wp_s, cutIn, kont, Nat.reduceSub, Nat.reduceAdd, nth, o_const, o_lconst, o_ref, o_iload, o_lload, o_aload, o_istore, o_lstore, o_astore, o_iinc, o_bin, o_div, o_un, o_lbin, o_lsh, o_lcmp, o_i2l, o_l2i, o_if, o_icmp, o_goto, o_dup, o_dup2, o_pop, fav, o_getf, o_putI, o_putZ, o_putL, o_ald, o_ast, o_alen, popn, rst, o_callV, o_callT, o_callS, swx, o_sw, o_ret, o_iret, o_zret, o_cret, o_lret, o_aret, lg, lput, lput2, ls1, isL, entL, wsum, rdI1, rdI2, rdA1, rdA21, rdA22, rdL1, rdL22, rdL21, upN_at, rep, sh_0, F_0_0, F_0_1, F_0_2, F_0_3, F_0_4, F_0_5, F_0_6, F_0_7, F_0_8, sh_1, F_1_0, F_1_1, F_1_2, F_1_3, F_1_4, F_1_5, sh_3, F_3_0, F_3_1, F_3_2, F_3_3, F_3_4, F_3_5, sh_5, F_5_0, F_5_1, F_5_2, F_5_3, F_5_4, F_5_5, F_5_6, F_5_7, F_5_8, sh_12, F_12_0, F_12_1, F_12_2, F_12_3, F_12_4, F_12_5, sh_14, F_14_0, F_14_1, F_14_2, F_14_3, F_14_4, F_14_5, F_14_6, F_14_7, F_14_8, sh_21, F_21_0, F_21_1, F_21_2, F_21_3, F_21_4, F_21_5, F_21_6, F_21_7, F_21_8, sh_28, F_28_0, F_28_1, F_28_2, F_28_3, F_28_4, F_28_5, F_28_6, F_28_7, F_28_8, sh_35, F_35_0, sh_39, F_39_0, F_39_1, F_39_2, F_39_3, F_39_4, F_39_5, F_39_6, F_39_7, F_39_8, F_39_9, F_39_10, F_39_11, F_39_12, F_39_13, A_2, A_4, A_6, A_7, A_8, A_9, A_10, A_11, A_13, A_15, A_16, A_17, A_18, A_19, A_20, A_22, A_23, A_24, A_25, A_26, A_27, A_29, A_30, A_31, A_32, A_33, A_34, A_36, A_37, A_38, A_40, A_41, A_42, A_43, A_44, A_45, A_46, A_47]
    exact h4 q
  · obtain ⟨k, rfl, hk⟩ := rg (n := 7) (by omega) q7
    have : k = 0 ∨ k = 1 ∨ k = 2 ∨ k = 3 ∨ k = 4 ∨ k = 5 ∨ k = 6 := by omega
    rcases this with rfl | rfl | rfl | rfl | rfl | rfl | rfl
    · exact q0 rfl
    · exact q1 rfl
    · exact q2 rfl
    · exact q3 rfl
    · exact q4 rfl
    · exact q5 rfl
    · exact q6 rfl
set_option maxRecDepth 100000 in
theorem v_X4_rate : ∀ as M post, S_X4_rate as M post → wsum as ≤ 3 ∧ RUN (T_X4_rate post) 0 (entL 3 as) [] M := by
  rintro as M post ⟨y, x, n, c, p, r, h0, lk, rfl, hX, h1, h2⟩
  have hX0 := hX
  obtain ⟨hn, hn8, hc, hc6, hp, hp4, hr, hhk, hl⟩ := hX
  refine ⟨by show 3 ≤ 3; omega, run_wp 60 ?_⟩
  dsimp only [k_X4_rate_0, k_X4_rate_1, k_X4_rate_4, k_X4_rate_5, k_X4_rate_8, k_X4_rate_11, k_X4_rate_13, k_X4_rate_14, k_X4_rate_15, k_X4_rate_52, k_X4_rate_53, k_X4_rate_54, k_X4_rate_57, k_X4_rate_58, k_X4_rate_59, k_X4_rate_60, k_X4_rate_63, k_X4_rate_64, k_X4_rate_65, k_X4_rate_66, k_X4_rate_69, k_X4_rate_70, k_X4_rate_71, k_X4_rate_72, k_X4_rate_75, k_X4_rate_76, k_X4_rate_77, k_X4_rate_78, k_X4_rate_81, k_X4_rate_82, k_X4_rate_83, k_X4_rate_84, k_X4_rate_87, k_X4_rate_88, k_X4_rate_90, wp1, wp_s, cutIn, kont, Nat.reduceSub, Nat.reduceAdd, nth, o_const, o_lconst, o_ref, o_iload, o_lload, o_aload, o_istore, o_lstore, o_astore, o_iinc, o_bin, o_div, o_un, o_lbin, o_lsh, o_lcmp, o_i2l, o_l2i, o_if, o_icmp, o_goto, o_dup, o_dup2, o_pop, fav, o_getf, o_putI, o_putZ, o_putL, o_ald, o_ast, o_alen, popn, rst, o_callV, o_callT, o_callS, swx, o_sw, o_ret, o_iret, o_zret, o_cret, o_lret, o_aret, lg, lput, lput2, ls1, isL, entL, wsum, rdI1, rdI2, rdA1, rdA21, rdA22, rdL1, rdL22, rdL21, upN_at, rep, sh_0, F_0_0, F_0_1, F_0_2, F_0_3, F_0_4, F_0_5, F_0_6, F_0_7, F_0_8, sh_1, F_1_0, F_1_1, F_1_2, F_1_3, F_1_4, F_1_5, sh_3, F_3_0, F_3_1, F_3_2, F_3_3, F_3_4, F_3_5, sh_5, F_5_0, F_5_1, F_5_2, F_5_3, F_5_4, F_5_5, F_5_6, F_5_7, F_5_8, sh_12, F_12_0, F_12_1, F_12_2, F_12_3, F_12_4, F_12_5, sh_14, F_14_0, F_14_1, F_14_2, F_14_3, F_14_4, F_14_5, F_14_6, F_14_7, F_14_8, sh_21, F_21_0, F_21_1, F_21_2, F_21_3, F_21_4, F_21_5, F_21_6, F_21_7, F_21_8, sh_28, F_28_0, F_28_1, F_28_2, F_28_3, F_28_4, F_28_5, F_28_6, F_28_7, F_28_8, sh_35, F_35_0, sh_39, F_39_0, F_39_1, F_39_2, F_39_3, F_39_4, F_39_5, F_39_6, F_39_7, F_39_8, F_39_9, F_39_10, F_39_11, F_39_12, F_39_13, A_2, A_4, A_6, A_7, A_8, A_9, A_10, A_11, A_13, A_15, A_16, A_17, A_18, A_19, A_20, A_22, A_23, A_24, A_25, A_26, A_27, A_29, A_30, A_31, A_32, A_33, A_34, A_36, A_37, A_38, A_40, A_41, A_42, A_43, A_44, A_45, A_46, A_47]
  refine ⟨3, x, rfl, Or.inl ⟨rfl, fun z => ?_, fun z => ?_⟩⟩
  · rw [hp] at z
    have hz := z
    obtain ⟨q, rfl, hq⟩ := rg (by omega) z
    dsimp only [k_X4_rate_0, k_X4_rate_1, k_X4_rate_4, k_X4_rate_5, k_X4_rate_8, k_X4_rate_11, k_X4_rate_13, k_X4_rate_14, k_X4_rate_15, k_X4_rate_52, k_X4_rate_53, k_X4_rate_54, k_X4_rate_57, k_X4_rate_58, k_X4_rate_59, k_X4_rate_60, k_X4_rate_63, k_X4_rate_64, k_X4_rate_65, k_X4_rate_66, k_X4_rate_69, k_X4_rate_70, k_X4_rate_71, k_X4_rate_72, k_X4_rate_75, k_X4_rate_76, k_X4_rate_77, k_X4_rate_78, k_X4_rate_81, k_X4_rate_82, k_X4_rate_83, k_X4_rate_84, k_X4_rate_87, k_X4_rate_88, k_X4_rate_90, wp1, wp_s, cutIn, kont, Nat.reduceSub, Nat.reduceAdd, nth, o_const, o_lconst, o_ref, o_iload, o_lload, o_aload, o_istore, o_lstore, o_astore, o_iinc, o_bin, o_div, o_un, o_lbin, o_lsh, o_lcmp, o_i2l, o_l2i, o_if, o_icmp, o_goto, o_dup, o_dup2, o_pop, fav, o_getf, o_putI, o_putZ, o_putL, o_ald, o_ast, o_alen, popn, rst, o_callV, o_callT, o_callS, swx, o_sw, o_ret, o_iret, o_zret, o_cret, o_lret, o_aret, lg, lput, lput2, ls1, isL, entL, wsum, rdI1, rdI2, rdA1, rdA21, rdA22, rdL1, rdL22, rdL21, upN_at, rep, sh_0, F_0_0, F_0_1, F_0_2, F_0_3, F_0_4, F_0_5, F_0_6, F_0_7, F_0_8, sh_1, F_1_0, F_1_1, F_1_2, F_1_3, F_1_4, F_1_5, sh_3, F_3_0, F_3_1, F_3_2, F_3_3, F_3_4, F_3_5, sh_5, F_5_0, F_5_1, F_5_2, F_5_3, F_5_4, F_5_5, F_5_6, F_5_7, F_5_8, sh_12, F_12_0, F_12_1, F_12_2, F_12_3, F_12_4, F_12_5, sh_14, F_14_0, F_14_1, F_14_2, F_14_3, F_14_4, F_14_5, F_14_6, F_14_7, F_14_8, sh_21, F_21_0, F_21_1, F_21_2, F_21_3, F_21_4, F_21_5, F_21_6, F_21_7, F_21_8, sh_28, F_28_0, F_28_1, F_28_2, F_28_3, F_28_4, F_28_5, F_28_6, F_28_7, F_28_8, sh_35, F_35_0, sh_39, F_39_0, F_39_1, F_39_2, F_39_3, F_39_4, F_39_5, F_39_6, F_39_7, F_39_8, F_39_9, F_39_10, F_39_11, F_39_12, F_39_13, A_2, A_4, A_6, A_7, A_8, A_9, A_10, A_11, A_13, A_15, A_16, A_17, A_18, A_19, A_20, A_22, A_23, A_24, A_25, A_26, A_27, A_29, A_30, A_31, A_32, A_33, A_34, A_36, A_37, A_38, A_40, A_41, A_42, A_43, A_44, A_45, A_46, A_47]
    refine ⟨fun q => absurd q (by decide), fun _ => ⟨fun q0 => ?_, fun q0 => ⟨fun q1 => ?_, fun q1 => ⟨fun q2 => ?_, fun q2 => ⟨fun q3 => ?_, fun q3 => ⟨fun q4 => ?_, fun q4 => ⟨fun q5 => ?_, fun q5 => ?_⟩⟩⟩⟩⟩⟩⟩
    · refine ⟨_, n, c, p, r, h0, lk, rfl, hX0, ?_⟩
      dsimp only [k_X4_rate_0, k_X4_rate_1, k_X4_rate_4, k_X4_rate_5, k_X4_rate_8, k_X4_rate_11, k_X4_rate_13, k_X4_rate_14, k_X4_rate_15, k_X4_rate_52, k_X4_rate_53, k_X4_rate_54, k_X4_rate_57, k_X4_rate_58, k_X4_rate_59, k_X4_rate_60, k_X4_rate_63, k_X4_rate_64, k_X4_rate_65, k_X4_rate_66, k_X4_rate_69, k_X4_rate_70, k_X4_rate_71, k_X4_rate_72, k_X4_rate_75, k_X4_rate_76, k_X4_rate_77, k_X4_rate_78, k_X4_rate_81, k_X4_rate_82, k_X4_rate_83, k_X4_rate_84, k_X4_rate_87, k_X4_rate_88, k_X4_rate_90, wp1, wp_s, cutIn, kont, Nat.reduceSub, Nat.reduceAdd, nth, o_const, o_lconst, o_ref, o_iload, o_lload, o_aload, o_istore, o_lstore, o_astore, o_iinc, o_bin, o_div, o_un, o_lbin, o_lsh, o_lcmp, o_i2l, o_l2i, o_if, o_icmp, o_goto, o_dup, o_dup2, o_pop, fav, o_getf, o_putI, o_putZ, o_putL, o_ald, o_ast, o_alen, popn, rst, o_callV, o_callT, o_callS, swx, o_sw, o_ret, o_iret, o_zret, o_cret, o_lret, o_aret, lg, lput, lput2, ls1, isL, entL, wsum, rdI1, rdI2, rdA1, rdA21, rdA22, rdL1, rdL22, rdL21, upN_at, rep, sh_0, F_0_0, F_0_1, F_0_2, F_0_3, F_0_4, F_0_5, F_0_6, F_0_7, F_0_8, sh_1, F_1_0, F_1_1, F_1_2, F_1_3, F_1_4, F_1_5, sh_3, F_3_0, F_3_1, F_3_2, F_3_3, F_3_4, F_3_5, sh_5, F_5_0, F_5_1, F_5_2, F_5_3, F_5_4, F_5_5, F_5_6, F_5_7, F_5_8, sh_12, F_12_0, F_12_1, F_12_2, F_12_3, F_12_4, F_12_5, sh_14, F_14_0, F_14_1, F_14_2, F_14_3, F_14_4, F_14_5, F_14_6, F_14_7, F_14_8, sh_21, F_21_0, F_21_1, F_21_2, F_21_3, F_21_4, F_21_5, F_21_6, F_21_7, F_21_8, sh_28, F_28_0, F_28_1, F_28_2, F_28_3, F_28_4, F_28_5, F_28_6, F_28_7, F_28_8, sh_35, F_35_0, sh_39, F_39_0, F_39_1, F_39_2, F_39_3, F_39_4, F_39_5, F_39_6, F_39_7, F_39_8, F_39_9, F_39_10, F_39_11, F_39_12, F_39_13, A_2, A_4, A_6, A_7, A_8, A_9, A_10, A_11, A_13, A_15, A_16, A_17, A_18, A_19, A_20, A_22, A_23, A_24, A_25, A_26, A_27, A_29, A_30, A_31, A_32, A_33, A_34, A_36, A_37, A_38, A_40, A_41, A_42, A_43, A_44, A_45, A_46, A_47]
      have := h2 0 q q0 (by omega) rfl hq (M.2.2 27) (fun _ _ => rfl)
      rw [show sA 27 (M.2.2 27) (sL 0 (rT 0 (M.2.1 0)) M) = sL 0 (rT 0 (M.2.1 0)) M from sA_self 27 _] at this
      exact this
    · refine ⟨_, n, c, p, r, h0, lk, rfl, hX0, fun f => ?_⟩
      dsimp only [k_X4_rate_0, k_X4_rate_1, k_X4_rate_4, k_X4_rate_5, k_X4_rate_8, k_X4_rate_11, k_X4_rate_13, k_X4_rate_14, k_X4_rate_15, k_X4_rate_52, k_X4_rate_53, k_X4_rate_54, k_X4_rate_57, k_X4_rate_58, k_X4_rate_59, k_X4_rate_60, k_X4_rate_63, k_X4_rate_64, k_X4_rate_65, k_X4_rate_66, k_X4_rate_69, k_X4_rate_70, k_X4_rate_71, k_X4_rate_72, k_X4_rate_75, k_X4_rate_76, k_X4_rate_77, k_X4_rate_78, k_X4_rate_81, k_X4_rate_82, k_X4_rate_83, k_X4_rate_84, k_X4_rate_87, k_X4_rate_88, k_X4_rate_90, wp1, wp_s, cutIn, kont, Nat.reduceSub, Nat.reduceAdd, nth, o_const, o_lconst, o_ref, o_iload, o_lload, o_aload, o_istore, o_lstore, o_astore, o_iinc, o_bin, o_div, o_un, o_lbin, o_lsh, o_lcmp, o_i2l, o_l2i, o_if, o_icmp, o_goto, o_dup, o_dup2, o_pop, fav, o_getf, o_putI, o_putZ, o_putL, o_ald, o_ast, o_alen, popn, rst, o_callV, o_callT, o_callS, swx, o_sw, o_ret, o_iret, o_zret, o_cret, o_lret, o_aret, lg, lput, lput2, ls1, isL, entL, wsum, rdI1, rdI2, rdA1, rdA21, rdA22, rdL1, rdL22, rdL21, upN_at, rep, sh_0, F_0_0, F_0_1, F_0_2, F_0_3, F_0_4, F_0_5, F_0_6, F_0_7, F_0_8, sh_1, F_1_0, F_1_1, F_1_2, F_1_3, F_1_4, F_1_5, sh_3, F_3_0, F_3_1, F_3_2, F_3_3, F_3_4, F_3_5, sh_5, F_5_0, F_5_1, F_5_2, F_5_3, F_5_4, F_5_5, F_5_6, F_5_7, F_5_8, sh_12, F_12_0, F_12_1, F_12_2, F_12_3, F_12_4, F_12_5, sh_14, F_14_0, F_14_1, F_14_2, F_14_3, F_14_4, F_14_5, F_14_6, F_14_7, F_14_8, sh_21, F_21_0, F_21_1, F_21_2, F_21_3, F_21_4, F_21_5, F_21_6, F_21_7, F_21_8, sh_28, F_28_0, F_28_1, F_28_2, F_28_3, F_28_4, F_28_5, F_28_6, F_28_7, F_28_8, sh_35, F_35_0, sh_39, F_39_0, F_39_1, F_39_2, F_39_3, F_39_4, F_39_5, F_39_6, F_39_7, F_39_8, F_39_9, F_39_10, F_39_11, F_39_12, F_39_13, A_2, A_4, A_6, A_7, A_8, A_9, A_10, A_11, A_13, A_15, A_16, A_17, A_18, A_19, A_20, A_22, A_23, A_24, A_25, A_26, A_27, A_29, A_30, A_31, A_32, A_33, A_34, A_36, A_37, A_38, A_40, A_41, A_42, A_43, A_44, A_45, A_46, A_47]
      exact h2 1 q q1 (by omega) rfl hq f (fun z _ => absurd rfl z)
    · refine ⟨_, n, c, p, r, h0, lk, rfl, hX0, ?_⟩
      dsimp only [k_X4_rate_0, k_X4_rate_1, k_X4_rate_4, k_X4_rate_5, k_X4_rate_8, k_X4_rate_11, k_X4_rate_13, k_X4_rate_14, k_X4_rate_15, k_X4_rate_52, k_X4_rate_53, k_X4_rate_54, k_X4_rate_57, k_X4_rate_58, k_X4_rate_59, k_X4_rate_60, k_X4_rate_63, k_X4_rate_64, k_X4_rate_65, k_X4_rate_66, k_X4_rate_69, k_X4_rate_70, k_X4_rate_71, k_X4_rate_72, k_X4_rate_75, k_X4_rate_76, k_X4_rate_77, k_X4_rate_78, k_X4_rate_81, k_X4_rate_82, k_X4_rate_83, k_X4_rate_84, k_X4_rate_87, k_X4_rate_88, k_X4_rate_90, wp1, wp_s, cutIn, kont, Nat.reduceSub, Nat.reduceAdd, nth, o_const, o_lconst, o_ref, o_iload, o_lload, o_aload, o_istore, o_lstore, o_astore, o_iinc, o_bin, o_div, o_un, o_lbin, o_lsh, o_lcmp, o_i2l, o_l2i, o_if, o_icmp, o_goto, o_dup, o_dup2, o_pop, fav, o_getf, o_putI, o_putZ, o_putL, o_ald, o_ast, o_alen, popn, rst, o_callV, o_callT, o_callS, swx, o_sw, o_ret, o_iret, o_zret, o_cret, o_lret, o_aret, lg, lput, lput2, ls1, isL, entL, wsum, rdI1, rdI2, rdA1, rdA21, rdA22, rdL1, rdL22, rdL21, upN_at, rep, sh_0, F_0_0, F_0_1, F_0_2, F_0_3, F_0_4, F_0_5, F_0_6, F_0_7, F_0_8, sh_1, F_1_0, F_1_1, F_1_2, F_1_3, F_1_4, F_1_5, sh_3, F_3_0, F_3_1, F_3_2, F_3_3, F_3_4, F_3_5, sh_5, F_5_0, F_5_1, F_5_2, F_5_3, F_5_4, F_5_5, F_5_6, F_5_7, F_5_8, sh_12, F_12_0, F_12_1, F_12_2, F_12_3, F_12_4, F_12_5, sh_14, F_14_0, F_14_1, F_14_2, F_14_3, F_14_4, F_14_5, F_14_6, F_14_7, F_14_8, sh_21, F_21_0, F_21_1, F_21_2, F_21_3, F_21_4, F_21_5, F_21_6, F_21_7, F_21_8, sh_28, F_28_0, F_28_1, F_28_2, F_28_3, F_28_4, F_28_5, F_28_6, F_28_7, F_28_8, sh_35, F_35_0, sh_39, F_39_0, F_39_1, F_39_2, F_39_3, F_39_4, F_39_5, F_39_6, F_39_7, F_39_8, F_39_9, F_39_10, F_39_11, F_39_12, F_39_13, A_2, A_4, A_6, A_7, A_8, A_9, A_10, A_11, A_13, A_15, A_16, A_17, A_18, A_19, A_20, A_22, A_23, A_24, A_25, A_26, A_27, A_29, A_30, A_31, A_32, A_33, A_34, A_36, A_37, A_38, A_40, A_41, A_42, A_43, A_44, A_45, A_46, A_47]
      have := h2 2 q q2 (by omega) rfl hq (M.2.2 27) (fun _ _ => rfl)
      rw [show sA 27 (M.2.2 27) (sL 0 (rT 2 (M.2.1 0)) M) = sL 0 (rT 2 (M.2.1 0)) M from sA_self 27 _] at this
      exact this
    · refine ⟨_, n, c, p, r, h0, lk, rfl, hX0, fun f => ?_⟩
      dsimp only [k_X4_rate_0, k_X4_rate_1, k_X4_rate_4, k_X4_rate_5, k_X4_rate_8, k_X4_rate_11, k_X4_rate_13, k_X4_rate_14, k_X4_rate_15, k_X4_rate_52, k_X4_rate_53, k_X4_rate_54, k_X4_rate_57, k_X4_rate_58, k_X4_rate_59, k_X4_rate_60, k_X4_rate_63, k_X4_rate_64, k_X4_rate_65, k_X4_rate_66, k_X4_rate_69, k_X4_rate_70, k_X4_rate_71, k_X4_rate_72, k_X4_rate_75, k_X4_rate_76, k_X4_rate_77, k_X4_rate_78, k_X4_rate_81, k_X4_rate_82, k_X4_rate_83, k_X4_rate_84, k_X4_rate_87, k_X4_rate_88, k_X4_rate_90, wp1, wp_s, cutIn, kont, Nat.reduceSub, Nat.reduceAdd, nth, o_const, o_lconst, o_ref, o_iload, o_lload, o_aload, o_istore, o_lstore, o_astore, o_iinc, o_bin, o_div, o_un, o_lbin, o_lsh, o_lcmp, o_i2l, o_l2i, o_if, o_icmp, o_goto, o_dup, o_dup2, o_pop, fav, o_getf, o_putI, o_putZ, o_putL, o_ald, o_ast, o_alen, popn, rst, o_callV, o_callT, o_callS, swx, o_sw, o_ret, o_iret, o_zret, o_cret, o_lret, o_aret, lg, lput, lput2, ls1, isL, entL, wsum, rdI1, rdI2, rdA1, rdA21, rdA22, rdL1, rdL22, rdL21, upN_at, rep, sh_0, F_0_0, F_0_1, F_0_2, F_0_3, F_0_4, F_0_5, F_0_6, F_0_7, F_0_8, sh_1, F_1_0, F_1_1, F_1_2, F_1_3, F_1_4, F_1_5, sh_3, F_3_0, F_3_1, F_3_2, F_3_3, F_3_4, F_3_5, sh_5, F_5_0, F_5_1, F_5_2, F_5_3, F_5_4, F_5_5, F_5_6, F_5_7, F_5_8, sh_12, F_12_0, F_12_1, F_12_2, F_12_3, F_12_4, F_12_5, sh_14, F_14_0, F_14_1, F_14_2, F_14_3, F_14_4, F_14_5, F_14_6, F_14_7, F_14_8, sh_21, F_21_0, F_21_1, F_21_2, F_21_3, F_21_4, F_21_5, F_21_6, F_21_7, F_21_8, sh_28, F_28_0, F_28_1, F_28_2, F_28_3, F_28_4, F_28_5, F_28_6, F_28_7, F_28_8, sh_35, F_35_0, sh_39, F_39_0, F_39_1, F_39_2, F_39_3, F_39_4, F_39_5, F_39_6, F_39_7, F_39_8, F_39_9, F_39_10, F_39_11, F_39_12, F_39_13, A_2, A_4, A_6, A_7, A_8, A_9, A_10, A_11, A_13, A_15, A_16, A_17, A_18, A_19, A_20, A_22, A_23, A_24, A_25, A_26, A_27, A_29, A_30, A_31, A_32, A_33, A_34, A_36, A_37, A_38, A_40, A_41, A_42, A_43, A_44, A_45, A_46, A_47]
      exact h2 3 q q3 (by omega) rfl hq f (fun _ z => absurd rfl z)
    · refine ⟨_, n, c, p, r, h0, lk, rfl, hX0, ?_⟩
      dsimp only [k_X4_rate_0, k_X4_rate_1, k_X4_rate_4, k_X4_rate_5, k_X4_rate_8, k_X4_rate_11, k_X4_rate_13, k_X4_rate_14, k_X4_rate_15, k_X4_rate_52, k_X4_rate_53, k_X4_rate_54, k_X4_rate_57, k_X4_rate_58, k_X4_rate_59, k_X4_rate_60, k_X4_rate_63, k_X4_rate_64, k_X4_rate_65, k_X4_rate_66, k_X4_rate_69, k_X4_rate_70, k_X4_rate_71, k_X4_rate_72, k_X4_rate_75, k_X4_rate_76, k_X4_rate_77, k_X4_rate_78, k_X4_rate_81, k_X4_rate_82, k_X4_rate_83, k_X4_rate_84, k_X4_rate_87, k_X4_rate_88, k_X4_rate_90, wp1, wp_s, cutIn, kont, Nat.reduceSub, Nat.reduceAdd, nth, o_const, o_lconst, o_ref, o_iload, o_lload, o_aload, o_istore, o_lstore, o_astore, o_iinc, o_bin, o_div, o_un, o_lbin, o_lsh, o_lcmp, o_i2l, o_l2i, o_if, o_icmp, o_goto, o_dup, o_dup2, o_pop, fav, o_getf, o_putI, o_putZ, o_putL, o_ald, o_ast, o_alen, popn, rst, o_callV, o_callT, o_callS, swx, o_sw, o_ret, o_iret, o_zret, o_cret, o_lret, o_aret, lg, lput, lput2, ls1, isL, entL, wsum, rdI1, rdI2, rdA1, rdA21, rdA22, rdL1, rdL22, rdL21, upN_at, rep, sh_0, F_0_0, F_0_1, F_0_2, F_0_3, F_0_4, F_0_5, F_0_6, F_0_7, F_0_8, sh_1, F_1_0, F_1_1, F_1_2, F_1_3, F_1_4, F_1_5, sh_3, F_3_0, F_3_1, F_3_2, F_3_3, F_3_4, F_3_5, sh_5, F_5_0, F_5_1, F_5_2, F_5_3, F_5_4, F_5_5, F_5_6, F_5_7, F_5_8, sh_12, F_12_0, F_12_1, F_12_2, F_12_3, F_12_4, F_12_5, sh_14, F_14_0, F_14_1, F_14_2, F_14_3, F_14_4, F_14_5, F_14_6, F_14_7, F_14_8, sh_21, F_21_0, F_21_1, F_21_2, F_21_3, F_21_4, F_21_5, F_21_6, F_21_7, F_21_8, sh_28, F_28_0, F_28_1, F_28_2, F_28_3, F_28_4, F_28_5, F_28_6, F_28_7, F_28_8, sh_35, F_35_0, sh_39, F_39_0, F_39_1, F_39_2, F_39_3, F_39_4, F_39_5, F_39_6, F_39_7, F_39_8, F_39_9, F_39_10, F_39_11, F_39_12, F_39_13, A_2, A_4, A_6, A_7, A_8, A_9, A_10, A_11, A_13, A_15, A_16, A_17, A_18, A_19, A_20, A_22, A_23, A_24, A_25, A_26, A_27, A_29, A_30, A_31, A_32, A_33, A_34, A_36, A_37, A_38, A_40, A_41, A_42, A_43, A_44, A_45, A_46, A_47]
      have := h2 4 q q4 (by omega) rfl hq (M.2.2 27) (fun _ _ => rfl)
      rw [show sA 27 (M.2.2 27) (sL 0 (rT 4 (M.2.1 0)) M) = sL 0 (rT 4 (M.2.1 0)) M from sA_self 27 _] at this
      exact this
    · refine ⟨_, n, c, p, r, h0, lk, rfl, hX0, ?_⟩
      dsimp only [k_X4_rate_0, k_X4_rate_1, k_X4_rate_4, k_X4_rate_5, k_X4_rate_8, k_X4_rate_11, k_X4_rate_13, k_X4_rate_14, k_X4_rate_15, k_X4_rate_52, k_X4_rate_53, k_X4_rate_54, k_X4_rate_57, k_X4_rate_58, k_X4_rate_59, k_X4_rate_60, k_X4_rate_63, k_X4_rate_64, k_X4_rate_65, k_X4_rate_66, k_X4_rate_69, k_X4_rate_70, k_X4_rate_71, k_X4_rate_72, k_X4_rate_75, k_X4_rate_76, k_X4_rate_77, k_X4_rate_78, k_X4_rate_81, k_X4_rate_82, k_X4_rate_83, k_X4_rate_84, k_X4_rate_87, k_X4_rate_88, k_X4_rate_90, wp1, wp_s, cutIn, kont, Nat.reduceSub, Nat.reduceAdd, nth, o_const, o_lconst, o_ref, o_iload, o_lload, o_aload, o_istore, o_lstore, o_astore, o_iinc, o_bin, o_div, o_un, o_lbin, o_lsh, o_lcmp, o_i2l, o_l2i, o_if, o_icmp, o_goto, o_dup, o_dup2, o_pop, fav, o_getf, o_putI, o_putZ, o_putL, o_ald, o_ast, o_alen, popn, rst, o_callV, o_callT, o_callS, swx, o_sw, o_ret, o_iret, o_zret, o_cret, o_lret, o_aret, lg, lput, lput2, ls1, isL, entL, wsum, rdI1, rdI2, rdA1, rdA21, rdA22, rdL1, rdL22, rdL21, upN_at, rep, sh_0, F_0_0, F_0_1, F_0_2, F_0_3, F_0_4, F_0_5, F_0_6, F_0_7, F_0_8, sh_1, F_1_0, F_1_1, F_1_2, F_1_3, F_1_4, F_1_5, sh_3, F_3_0, F_3_1, F_3_2, F_3_3, F_3_4, F_3_5, sh_5, F_5_0, F_5_1, F_5_2, F_5_3, F_5_4, F_5_5, F_5_6, F_5_7, F_5_8, sh_12, F_12_0, F_12_1, F_12_2, F_12_3, F_12_4, F_12_5, sh_14, F_14_0, F_14_1, F_14_2, F_14_3, F_14_4, F_14_5, F_14_6, F_14_7, F_14_8, sh_21, F_21_0, F_21_1, F_21_2, F_21_3, F_21_4, F_21_5, F_21_6, F_21_7, F_21_8, sh_28, F_28_0, F_28_1, F_28_2, F_28_3, F_28_4, F_28_5, F_28_6, F_28_7, F_28_8, sh_35, F_35_0, sh_39, F_39_0, F_39_1, F_39_2, F_39_3, F_39_4, F_39_5, F_39_6, F_39_7, F_39_8, F_39_9, F_39_10, F_39_11, F_39_12, F_39_13, A_2, A_4, A_6, A_7, A_8, A_9, A_10, A_11, A_13, A_15, A_16, A_17, A_18, A_19, A_20, A_22, A_23, A_24, A_25, A_26, A_27, A_29, A_30, A_31, A_32, A_33, A_34, A_36, A_37, A_38, A_40, A_41, A_42, A_43, A_44, A_45, A_46, A_47]
      have := h2 5 q q5 (by omega) rfl hq (M.2.2 27) (fun _ _ => rfl)
      rw [show sA 27 (M.2.2 27) (sL 0 (rT 5 (M.2.1 0)) M) = sL 0 (rT 5 (M.2.1 0)) M from sA_self 27 _] at this
      exact this
    · refine h1 fun q7 => ?_
      obtain ⟨k, rfl, hk⟩ := rg (n := 6) (by omega) q7.2
      have : k = 0 ∨ k = 1 ∨ k = 2 ∨ k = 3 ∨ k = 4 ∨ k = 5 := by omega
      rcases this with rfl | rfl | rfl | rfl | rfl | rfl
      · exact q0 rfl
      · exact q1 rfl
      · exact q2 rfl
      · exact q3 rfl
      · exact q4 rfl
      · exact q5 rfl
  · rw [hp] at z
    dsimp only [k_X4_rate_0, k_X4_rate_1, k_X4_rate_4, k_X4_rate_5, k_X4_rate_8, k_X4_rate_11, k_X4_rate_13, k_X4_rate_14, k_X4_rate_15, k_X4_rate_52, k_X4_rate_53, k_X4_rate_54, k_X4_rate_57, k_X4_rate_58, k_X4_rate_59, k_X4_rate_60, k_X4_rate_63, k_X4_rate_64, k_X4_rate_65, k_X4_rate_66, k_X4_rate_69, k_X4_rate_70, k_X4_rate_71, k_X4_rate_72, k_X4_rate_75, k_X4_rate_76, k_X4_rate_77, k_X4_rate_78, k_X4_rate_81, k_X4_rate_82, k_X4_rate_83, k_X4_rate_84, k_X4_rate_87, k_X4_rate_88, k_X4_rate_90, wp1, wp_s, cutIn, kont, Nat.reduceSub, Nat.reduceAdd, nth, o_const, o_lconst, o_ref, o_iload, o_lload, o_aload, o_istore, o_lstore, o_astore, o_iinc, o_bin, o_div, o_un, o_lbin, o_lsh, o_lcmp, o_i2l, o_l2i, o_if, o_icmp, o_goto, o_dup, o_dup2, o_pop, fav, o_getf, o_putI, o_putZ, o_putL, o_ald, o_ast, o_alen, popn, rst, o_callV, o_callT, o_callS, swx, o_sw, o_ret, o_iret, o_zret, o_cret, o_lret, o_aret, lg, lput, lput2, ls1, isL, entL, wsum, rdI1, rdI2, rdA1, rdA21, rdA22, rdL1, rdL22, rdL21, upN_at, rep, sh_0, F_0_0, F_0_1, F_0_2, F_0_3, F_0_4, F_0_5, F_0_6, F_0_7, F_0_8, sh_1, F_1_0, F_1_1, F_1_2, F_1_3, F_1_4, F_1_5, sh_3, F_3_0, F_3_1, F_3_2, F_3_3, F_3_4, F_3_5, sh_5, F_5_0, F_5_1, F_5_2, F_5_3, F_5_4, F_5_5, F_5_6, F_5_7, F_5_8, sh_12, F_12_0, F_12_1, F_12_2, F_12_3, F_12_4, F_12_5, sh_14, F_14_0, F_14_1, F_14_2, F_14_3, F_14_4, F_14_5, F_14_6, F_14_7, F_14_8, sh_21, F_21_0, F_21_1, F_21_2, F_21_3, F_21_4, F_21_5, F_21_6, F_21_7, F_21_8, sh_28, F_28_0, F_28_1, F_28_2, F_28_3, F_28_4, F_28_5, F_28_6, F_28_7, F_28_8, sh_35, F_35_0, sh_39, F_39_0, F_39_1, F_39_2, F_39_3, F_39_4, F_39_5, F_39_6, F_39_7, F_39_8, F_39_9, F_39_10, F_39_11, F_39_12, F_39_13, A_2, A_4, A_6, A_7, A_8, A_9, A_10, A_11, A_13, A_15, A_16, A_17, A_18, A_19, A_20, A_22, A_23, A_24, A_25, A_26, A_27, A_29, A_30, A_31, A_32, A_33, A_34, A_36, A_37, A_38, A_40, A_41, A_42, A_43, A_44, A_45, A_46, A_47]
    exact ⟨fun _ => h1 fun q => z q.1, fun q => absurd rfl q⟩
theorem c_X4_rate : Ctr yX4_rate cX4_rate 3 (some .int) ({ frames := 6, cells := 0, slots := 0, locals := 133 } : Room) S_X4_rate := ctr_of (T := T_X4_rate) (by decide +kernel) (fun post C hr => t_X4_rate post C hr) v_X4_rate
theorem c_X4_trace : Ctr yX4_trace cX4_trace 1 (some .long) ({ frames := 0, cells := 0, slots := 0, locals := 0 } : Room) S_X4_trace := ctr_of (T := T_X4_trace) (by decide +kernel) (fun post C hr => t_X4_trace post C hr) v_X4_trace
theorem c_X4_keep : Ctr yX4_keep cX4_keep 3 (some .int) ({ frames := 2, cells := 0, slots := 0, locals := 45 } : Room) S_X4_keep := ctr_of (T := T_X4_keep) (by decide +kernel) (fun post C hr => t_X4_keep post C hr) v_X4_keep
theorem c_X4_back : Ctr yX4_back cX4_back 3 (some .int) ({ frames := 2, cells := 0, slots := 0, locals := 45 } : Room) S_X4_back := ctr_of (T := T_X4_back) (by decide +kernel) (fun post C hr => t_X4_back post C hr) v_X4_back
theorem c_X4_count : Ctr yX4_count cX4_count 2 (some .int) ({ frames := 1, cells := 0, slots := 0, locals := 23 } : Room) S_X4_count := ctr_of (T := T_X4_count) (by decide +kernel) (fun post C hr => t_X4_count post C hr) v_X4_count
