/-! The class's spans, filled; which locks open. -/
/-- the highest set bit -/
def tp (w : Nat) : Nat → Nat
  | 0 => 0
  | n + 1 => if w.testBit n = true then n else tp w n
theorem tp_spec {w : Nat} : ∀ n, (∃ j, j < n ∧ w.testBit j = true) → tp w n < n ∧ w.testBit (tp w n) = true ∧ ∀ j, tp w n < j → j < n → w.testBit j = false := by
  intro n
  induction n with
  | zero => rintro ⟨j, hj, -⟩; exact absurd hj (by omega)
  | succ n ih =>
    rintro ⟨j, hj, hb⟩
    rw [tp]
    split
    · rename_i h; exact ⟨by omega, h, fun q h1 h2 => absurd h1 (by omega)⟩
    · rename_i h
      have hj2 : j < n := by
        rcases Nat.lt_or_ge j n with g | g
        · exact g
        · exact absurd (show w.testBit n = true by rw [show n = j by omega]; exact hb) h
      obtain ⟨h1, h2, h3⟩ := ih ⟨j, hj2, hb⟩
      refine ⟨by omega, h2, fun q g1 g2 => ?_⟩
      rcases Nat.lt_or_ge q n with g | g
      · exact h3 q g1 g
      · rw [show q = n by omega]; simpa using h
theorem ne0_bit {w : Nat} (hw : w < 512) (h : w ≠ 0) : ∃ j, j < 9 ∧ w.testBit j = true := by
  obtain ⟨j, hj⟩ := Nat.exists_testBit_of_ne_zero h
  refine ⟨j, ?_, hj⟩
  rcases Nat.lt_or_ge j 9 with g | g
  · exact g
  · rw [Nat.testBit_lt_two_pow (Nat.lt_of_lt_of_le hw (Nat.pow_le_pow_right (n := 2) (by omega) g))] at hj; cases hj
/-- one row more -/
def wid (B : Nat → Nat) (v : Nat) : Nat → Nat := if rs B v 9 = 0 then B else fun j => if j = tp (rs B v 9) 9 then rs B v 9 else B j
/-- the span of the keys of the set T, among the first n -/
def fsp (r : Nat → Nat) (T : Nat) : Nat → Nat → Nat
  | 0 => fun _ => 0
  | k + 1 => if T.testBit k = true then wid (fsp r T k) (r k) else fsp r T k
theorem wid_lt {B : Nat → Nat} {v : Nat} (hB : ∀ j, j < 9 → B j < 512) (hv : v < 512) : ∀ j, j < 9 → wid B v j < 512 := by
  intro j hj
  unfold wid
  split
  · exact hB j hj
  · dsimp only
    split
    · exact rs_lt hB 9 (Nat.le_refl 9) v hv
    · exact hB j hj
theorem fsp_lt {r : Nat → Nat} {T : Nat} : ∀ n, (∀ k, k < n → r k < 512) → ∀ j, j < 9 → fsp r T n j < 512 := by
  intro n
  induction n with
  | zero => intro _ j _; exact Nat.lt_of_lt_of_le (Nat.zero_lt_one) (by omega)
  | succ n ih =>
    intro hr j hj
    rw [fsp]
    have ih := ih (fun k hk => hr k (by omega))
    split
    · exact wid_lt ih (hr n (by omega)) j hj
    · exact ih j hj
def S_X4_fillSpan : SP := fun as M post => ∃ T n c p r h lk, as = [VR 0, VI (nI T)] ∧ T < 2 ^ 31 ∧ XW M n c p r h lk ∧ ∀ f, (∀ j, j < 9 → f j = nI (fsp r T n j)) → post none (sA 27 f M)
theorem fl_RX4_39 : Cond.fieldLink RX4 39 (TX4 5).1 (TX4 5).2.1 (TX4 5).2.2.1 ∈ tb := tb_of 190 (by decide +kernel) (by decide +kernel)
theorem cw_RX4_126 : ∀ w ∈ ([.methodLink RX4 126 yX2_empty, .instanceMethod yX2_empty, .selects yX2_empty.cls yX2_empty yX2_empty, .initialized yX2_empty.cls, .code yX2_empty cX2_empty 2 none] : List Cond), w ∈ tb := tb_all [453, 454, 455, 58, 456] (by decide +kernel) (by decide +kernel)
theorem fl_RX4_19 : Cond.fieldLink RX4 19 (TX4 1).1 (TX4 1).2.1 (TX4 1).2.2.1 ∈ tb := tb_of 186 (by decide +kernel) (by decide +kernel)
theorem fl_RX4_71 : Cond.fieldLink RX4 71 (TX0 0).1 (TX0 0).2.1 (TX0 0).2.2.1 ∈ tb := tb_of 151 (by decide +kernel) (by decide +kernel)
theorem fl_RX4_108 : Cond.fieldLink RX4 108 (TX1 2).1 (TX1 2).2.1 (TX1 2).2.2.1 ∈ tb := tb_of 121 (by decide +kernel) (by decide +kernel)
theorem fl_RX4_81 : Cond.fieldLink RX4 81 (TX1 0).1 (TX1 0).2.1 (TX1 0).2.2.1 ∈ tb := tb_of 116 (by decide +kernel) (by decide +kernel)
theorem cw_RX4_129 : ∀ w ∈ ([.methodLink RX4 129 yX2_widen, .instanceMethod yX2_widen, .selects yX2_widen.cls yX2_widen yX2_widen, .initialized yX2_widen.cls, .code yX2_widen cX2_widen 4 (some .boolean)] : List Cond), w ∈ tb := tb_all [457, 458, 459, 58, 460] (by decide +kernel) (by decide +kernel)
theorem dX4_fillSpan_0 : decode cX4_fillSpan 0 = .ok (.aload_n 0, 1) := by decide +kernel
theorem dX4_fillSpan_1 : decode cX4_fillSpan 1 = .ok (.getfield 39, 3) := by decide +kernel
theorem dX4_fillSpan_4 : decode cX4_fillSpan 4 = .ok (.invokevirtual 126, 3) := by decide +kernel
theorem dX4_fillSpan_7 : decode cX4_fillSpan 7 = .ok (.iconst 0, 1) := by decide +kernel
theorem dX4_fillSpan_8 : decode cX4_fillSpan 8 = .ok (.istore_n 2, 1) := by decide +kernel
theorem dX4_fillSpan_9 : decode cX4_fillSpan 9 = .ok (.iload_n 2, 1) := by decide +kernel
theorem dX4_fillSpan_10 : decode cX4_fillSpan 10 = .ok (.aload_n 0, 1) := by decide +kernel
theorem dX4_fillSpan_11 : decode cX4_fillSpan 11 = .ok (.getfield 19, 3) := by decide +kernel
theorem dX4_fillSpan_14 : decode cX4_fillSpan 14 = .ok (.getfield 71, 3) := by decide +kernel
theorem dX4_fillSpan_17 : decode cX4_fillSpan 17 = .ok (.getfield 108, 3) := by decide +kernel
theorem dX4_fillSpan_20 : decode cX4_fillSpan 20 = .ok (.if_icmp .ge 37, 3) := by decide +kernel
theorem dX4_fillSpan_23 : decode cX4_fillSpan 23 = .ok (.iload_n 1, 1) := by decide +kernel
theorem dX4_fillSpan_24 : decode cX4_fillSpan 24 = .ok (.iload_n 2, 1) := by decide +kernel
theorem dX4_fillSpan_25 : decode cX4_fillSpan 25 = .ok (.ishr, 1) := by decide +kernel
theorem dX4_fillSpan_26 : decode cX4_fillSpan 26 = .ok (.iconst 1, 1) := by decide +kernel
theorem dX4_fillSpan_27 : decode cX4_fillSpan 27 = .ok (.iand, 1) := by decide +kernel
theorem dX4_fillSpan_28 : decode cX4_fillSpan 28 = .ok (.ifCond .eq 23, 3) := by decide +kernel
theorem dX4_fillSpan_31 : decode cX4_fillSpan 31 = .ok (.aload_n 0, 1) := by decide +kernel
theorem dX4_fillSpan_32 : decode cX4_fillSpan 32 = .ok (.getfield 39, 3) := by decide +kernel
theorem dX4_fillSpan_35 : decode cX4_fillSpan 35 = .ok (.aload_n 0, 1) := by decide +kernel
theorem dX4_fillSpan_36 : decode cX4_fillSpan 36 = .ok (.getfield 19, 3) := by decide +kernel
theorem dX4_fillSpan_39 : decode cX4_fillSpan 39 = .ok (.getfield 71, 3) := by decide +kernel
theorem dX4_fillSpan_42 : decode cX4_fillSpan 42 = .ok (.getfield 81, 3) := by decide +kernel
theorem dX4_fillSpan_45 : decode cX4_fillSpan 45 = .ok (.iload_n 2, 1) := by decide +kernel
theorem dX4_fillSpan_46 : decode cX4_fillSpan 46 = .ok (.iaload, 1) := by decide +kernel
theorem dX4_fillSpan_47 : decode cX4_fillSpan 47 = .ok (.invokevirtual 129, 3) := by decide +kernel
theorem dX4_fillSpan_50 : decode cX4_fillSpan 50 = .ok (.pop, 1) := by decide +kernel
theorem dX4_fillSpan_51 : decode cX4_fillSpan 51 = .ok (.iinc 2 1, 3) := by decide +kernel
theorem dX4_fillSpan_54 : decode cX4_fillSpan 54 = .ok (.goto (-45), 3) := by decide +kernel
theorem dX4_fillSpan_57 : decode cX4_fillSpan 57 = .ok (.return_, 1) := by decide +kernel
def T_X4_fillSpan (post : PO) : List (Nat × OP) := [(0, o_aload 0 1), (1, o_getf 4 5 4), (4, o_callV 2 S_X2_empty 0 7), (7, o_const 0 8), (8, o_istore 2 9), (9, o_iload 2 10), (10, o_aload 0 11), (11, o_getf 4 1 14), (14, o_getf 0 0 17), (17, o_getf 1 2 20), (20, o_icmp (fun x y => y ≤ x) 57 23), (23, o_iload 1 24), (24, o_iload 2 25), (25, o_bin (fun x y => x >>> (y &&& 31)) 26), (26, o_const 1 27), (27, o_bin (fun x y => x &&& y) 28), (28, o_if (fun x => x = 0) 51 31), (31, o_aload 0 32), (32, o_getf 4 5 35), (35, o_aload 0 36), (36, o_getf 4 1 39), (39, o_getf 0 0 42), (42, o_getf 1 0 45), (45, o_iload 2 46), (46, o_ald 0 47), (47, o_callV 2 S_X2_widen 1 50), (50, o_pop 51), (51, o_iinc 2 1 54), (54, o_goto 9), (57, o_ret post)]
theorem k_X4_fillSpan_0 (post : PO) : lk (T_X4_fillSpan post) 0 = o_aload 0 1 := rfl
theorem k_X4_fillSpan_1 (post : PO) : lk (T_X4_fillSpan post) 1 = o_getf 4 5 4 := rfl
theorem k_X4_fillSpan_4 (post : PO) : lk (T_X4_fillSpan post) 4 = o_callV 2 S_X2_empty 0 7 := rfl
theorem k_X4_fillSpan_7 (post : PO) : lk (T_X4_fillSpan post) 7 = o_const 0 8 := rfl
theorem k_X4_fillSpan_8 (post : PO) : lk (T_X4_fillSpan post) 8 = o_istore 2 9 := rfl
theorem k_X4_fillSpan_9 (post : PO) : lk (T_X4_fillSpan post) 9 = o_iload 2 10 := rfl
theorem k_X4_fillSpan_10 (post : PO) : lk (T_X4_fillSpan post) 10 = o_aload 0 11 := rfl
theorem k_X4_fillSpan_11 (post : PO) : lk (T_X4_fillSpan post) 11 = o_getf 4 1 14 := rfl
theorem k_X4_fillSpan_14 (post : PO) : lk (T_X4_fillSpan post) 14 = o_getf 0 0 17 := rfl
theorem k_X4_fillSpan_17 (post : PO) : lk (T_X4_fillSpan post) 17 = o_getf 1 2 20 := rfl
theorem k_X4_fillSpan_20 (post : PO) : lk (T_X4_fillSpan post) 20 = o_icmp (fun x y => y ≤ x) 57 23 := rfl
theorem k_X4_fillSpan_23 (post : PO) : lk (T_X4_fillSpan post) 23 = o_iload 1 24 := rfl
theorem k_X4_fillSpan_24 (post : PO) : lk (T_X4_fillSpan post) 24 = o_iload 2 25 := rfl
theorem k_X4_fillSpan_25 (post : PO) : lk (T_X4_fillSpan post) 25 = o_bin (fun x y => x >>> (y &&& 31)) 26 := rfl
theorem k_X4_fillSpan_26 (post : PO) : lk (T_X4_fillSpan post) 26 = o_const 1 27 := rfl
theorem k_X4_fillSpan_27 (post : PO) : lk (T_X4_fillSpan post) 27 = o_bin (fun x y => x &&& y) 28 := rfl
theorem k_X4_fillSpan_28 (post : PO) : lk (T_X4_fillSpan post) 28 = o_if (fun x => x = 0) 51 31 := rfl
theorem k_X4_fillSpan_31 (post : PO) : lk (T_X4_fillSpan post) 31 = o_aload 0 32 := rfl
theorem k_X4_fillSpan_32 (post : PO) : lk (T_X4_fillSpan post) 32 = o_getf 4 5 35 := rfl
theorem k_X4_fillSpan_35 (post : PO) : lk (T_X4_fillSpan post) 35 = o_aload 0 36 := rfl
theorem k_X4_fillSpan_36 (post : PO) : lk (T_X4_fillSpan post) 36 = o_getf 4 1 39 := rfl
theorem k_X4_fillSpan_39 (post : PO) : lk (T_X4_fillSpan post) 39 = o_getf 0 0 42 := rfl
theorem k_X4_fillSpan_42 (post : PO) : lk (T_X4_fillSpan post) 42 = o_getf 1 0 45 := rfl
theorem k_X4_fillSpan_45 (post : PO) : lk (T_X4_fillSpan post) 45 = o_iload 2 46 := rfl
theorem k_X4_fillSpan_46 (post : PO) : lk (T_X4_fillSpan post) 46 = o_ald 0 47 := rfl
theorem k_X4_fillSpan_47 (post : PO) : lk (T_X4_fillSpan post) 47 = o_callV 2 S_X2_widen 1 50 := rfl
theorem k_X4_fillSpan_50 (post : PO) : lk (T_X4_fillSpan post) 50 = o_pop 51 := rfl
theorem k_X4_fillSpan_51 (post : PO) : lk (T_X4_fillSpan post) 51 = o_iinc 2 1 54 := rfl
theorem k_X4_fillSpan_54 (post : PO) : lk (T_X4_fillSpan post) 54 = o_goto 9 := rfl
theorem k_X4_fillSpan_57 (post : PO) : lk (T_X4_fillSpan post) 57 = o_ret post := rfl
set_option maxRecDepth 100000 in
theorem t_X4_fillSpan {p : Program} {l : Launch} {e : Env} {s : State} {m : MethodId} {args : Array Value} {below : List Frame} {meth : Method} {c : Code} {D : va_G} {dA : Nat → ClassId} {ad : Nat → Nat} (post : PO) (C : CX p s m args meth c cX4_fillSpan 3 yX4_fillSpan.cls D dA ad (AA ad s.heap.size)) (hr : meth.sig.returnType = none) : SndL (WW p l e ({ frames := 2, cells := 0, slots := 0, locals := 46 } : Room) s m args below meth c 0 0 (MQ below (CQ D dA ad post (AA ad s.heap.size)) args s 0 0 (AA ad s.heap.size)) 3 D dA ad (AA ad s.heap.size)) (T_X4_fillSpan post) := by
  refine snd_c (s_aload_n C rfl dX4_fillSpan_0) ?_
  refine snd_c (s_getf C (ci := 4) (j := 5) (T := TX4) rfl inX4 (by decide) fl_RX4_39 dX4_fillSpan_1) ?_
  refine snd_c (s_callV C (ci := 2) c_X2_empty rfl cw_RX4_126 ⟨rfl, rfl⟩ ⟨by decide +kernel, by decide +kernel, by decide +kernel⟩ ⟨by decide, by decide⟩ ⟨Nat.zero_le _, Nat.zero_le _⟩ dX4_fillSpan_4) ?_
  refine snd_c (s_iconst C dX4_fillSpan_7 rfl) ?_
  refine snd_c (s_istore_n C rfl (by decide) dX4_fillSpan_8) ?_
  refine snd_c (s_iload_n C rfl dX4_fillSpan_9) ?_
  refine snd_c (s_aload_n C rfl dX4_fillSpan_10) ?_
  refine snd_c (s_getf C (ci := 4) (j := 1) (T := TX4) rfl inX4 (by decide) fl_RX4_19 dX4_fillSpan_11) ?_
  refine snd_c (s_getf C (ci := 0) (j := 0) (T := TX0) rfl inX0 (by decide) fl_RX4_71 dX4_fillSpan_14) ?_
  refine snd_c (s_getf C (ci := 1) (j := 2) (T := TX1) rfl inX1 (by decide) fl_RX4_108 dX4_fillSpan_17) ?_
  refine snd_c (s_icmp_ge C dX4_fillSpan_20 (by decide)) ?_
  refine snd_c (s_iload_n C rfl dX4_fillSpan_23) ?_
  refine snd_c (s_iload_n C rfl dX4_fillSpan_24) ?_
  refine snd_c (s_ishr C dX4_fillSpan_25) ?_
  refine snd_c (s_iconst C dX4_fillSpan_26 rfl) ?_
  refine snd_c (s_iand C dX4_fillSpan_27) ?_
  refine snd_c (s_if_eq C dX4_fillSpan_28 (by decide)) ?_
  refine snd_c (s_aload_n C rfl dX4_fillSpan_31) ?_
  refine snd_c (s_getf C (ci := 4) (j := 5) (T := TX4) rfl inX4 (by decide) fl_RX4_39 dX4_fillSpan_32) ?_
  refine snd_c (s_aload_n C rfl dX4_fillSpan_35) ?_
  refine snd_c (s_getf C (ci := 4) (j := 1) (T := TX4) rfl inX4 (by decide) fl_RX4_19 dX4_fillSpan_36) ?_
  refine snd_c (s_getf C (ci := 0) (j := 0) (T := TX0) rfl inX0 (by decide) fl_RX4_71 dX4_fillSpan_39) ?_
  refine snd_c (s_getf C (ci := 1) (j := 0) (T := TX1) rfl inX1 (by decide) fl_RX4_81 dX4_fillSpan_42) ?_
  refine snd_c (s_iload_n C rfl dX4_fillSpan_45) ?_
  refine snd_c (s_iald C dX4_fillSpan_46) ?_
  refine snd_c (s_callV C (ci := 2) c_X2_widen rfl cw_RX4_129 ⟨rfl, rfl⟩ ⟨by decide +kernel, by decide +kernel, by decide +kernel⟩ ⟨by decide, by decide⟩ ⟨Nat.zero_le _, Nat.zero_le _⟩ dX4_fillSpan_47) ?_
  refine snd_c (s_pop C dX4_fillSpan_50) ?_
  refine snd_c (s_iinc C (by decide) rfl dX4_fillSpan_51) ?_
  refine snd_c (s_goto C dX4_fillSpan_54 (by decide)) ?_
  refine snd_c (s_ret C hr dX4_fillSpan_57) ?_
  exact trivial
set_option maxRecDepth 100000 in
theorem v_X4_fillSpan : ∀ as M post, S_X4_fillSpan as M post → wsum as ≤ 3 ∧ RUN (T_X4_fillSpan post) 0 (entL 3 as) [] M := by
  rintro as M post ⟨T, n, c, p, r, hd, lk, rfl, hT, hX, h⟩
  obtain ⟨hn, hn8, hc, hc6, hp, hp4, hr, hhk, hl⟩ := hX
  refine ⟨by show 2 ≤ 3; omega, run_of [9] (fun μ pc lv st M' => pc = 9 ∧ st = [] ∧ ∃ i f, i ≤ n ∧ (∀ j, j < 9 → f j = nI (fsp r T i j)) ∧ M' = sA 27 f M ∧ 20 - i = μ ∧ lv = [some (VR 0), some (VI (nI T)), some (VI (nI i))]) 40 30 ?_ ?_⟩
  · rintro μ pc lv st M' ⟨rfl, rfl, i, f, hi, hf, rfl, rfl, rfl⟩
    dsimp only [k_X4_fillSpan_0, k_X4_fillSpan_1, k_X4_fillSpan_4, k_X4_fillSpan_7, k_X4_fillSpan_8, k_X4_fillSpan_9, k_X4_fillSpan_10, k_X4_fillSpan_11, k_X4_fillSpan_14, k_X4_fillSpan_17, k_X4_fillSpan_20, k_X4_fillSpan_23, k_X4_fillSpan_24, k_X4_fillSpan_25, k_X4_fillSpan_26, k_X4_fillSpan_27, k_X4_fillSpan_28, k_X4_fillSpan_31, k_X4_fillSpan_32, k_X4_fillSpan_35, k_X4_fillSpan_36, k_X4_fillSpan_39, k_X4_fillSpan_42, k_X4_fillSpan_45, k_X4_fillSpan_46, k_X4_fillSpan_47, k_X4_fillSpan_50, k_X4_fillSpan_51, k_X4_fillSpan_54, k_X4_fillSpan_57, wp1, wp_s, cutIn, kont, Nat.reduceSub, Nat.reduceAdd, nth, o_const, o_lconst, o_ref, o_iload, o_lload, o_aload, o_istore, o_lstore, o_astore, o_iinc, o_bin, o_div, o_un, o_lbin, o_lsh, o_lcmp, o_i2l, o_l2i, o_if, o_icmp, o_goto, o_dup, o_dup2, o_pop, fav, o_getf, o_putI, o_putZ, o_putL, o_ald, o_ast, o_alen, popn, rst, o_callV, o_callT, o_callS, swx, o_sw, o_ret, o_iret, o_zret, o_cret, o_lret, o_aret, lg, lput, lput2, ls1, isL, entL, wsum, rdI1, rdI2, rdA1, rdA21, rdA22, rdL1, rdL22, rdL21, upN_at, rep, sh_0, F_0_0, F_0_1, F_0_2, F_0_3, F_0_4, F_0_5, F_0_6, F_0_7, F_0_8, sh_1, F_1_0, F_1_1, F_1_2, F_1_3, F_1_4, F_1_5, sh_3, F_3_0, F_3_1, F_3_2, F_3_3, F_3_4, F_3_5, sh_5, F_5_0, F_5_1, F_5_2, F_5_3, F_5_4, F_5_5, F_5_6, F_5_7, F_5_8, sh_12, F_12_0, F_12_1, F_12_2, F_12_3, F_12_4, F_12_5, sh_14, F_14_0, F_14_1, F_14_2, F_14_3, F_14_4, F_14_5, F_14_6, F_14_7, F_14_8, sh_21, F_21_0, F_21_1, F_21_2, F_21_3, F_21_4, F_21_5, F_21_6, F_21_7, F_21_8, sh_28, F_28_0, F_28_1, F_28_2, F_28_3, F_28_4, F_28_5, F_28_6, F_28_7, F_28_8, sh_35, F_35_0, sh_39, F_39_0, F_39_1, F_39_2, F_39_3, F_39_4, F_39_5, F_39_6, F_39_7, F_39_8, F_39_9, F_39_10, F_39_11, F_39_12, F_39_13, A_2, A_4, A_6, A_7, A_8, A_9, A_10, A_11, A_13, A_15, A_16, A_17, A_18, A_19, A_20, A_22, A_23, A_24, A_25, A_26, A_27, A_29, A_30, A_31, A_32, A_33, A_34, A_36, A_37, A_38, A_40, A_41, A_42, A_43, A_44, A_45, A_46, A_47]
    rw [hn]
    simp (disch := omega) only [nI_leI, nI_ltI, nI_eq, nI_1, nI_add, one_shl, nI_or, nI_xor, nI_and, bit_0, bit_1, true_or, or_true, true_and, and_true, eq_self, not_true_eq_false, not_false_eq_true, forall_const]
    refine ⟨fun z => ?_, fun z => ⟨fun z2 => cut _ _ ⟨rfl, rfl, i + 1, f, by omega, ?_, rfl, rfl, rfl⟩ (by omega) ⟨rfl, rfl, rfl, trivial⟩, fun z2 => ⟨i, by omega, rfl, ?_⟩⟩⟩
    · rw [show n = i by omega] at h; exact h f hf
    · intro j hj
      rw [fsp, if_neg (by rw [z2]; decide)]; exact hf j hj
    · have hlt := fsp_lt (r := r) (T := T) i (fun k hk => (hr k (by omega)).2)
      have hv := (hr i (by omega)).2
      have hw := rs_lt hlt 9 (Nat.le_refl 9) (r i) hv
      rw [(hr i (by omega)).1]
      refine ⟨r i, fsp r T i, rfl, hv, fun j hj => ⟨hf j hj, hlt j hj⟩, fun z3 => ?_, fun t ht hb hz => ?_⟩
      · dsimp only [k_X4_fillSpan_0, k_X4_fillSpan_1, k_X4_fillSpan_4, k_X4_fillSpan_7, k_X4_fillSpan_8, k_X4_fillSpan_9, k_X4_fillSpan_10, k_X4_fillSpan_11, k_X4_fillSpan_14, k_X4_fillSpan_17, k_X4_fillSpan_20, k_X4_fillSpan_23, k_X4_fillSpan_24, k_X4_fillSpan_25, k_X4_fillSpan_26, k_X4_fillSpan_27, k_X4_fillSpan_28, k_X4_fillSpan_31, k_X4_fillSpan_32, k_X4_fillSpan_35, k_X4_fillSpan_36, k_X4_fillSpan_39, k_X4_fillSpan_42, k_X4_fillSpan_45, k_X4_fillSpan_46, k_X4_fillSpan_47, k_X4_fillSpan_50, k_X4_fillSpan_51, k_X4_fillSpan_54, k_X4_fillSpan_57, wp1, wp_s, cutIn, kont, Nat.reduceSub, Nat.reduceAdd, nth, o_const, o_lconst, o_ref, o_iload, o_lload, o_aload, o_istore, o_lstore, o_astore, o_iinc, o_bin, o_div, o_un, o_lbin, o_lsh, o_lcmp, o_i2l, o_l2i, o_if, o_icmp, o_goto, o_dup, o_dup2, o_pop, fav, o_getf, o_putI, o_putZ, o_putL, o_ald, o_ast, o_alen, popn, rst, o_callV, o_callT, o_callS, swx, o_sw, o_ret, o_iret, o_zret, o_cret, o_lret, o_aret, lg, lput, lput2, ls1, isL, entL, wsum, rdI1, rdI2, rdA1, rdA21, rdA22, rdL1, rdL22, rdL21, upN_at, rep, sh_0, F_0_0, F_0_1, F_0_2, F_0_3, F_0_4, F_0_5, F_0_6, F_0_7, F_0_8, sh_1, F_1_0, F_1_1, F_1_2, F_1_3, F_1_4, F_1_5, sh_3, F_3_0, F_3_1, F_3_2, F_3_3, F_3_4, F_3_5, sh_5, F_5_0, F_5_1, F_5_2, F_5_3, F_5_4, F_5_5, F_5_6, F_5_7, F_5_8, sh_12, F_12_0, F_12_1, F_12_2, F_12_3, F_12_4, F_12_5, sh_14, F_14_0, F_14_1, F_14_2, F_14_3, F_14_4, F_14_5, F_14_6, F_14_7, F_14_8, sh_21, F_21_0, F_21_1, F_21_2, F_21_3, F_21_4, F_21_5, F_21_6, F_21_7, F_21_8, sh_28, F_28_0, F_28_1, F_28_2, F_28_3, F_28_4, F_28_5, F_28_6, F_28_7, F_28_8, sh_35, F_35_0, sh_39, F_39_0, F_39_1, F_39_2, F_39_3, F_39_4, F_39_5, F_39_6, F_39_7, F_39_8, F_39_9, F_39_10, F_39_11, F_39_12, F_39_13, A_2, A_4, A_6, A_7, A_8, A_9, A_10, A_11, A_13, A_15, A_16, A_17, A_18, A_19, A_20, A_22, A_23, A_24, A_25, A_26, A_27, A_29, A_30, A_31, A_32, A_33, A_34, A_36, A_37, A_38, A_40, A_41, A_42, A_43, A_44, A_45, A_46, A_47]
        refine cut _ _ ⟨rfl, rfl, i + 1, f, by omega, ?_, rfl, rfl, rfl⟩ (by omega) ⟨rfl, rfl, vi_eq (nI_1 _), trivial⟩
        intro j hj
        rw [fsp, if_pos (by simpa using z2), wid, if_pos z3]; exact hf j hj
      · dsimp only [k_X4_fillSpan_0, k_X4_fillSpan_1, k_X4_fillSpan_4, k_X4_fillSpan_7, k_X4_fillSpan_8, k_X4_fillSpan_9, k_X4_fillSpan_10, k_X4_fillSpan_11, k_X4_fillSpan_14, k_X4_fillSpan_17, k_X4_fillSpan_20, k_X4_fillSpan_23, k_X4_fillSpan_24, k_X4_fillSpan_25, k_X4_fillSpan_26, k_X4_fillSpan_27, k_X4_fillSpan_28, k_X4_fillSpan_31, k_X4_fillSpan_32, k_X4_fillSpan_35, k_X4_fillSpan_36, k_X4_fillSpan_39, k_X4_fillSpan_42, k_X4_fillSpan_45, k_X4_fillSpan_46, k_X4_fillSpan_47, k_X4_fillSpan_50, k_X4_fillSpan_51, k_X4_fillSpan_54, k_X4_fillSpan_57, wp1, wp_s, cutIn, kont, Nat.reduceSub, Nat.reduceAdd, nth, o_const, o_lconst, o_ref, o_iload, o_lload, o_aload, o_istore, o_lstore, o_astore, o_iinc, o_bin, o_div, o_un, o_lbin, o_lsh, o_lcmp, o_i2l, o_l2i, o_if, o_icmp, o_goto, o_dup, o_dup2, o_pop, fav, o_getf, o_putI, o_putZ, o_putL, o_ald, o_ast, o_alen, popn, rst, o_callV, o_callT, o_callS, swx, o_sw, o_ret, o_iret, o_zret, o_cret, o_lret, o_aret, lg, lput, lput2, ls1, isL, entL, wsum, rdI1, rdI2, rdA1, rdA21, rdA22, rdL1, rdL22, rdL21, upN_at, rep, sh_0, F_0_0, F_0_1, F_0_2, F_0_3, F_0_4, F_0_5, F_0_6, F_0_7, F_0_8, sh_1, F_1_0, F_1_1, F_1_2, F_1_3, F_1_4, F_1_5, sh_3, F_3_0, F_3_1, F_3_2, F_3_3, F_3_4, F_3_5, sh_5, F_5_0, F_5_1, F_5_2, F_5_3, F_5_4, F_5_5, F_5_6, F_5_7, F_5_8, sh_12, F_12_0, F_12_1, F_12_2, F_12_3, F_12_4, F_12_5, sh_14, F_14_0, F_14_1, F_14_2, F_14_3, F_14_4, F_14_5, F_14_6, F_14_7, F_14_8, sh_21, F_21_0, F_21_1, F_21_2, F_21_3, F_21_4, F_21_5, F_21_6, F_21_7, F_21_8, sh_28, F_28_0, F_28_1, F_28_2, F_28_3, F_28_4, F_28_5, F_28_6, F_28_7, F_28_8, sh_35, F_35_0, sh_39, F_39_0, F_39_1, F_39_2, F_39_3, F_39_4, F_39_5, F_39_6, F_39_7, F_39_8, F_39_9, F_39_10, F_39_11, F_39_12, F_39_13, A_2, A_4, A_6, A_7, A_8, A_9, A_10, A_11, A_13, A_15, A_16, A_17, A_18, A_19, A_20, A_22, A_23, A_24, A_25, A_26, A_27, A_29, A_30, A_31, A_32, A_33, A_34, A_36, A_37, A_38, A_40, A_41, A_42, A_43, A_44, A_45, A_46, A_47]
        refine cut _ _ ⟨rfl, rfl, i + 1, upd f t (nI (rs (fsp r T i) (r i) 9)), by omega, ?_, ?_, rfl, rfl⟩ (by omega) ⟨rfl, rfl, vi_eq (nI_1 _), trivial⟩
        · intro j hj
          have h0 : rs (fsp r T i) (r i) 9 ≠ 0 := fun e => by rw [e, Nat.zero_testBit] at hb; cases hb
          obtain ⟨t1, t2, t3⟩ := tp_spec 9 (ne0_bit hw h0)
          have et : t = tp (rs (fsp r T i) (r i) 9) 9 := by
            rcases Nat.lt_trichotomy t (tp (rs (fsp r T i) (r i) 9) 9) with g | g | g
            · rw [hz _ g t1] at t2; cases t2
            · exact g
            · rw [t3 _ g ht] at hb; cases hb
          rw [fsp, if_pos (by simpa using z2), wid, if_neg h0]
          unfold upd
          rw [← et]
          split
          · rfl
          · exact hf j hj
        · rw [sA_sA]
  · dsimp only [k_X4_fillSpan_0, k_X4_fillSpan_1, k_X4_fillSpan_4, k_X4_fillSpan_7, k_X4_fillSpan_8, k_X4_fillSpan_9, k_X4_fillSpan_10, k_X4_fillSpan_11, k_X4_fillSpan_14, k_X4_fillSpan_17, k_X4_fillSpan_20, k_X4_fillSpan_23, k_X4_fillSpan_24, k_X4_fillSpan_25, k_X4_fillSpan_26, k_X4_fillSpan_27, k_X4_fillSpan_28, k_X4_fillSpan_31, k_X4_fillSpan_32, k_X4_fillSpan_35, k_X4_fillSpan_36, k_X4_fillSpan_39, k_X4_fillSpan_42, k_X4_fillSpan_45, k_X4_fillSpan_46, k_X4_fillSpan_47, k_X4_fillSpan_50, k_X4_fillSpan_51, k_X4_fillSpan_54, k_X4_fillSpan_57, wp1, wp_s, cutIn, kont, Nat.reduceSub, Nat.reduceAdd, nth, o_const, o_lconst, o_ref, o_iload, o_lload, o_aload, o_istore, o_lstore, o_astore, o_iinc, o_bin, o_div, o_un, o_lbin, o_lsh, o_lcmp, o_i2l, o_l2i, o_if, o_icmp, o_goto, o_dup, o_dup2, o_pop, fav, o_getf, o_putI, o_putZ, o_putL, o_ald, o_ast, o_alen, popn, rst, o_callV, o_callT, o_callS, swx, o_sw, o_ret, o_iret, o_zret, o_cret, o_lret, o_aret, lg, lput, lput2, ls1, isL, entL, wsum, rdI1, rdI2, rdA1, rdA21, rdA22, rdL1, rdL22, rdL21, upN_at, rep, sh_0, F_0_0, F_0_1, F_0_2, F_0_3, F_0_4, F_0_5, F_0_6, F_0_7, F_0_8, sh_1, F_1_0, F_1_1, F_1_2, F_1_3, F_1_4, F_1_5, sh_3, F_3_0, F_3_1, F_3_2, F_3_3, F_3_4, F_3_5, sh_5, F_5_0, F_5_1, F_5_2, F_5_3, F_5_4, F_5_5, F_5_6, F_5_7, F_5_8, sh_12, F_12_0, F_12_1, F_12_2, F_12_3, F_12_4, F_12_5, sh_14, F_14_0, F_14_1, F_14_2, F_14_3, F_14_4, F_14_5, F_14_6, F_14_7, F_14_8, sh_21, F_21_0, F_21_1, F_21_2, F_21_3, F_21_4, F_21_5, F_21_6, F_21_7, F_21_8, sh_28, F_28_0, F_28_1, F_28_2, F_28_3, F_28_4, F_28_5, F_28_6, F_28_7, F_28_8, sh_35, F_35_0, sh_39, F_39_0, F_39_1, F_39_2, F_39_3, F_39_4, F_39_5, F_39_6, F_39_7, F_39_8, F_39_9, F_39_10, F_39_11, F_39_12, F_39_13, A_2, A_4, A_6, A_7, A_8, A_9, A_10, A_11, A_13, A_15, A_16, A_17, A_18, A_19, A_20, A_22, A_23, A_24, A_25, A_26, A_27, A_29, A_30, A_31, A_32, A_33, A_34, A_36, A_37, A_38, A_40, A_41, A_42, A_43, A_44, A_45, A_46, A_47]
    refine ⟨rfl, ?_⟩
    dsimp only [k_X4_fillSpan_0, k_X4_fillSpan_1, k_X4_fillSpan_4, k_X4_fillSpan_7, k_X4_fillSpan_8, k_X4_fillSpan_9, k_X4_fillSpan_10, k_X4_fillSpan_11, k_X4_fillSpan_14, k_X4_fillSpan_17, k_X4_fillSpan_20, k_X4_fillSpan_23, k_X4_fillSpan_24, k_X4_fillSpan_25, k_X4_fillSpan_26, k_X4_fillSpan_27, k_X4_fillSpan_28, k_X4_fillSpan_31, k_X4_fillSpan_32, k_X4_fillSpan_35, k_X4_fillSpan_36, k_X4_fillSpan_39, k_X4_fillSpan_42, k_X4_fillSpan_45, k_X4_fillSpan_46, k_X4_fillSpan_47, k_X4_fillSpan_50, k_X4_fillSpan_51, k_X4_fillSpan_54, k_X4_fillSpan_57, wp1, wp_s, cutIn, kont, Nat.reduceSub, Nat.reduceAdd, nth, o_const, o_lconst, o_ref, o_iload, o_lload, o_aload, o_istore, o_lstore, o_astore, o_iinc, o_bin, o_div, o_un, o_lbin, o_lsh, o_lcmp, o_i2l, o_l2i, o_if, o_icmp, o_goto, o_dup, o_dup2, o_pop, fav, o_getf, o_putI, o_putZ, o_putL, o_ald, o_ast, o_alen, popn, rst, o_callV, o_callT, o_callS, swx, o_sw, o_ret, o_iret, o_zret, o_cret, o_lret, o_aret, lg, lput, lput2, ls1, isL, entL, wsum, rdI1, rdI2, rdA1, rdA21, rdA22, rdL1, rdL22, rdL21, upN_at, rep, sh_0, F_0_0, F_0_1, F_0_2, F_0_3, F_0_4, F_0_5, F_0_6, F_0_7, F_0_8, sh_1, F_1_0, F_1_1, F_1_2, F_1_3, F_1_4, F_1_5, sh_3, F_3_0, F_3_1, F_3_2, F_3_3, F_3_4, F_3_5, sh_5, F_5_0, F_5_1, F_5_2, F_5_3, F_5_4, F_5_5, F_5_6, F_5_7, F_5_8, sh_12, F_12_0, F_12_1, F_12_2, F_12_3, F_12_4, F_12_5, sh_14, F_14_0, F_14_1, F_14_2, F_14_3, F_14_4, F_14_5, F_14_6, F_14_7, F_14_8, sh_21, F_21_0, F_21_1, F_21_2, F_21_3, F_21_4, F_21_5, F_21_6, F_21_7, F_21_8, sh_28, F_28_0, F_28_1, F_28_2, F_28_3, F_28_4, F_28_5, F_28_6, F_28_7, F_28_8, sh_35, F_35_0, sh_39, F_39_0, F_39_1, F_39_2, F_39_3, F_39_4, F_39_5, F_39_6, F_39_7, F_39_8, F_39_9, F_39_10, F_39_11, F_39_12, F_39_13, A_2, A_4, A_6, A_7, A_8, A_9, A_10, A_11, A_13, A_15, A_16, A_17, A_18, A_19, A_20, A_22, A_23, A_24, A_25, A_26, A_27, A_29, A_30, A_31, A_32, A_33, A_34, A_36, A_37, A_38, A_40, A_41, A_42, A_43, A_44, A_45, A_46, A_47]
    refine cut _ _ ⟨rfl, rfl, 0, _, by omega, ?_, rfl, rfl, rfl⟩ (by omega) ⟨rfl, rfl, rfl, trivial⟩
    intro j hj
    unfold cpy
    rw [if_pos hj]; rfl
theorem c_X4_fillSpan : Ctr yX4_fillSpan cX4_fillSpan 3 none ({ frames := 2, cells := 0, slots := 0, locals := 46 } : Room) S_X4_fillSpan := ctr_of (T := T_X4_fillSpan) (by decide +kernel) (fun post C hr => t_X4_fillSpan post C hr) v_X4_fillSpan
/-- the locks that the keys of the set T open -/
def opn (r : Nat → Nat) (n : Nat) (lk : Nat → Nat) (c T : Nat) : Nat := mk (fun l => rs (fsp r T n) (lk l) 9 == 0) c
/-- the keys that a group has -/
def hd (h : Nat → Int32) (g p n : Nat) : Nat := mk (hh h g p) n
theorem hd_congr {h h' : Nat → Int32} {n : Nat} (hk : ∀ k, k < n → h k = h' k) (g p : Nat) : hd h g p n = hd h' g p n := by
  refine mk_congr fun k hkn => ?_
  induction p with
  | zero => rfl
  | succ p ih => rw [hh, hh, ih, hk k hkn]
def S_X4_openedBy : SP := fun as M post => ∃ T n c p r h lk, as = [VR 0, VI (nI T)] ∧ T < 2 ^ 31 ∧ XW M n c p r h lk ∧ ∀ f, post (some (VI (nI (opn r n lk c T)))) (sA 27 f M)
theorem cw_RX4_169 : ∀ w ∈ ([.methodLink RX4 169 yX4_fillSpan, .instanceMethod yX4_fillSpan, .selects yX4_fillSpan.cls yX4_fillSpan yX4_fillSpan, .initialized yX4_fillSpan.cls, .code yX4_fillSpan cX4_fillSpan 3 none] : List Cond), w ∈ tb := tb_all [492, 494, 15, 54, 495] (by decide +kernel) (by decide +kernel)
theorem fl_RX4_208 : Cond.fieldLink RX4 208 (TX0 2).1 (TX0 2).2.1 (TX0 2).2.2.1 ∈ tb := tb_of 155 (by decide +kernel) (by decide +kernel)
theorem fl_RX4_90 : Cond.fieldLink RX4 90 (TX0 1).1 (TX0 1).2.1 (TX0 1).2.2.1 ∈ tb := tb_of 153 (by decide +kernel) (by decide +kernel)
theorem cw_RX4_172 : ∀ w ∈ ([.methodLink RX4 172 yX2_makes, .instanceMethod yX2_makes, .selects yX2_makes.cls yX2_makes yX2_makes, .initialized yX2_makes.cls, .code yX2_makes cX2_makes 2 (some .boolean)] : List Cond), w ∈ tb := tb_all [496, 497, 498, 58, 499] (by decide +kernel) (by decide +kernel)
theorem dX4_openedBy_0 : decode cX4_openedBy 0 = .ok (.aload_n 0, 1) := by decide +kernel
theorem dX4_openedBy_1 : decode cX4_openedBy 1 = .ok (.iload_n 1, 1) := by decide +kernel
theorem dX4_openedBy_2 : decode cX4_openedBy 2 = .ok (.invokevirtual 169, 3) := by decide +kernel
theorem dX4_openedBy_5 : decode cX4_openedBy 5 = .ok (.iconst 0, 1) := by decide +kernel
theorem dX4_openedBy_6 : decode cX4_openedBy 6 = .ok (.istore_n 2, 1) := by decide +kernel
theorem dX4_openedBy_7 : decode cX4_openedBy 7 = .ok (.iconst 0, 1) := by decide +kernel
theorem dX4_openedBy_8 : decode cX4_openedBy 8 = .ok (.istore_n 3, 1) := by decide +kernel
theorem dX4_openedBy_9 : decode cX4_openedBy 9 = .ok (.iload_n 3, 1) := by decide +kernel
theorem dX4_openedBy_10 : decode cX4_openedBy 10 = .ok (.aload_n 0, 1) := by decide +kernel
theorem dX4_openedBy_11 : decode cX4_openedBy 11 = .ok (.getfield 19, 3) := by decide +kernel
theorem dX4_openedBy_14 : decode cX4_openedBy 14 = .ok (.getfield 208, 3) := by decide +kernel
theorem dX4_openedBy_17 : decode cX4_openedBy 17 = .ok (.if_icmp .ge 34, 3) := by decide +kernel
theorem dX4_openedBy_20 : decode cX4_openedBy 20 = .ok (.aload_n 0, 1) := by decide +kernel
theorem dX4_openedBy_21 : decode cX4_openedBy 21 = .ok (.getfield 39, 3) := by decide +kernel
theorem dX4_openedBy_24 : decode cX4_openedBy 24 = .ok (.aload_n 0, 1) := by decide +kernel
theorem dX4_openedBy_25 : decode cX4_openedBy 25 = .ok (.getfield 19, 3) := by decide +kernel
theorem dX4_openedBy_28 : decode cX4_openedBy 28 = .ok (.getfield 90, 3) := by decide +kernel
theorem dX4_openedBy_31 : decode cX4_openedBy 31 = .ok (.iload_n 3, 1) := by decide +kernel
theorem dX4_openedBy_32 : decode cX4_openedBy 32 = .ok (.iaload, 1) := by decide +kernel
theorem dX4_openedBy_33 : decode cX4_openedBy 33 = .ok (.invokevirtual 172, 3) := by decide +kernel
theorem dX4_openedBy_36 : decode cX4_openedBy 36 = .ok (.ifCond .eq 9, 3) := by decide +kernel
theorem dX4_openedBy_39 : decode cX4_openedBy 39 = .ok (.iload_n 2, 1) := by decide +kernel
theorem dX4_openedBy_40 : decode cX4_openedBy 40 = .ok (.iconst 1, 1) := by decide +kernel
theorem dX4_openedBy_41 : decode cX4_openedBy 41 = .ok (.iload_n 3, 1) := by decide +kernel
theorem dX4_openedBy_42 : decode cX4_openedBy 42 = .ok (.ishl, 1) := by decide +kernel
theorem dX4_openedBy_43 : decode cX4_openedBy 43 = .ok (.ior, 1) := by decide +kernel
theorem dX4_openedBy_44 : decode cX4_openedBy 44 = .ok (.istore_n 2, 1) := by decide +kernel
theorem dX4_openedBy_45 : decode cX4_openedBy 45 = .ok (.iinc 3 1, 3) := by decide +kernel
theorem dX4_openedBy_48 : decode cX4_openedBy 48 = .ok (.goto (-39), 3) := by decide +kernel
theorem dX4_openedBy_51 : decode cX4_openedBy 51 = .ok (.iload_n 2, 1) := by decide +kernel
theorem dX4_openedBy_52 : decode cX4_openedBy 52 = .ok (.ireturn, 1) := by decide +kernel
def T_X4_openedBy (post : PO) : List (Nat × OP) := [(0, o_aload 0 1), (1, o_iload 1 2), (2, o_callV 4 S_X4_fillSpan 1 5), (5, o_const 0 6), (6, o_istore 2 7), (7, o_const 0 8), (8, o_istore 3 9), (9, o_iload 3 10), (10, o_aload 0 11), (11, o_getf 4 1 14), (14, o_getf 0 2 17), (17, o_icmp (fun x y => y ≤ x) 51 20), (20, o_aload 0 21), (21, o_getf 4 5 24), (24, o_aload 0 25), (25, o_getf 4 1 28), (28, o_getf 0 1 31), (31, o_iload 3 32), (32, o_ald 0 33), (33, o_callV 2 S_X2_makes 1 36), (36, o_if (fun x => x = 0) 45 39), (39, o_iload 2 40), (40, o_const 1 41), (41, o_iload 3 42), (42, o_bin (fun x y => x <<< (y &&& 31)) 43), (43, o_bin (fun x y => x ||| y) 44), (44, o_istore 2 45), (45, o_iinc 3 1 48), (48, o_goto 9), (51, o_iload 2 52), (52, o_iret post)]
theorem k_X4_openedBy_0 (post : PO) : lk (T_X4_openedBy post) 0 = o_aload 0 1 := rfl
theorem k_X4_openedBy_1 (post : PO) : lk (T_X4_openedBy post) 1 = o_iload 1 2 := rfl
theorem k_X4_openedBy_2 (post : PO) : lk (T_X4_openedBy post) 2 = o_callV 4 S_X4_fillSpan 1 5 := rfl
theorem k_X4_openedBy_5 (post : PO) : lk (T_X4_openedBy post) 5 = o_const 0 6 := rfl
theorem k_X4_openedBy_6 (post : PO) : lk (T_X4_openedBy post) 6 = o_istore 2 7 := rfl
theorem k_X4_openedBy_7 (post : PO) : lk (T_X4_openedBy post) 7 = o_const 0 8 := rfl
theorem k_X4_openedBy_8 (post : PO) : lk (T_X4_openedBy post) 8 = o_istore 3 9 := rfl
theorem k_X4_openedBy_9 (post : PO) : lk (T_X4_openedBy post) 9 = o_iload 3 10 := rfl
theorem k_X4_openedBy_10 (post : PO) : lk (T_X4_openedBy post) 10 = o_aload 0 11 := rfl
theorem k_X4_openedBy_11 (post : PO) : lk (T_X4_openedBy post) 11 = o_getf 4 1 14 := rfl
theorem k_X4_openedBy_14 (post : PO) : lk (T_X4_openedBy post) 14 = o_getf 0 2 17 := rfl
theorem k_X4_openedBy_17 (post : PO) : lk (T_X4_openedBy post) 17 = o_icmp (fun x y => y ≤ x) 51 20 := rfl
theorem k_X4_openedBy_20 (post : PO) : lk (T_X4_openedBy post) 20 = o_aload 0 21 := rfl
theorem k_X4_openedBy_21 (post : PO) : lk (T_X4_openedBy post) 21 = o_getf 4 5 24 := rfl
theorem k_X4_openedBy_24 (post : PO) : lk (T_X4_openedBy post) 24 = o_aload 0 25 := rfl
theorem k_X4_openedBy_25 (post : PO) : lk (T_X4_openedBy post) 25 = o_getf 4 1 28 := rfl
theorem k_X4_openedBy_28 (post : PO) : lk (T_X4_openedBy post) 28 = o_getf 0 1 31 := rfl
theorem k_X4_openedBy_31 (post : PO) : lk (T_X4_openedBy post) 31 = o_iload 3 32 := rfl
theorem k_X4_openedBy_32 (post : PO) : lk (T_X4_openedBy post) 32 = o_ald 0 33 := rfl
theorem k_X4_openedBy_33 (post : PO) : lk (T_X4_openedBy post) 33 = o_callV 2 S_X2_makes 1 36 := rfl
theorem k_X4_openedBy_36 (post : PO) : lk (T_X4_openedBy post) 36 = o_if (fun x => x = 0) 45 39 := rfl
theorem k_X4_openedBy_39 (post : PO) : lk (T_X4_openedBy post) 39 = o_iload 2 40 := rfl
theorem k_X4_openedBy_40 (post : PO) : lk (T_X4_openedBy post) 40 = o_const 1 41 := rfl
theorem k_X4_openedBy_41 (post : PO) : lk (T_X4_openedBy post) 41 = o_iload 3 42 := rfl
theorem k_X4_openedBy_42 (post : PO) : lk (T_X4_openedBy post) 42 = o_bin (fun x y => x <<< (y &&& 31)) 43 := rfl
theorem k_X4_openedBy_43 (post : PO) : lk (T_X4_openedBy post) 43 = o_bin (fun x y => x ||| y) 44 := rfl
theorem k_X4_openedBy_44 (post : PO) : lk (T_X4_openedBy post) 44 = o_istore 2 45 := rfl
theorem k_X4_openedBy_45 (post : PO) : lk (T_X4_openedBy post) 45 = o_iinc 3 1 48 := rfl
theorem k_X4_openedBy_48 (post : PO) : lk (T_X4_openedBy post) 48 = o_goto 9 := rfl
theorem k_X4_openedBy_51 (post : PO) : lk (T_X4_openedBy post) 51 = o_iload 2 52 := rfl
theorem k_X4_openedBy_52 (post : PO) : lk (T_X4_openedBy post) 52 = o_iret post := rfl
set_option maxRecDepth 100000 in
theorem t_X4_openedBy {p : Program} {l : Launch} {e : Env} {s : State} {m : MethodId} {args : Array Value} {below : List Frame} {meth : Method} {c : Code} {D : va_G} {dA : Nat → ClassId} {ad : Nat → Nat} (post : PO) (C : CX p s m args meth c cX4_openedBy 4 yX4_openedBy.cls D dA ad (AA ad s.heap.size)) (hr : meth.sig.returnType = (some .int)) : SndL (WW p l e ({ frames := 3, cells := 0, slots := 0, locals := 68 } : Room) s m args below meth c 0 0 (MQ below (CQ D dA ad post (AA ad s.heap.size)) args s 0 0 (AA ad s.heap.size)) 4 D dA ad (AA ad s.heap.size)) (T_X4_openedBy post) := by
  refine snd_c (s_aload_n C rfl dX4_openedBy_0) ?_
  refine snd_c (s_iload_n C rfl dX4_openedBy_1) ?_
  refine snd_c (s_callV C (ci := 4) c_X4_fillSpan rfl cw_RX4_169 ⟨rfl, rfl⟩ ⟨by decide +kernel, by decide +kernel, by decide +kernel⟩ ⟨by decide, by decide⟩ ⟨Nat.zero_le _, Nat.zero_le _⟩ dX4_openedBy_2) ?_
  refine snd_c (s_iconst C dX4_openedBy_5 rfl) ?_
  refine snd_c (s_istore_n C rfl (by decide) dX4_openedBy_6) ?_
  refine snd_c (s_iconst C dX4_openedBy_7 rfl) ?_
  refine snd_c (s_istore_n C rfl (by decide) dX4_openedBy_8) ?_
  refine snd_c (s_iload_n C rfl dX4_openedBy_9) ?_
  refine snd_c (s_aload_n C rfl dX4_openedBy_10) ?_
  refine snd_c (s_getf C (ci := 4) (j := 1) (T := TX4) rfl inX4 (by decide) fl_RX4_19 dX4_openedBy_11) ?_
  refine snd_c (s_getf C (ci := 0) (j := 2) (T := TX0) rfl inX0 (by decide) fl_RX4_208 dX4_openedBy_14) ?_
  refine snd_c (s_icmp_ge C dX4_openedBy_17 (by decide)) ?_
  refine snd_c (s_aload_n C rfl dX4_openedBy_20) ?_
  refine snd_c (s_getf C (ci := 4) (j := 5) (T := TX4) rfl inX4 (by decide) fl_RX4_39 dX4_openedBy_21) ?_
  refine snd_c (s_aload_n C rfl dX4_openedBy_24) ?_
  refine snd_c (s_getf C (ci := 4) (j := 1) (T := TX4) rfl inX4 (by decide) fl_RX4_19 dX4_openedBy_25) ?_
  refine snd_c (s_getf C (ci := 0) (j := 1) (T := TX0) rfl inX0 (by decide) fl_RX4_90 dX4_openedBy_28) ?_
  refine snd_c (s_iload_n C rfl dX4_openedBy_31) ?_
  refine snd_c (s_iald C dX4_openedBy_32) ?_
  refine snd_c (s_callV C (ci := 2) c_X2_makes rfl cw_RX4_172 ⟨rfl, rfl⟩ ⟨by decide +kernel, by decide +kernel, by decide +kernel⟩ ⟨by decide, by decide⟩ ⟨Nat.zero_le _, Nat.zero_le _⟩ dX4_openedBy_33) ?_
  refine snd_c (s_if_eq C dX4_openedBy_36 (by decide)) ?_
  refine snd_c (s_iload_n C rfl dX4_openedBy_39) ?_
  refine snd_c (s_iconst C dX4_openedBy_40 rfl) ?_
  refine snd_c (s_iload_n C rfl dX4_openedBy_41) ?_
  refine snd_c (s_ishl C dX4_openedBy_42) ?_
  refine snd_c (s_ior C dX4_openedBy_43) ?_
  refine snd_c (s_istore_n C rfl (by decide) dX4_openedBy_44) ?_
  refine snd_c (s_iinc C (by decide) rfl dX4_openedBy_45) ?_
  refine snd_c (s_goto C dX4_openedBy_48 (by decide)) ?_
  refine snd_c (s_iload_n C rfl dX4_openedBy_51) ?_
  refine snd_c (s_iret C hr dX4_openedBy_52) ?_
  exact trivial
set_option maxRecDepth 100000 in
theorem v_X4_openedBy : ∀ as M post, S_X4_openedBy as M post → wsum as ≤ 4 ∧ RUN (T_X4_openedBy post) 0 (entL 4 as) [] M := by
  rintro as M post ⟨T, n, c, p, r, h0, lk, rfl, hT, hX, h⟩
  have hX0 := hX
  obtain ⟨hn, hn8, hc, hc6, hp, hp4, hr, hhk, hl⟩ := hX
  have hlt := fsp_lt (r := r) (T := T) n (fun k hk => (hr k hk).2)
  refine ⟨by show 2 ≤ 4; omega, run_of [9] (fun μ pc lv st M' => pc = 9 ∧ st = [] ∧ ∃ i f, i ≤ c ∧ (∀ j, j < 9 → f j = nI (fsp r T n j)) ∧ M' = sA 27 f M ∧ 20 - i = μ ∧ lv = [some (VR 0), some (VI (nI T)), some (VI (nI (mk (fun l => rs (fsp r T n) (lk l) 9 == 0) i))), some (VI (nI i))]) 40 30 ?_ ?_⟩
  · rintro μ pc lv st M' ⟨rfl, rfl, i, f, hi, hf, rfl, rfl, rfl⟩
    dsimp only [k_X4_openedBy_0, k_X4_openedBy_1, k_X4_openedBy_2, k_X4_openedBy_5, k_X4_openedBy_6, k_X4_openedBy_7, k_X4_openedBy_8, k_X4_openedBy_9, k_X4_openedBy_10, k_X4_openedBy_11, k_X4_openedBy_14, k_X4_openedBy_17, k_X4_openedBy_20, k_X4_openedBy_21, k_X4_openedBy_24, k_X4_openedBy_25, k_X4_openedBy_28, k_X4_openedBy_31, k_X4_openedBy_32, k_X4_openedBy_33, k_X4_openedBy_36, k_X4_openedBy_39, k_X4_openedBy_40, k_X4_openedBy_41, k_X4_openedBy_42, k_X4_openedBy_43, k_X4_openedBy_44, k_X4_openedBy_45, k_X4_openedBy_48, k_X4_openedBy_51, k_X4_openedBy_52, wp1, wp_s, cutIn, kont, Nat.reduceSub, Nat.reduceAdd, nth, o_const, o_lconst, o_ref, o_iload, o_lload, o_aload, o_istore, o_lstore, o_astore, o_iinc, o_bin, o_div, o_un, o_lbin, o_lsh, o_lcmp, o_i2l, o_l2i, o_if, o_icmp, o_goto, o_dup, o_dup2, o_pop, fav, o_getf, o_putI, o_putZ, o_putL, o_ald, o_ast, o_alen, popn, rst, o_callV, o_callT, o_callS, swx, o_sw, o_ret, o_iret, o_zret, o_cret, o_lret, o_aret, lg, lput, lput2, ls1, isL, entL, wsum, rdI1, rdI2, rdA1, rdA21, rdA22, rdL1, rdL22, rdL21, upN_at, rep, sh_0, F_0_0, F_0_1, F_0_2, F_0_3, F_0_4, F_0_5, F_0_6, F_0_7, F_0_8, sh_1, F_1_0, F_1_1, F_1_2, F_1_3, F_1_4, F_1_5, sh_3, F_3_0, F_3_1, F_3_2, F_3_3, F_3_4, F_3_5, sh_5, F_5_0, F_5_1, F_5_2, F_5_3, F_5_4, F_5_5, F_5_6, F_5_7, F_5_8, sh_12, F_12_0, F_12_1, F_12_2, F_12_3, F_12_4, F_12_5, sh_14, F_14_0, F_14_1, F_14_2, F_14_3, F_14_4, F_14_5, F_14_6, F_14_7, F_14_8, sh_21, F_21_0, F_21_1, F_21_2, F_21_3, F_21_4, F_21_5, F_21_6, F_21_7, F_21_8, sh_28, F_28_0, F_28_1, F_28_2, F_28_3, F_28_4, F_28_5, F_28_6, F_28_7, F_28_8, sh_35, F_35_0, sh_39, F_39_0, F_39_1, F_39_2, F_39_3, F_39_4, F_39_5, F_39_6, F_39_7, F_39_8, F_39_9, F_39_10, F_39_11, F_39_12, F_39_13, A_2, A_4, A_6, A_7, A_8, A_9, A_10, A_11, A_13, A_15, A_16, A_17, A_18, A_19, A_20, A_22, A_23, A_24, A_25, A_26, A_27, A_29, A_30, A_31, A_32, A_33, A_34, A_36, A_37, A_38, A_40, A_41, A_42, A_43, A_44, A_45, A_46, A_47]
    rw [hc]
    simp (disch := omega) only [nI_leI, nI_ltI, nI_eq, nI_1, nI_add, one_shl, nI_or, nI_xor, nI_and, bit_0, bit_1, true_or, or_true, true_and, and_true, eq_self, not_true_eq_false, not_false_eq_true, forall_const]
    refine ⟨fun z => ?_, fun z => ⟨i, by omega, rfl, ?_⟩⟩
    · unfold opn at h
      rw [show c = i by omega] at h; exact h f
    · rw [(hl i (by omega)).1]
      refine ⟨lk i, fsp r T n, rfl, (hl i (by omega)).2, fun j hj => ⟨hf j hj, hlt j hj⟩, fun z2 => ?_, fun z2 => ?_⟩
      · dsimp only [k_X4_openedBy_0, k_X4_openedBy_1, k_X4_openedBy_2, k_X4_openedBy_5, k_X4_openedBy_6, k_X4_openedBy_7, k_X4_openedBy_8, k_X4_openedBy_9, k_X4_openedBy_10, k_X4_openedBy_11, k_X4_openedBy_14, k_X4_openedBy_17, k_X4_openedBy_20, k_X4_openedBy_21, k_X4_openedBy_24, k_X4_openedBy_25, k_X4_openedBy_28, k_X4_openedBy_31, k_X4_openedBy_32, k_X4_openedBy_33, k_X4_openedBy_36, k_X4_openedBy_39, k_X4_openedBy_40, k_X4_openedBy_41, k_X4_openedBy_42, k_X4_openedBy_43, k_X4_openedBy_44, k_X4_openedBy_45, k_X4_openedBy_48, k_X4_openedBy_51, k_X4_openedBy_52, wp1, wp_s, cutIn, kont, Nat.reduceSub, Nat.reduceAdd, nth, o_const, o_lconst, o_ref, o_iload, o_lload, o_aload, o_istore, o_lstore, o_astore, o_iinc, o_bin, o_div, o_un, o_lbin, o_lsh, o_lcmp, o_i2l, o_l2i, o_if, o_icmp, o_goto, o_dup, o_dup2, o_pop, fav, o_getf, o_putI, o_putZ, o_putL, o_ald, o_ast, o_alen, popn, rst, o_callV, o_callT, o_callS, swx, o_sw, o_ret, o_iret, o_zret, o_cret, o_lret, o_aret, lg, lput, lput2, ls1, isL, entL, wsum, rdI1, rdI2, rdA1, rdA21, rdA22, rdL1, rdL22, rdL21, upN_at, rep, sh_0, F_0_0, F_0_1, F_0_2, F_0_3, F_0_4, F_0_5, F_0_6, F_0_7, F_0_8, sh_1, F_1_0, F_1_1, F_1_2, F_1_3, F_1_4, F_1_5, sh_3, F_3_0, F_3_1, F_3_2, F_3_3, F_3_4, F_3_5, sh_5, F_5_0, F_5_1, F_5_2, F_5_3, F_5_4, F_5_5, F_5_6, F_5_7, F_5_8, sh_12, F_12_0, F_12_1, F_12_2, F_12_3, F_12_4, F_12_5, sh_14, F_14_0, F_14_1, F_14_2, F_14_3, F_14_4, F_14_5, F_14_6, F_14_7, F_14_8, sh_21, F_21_0, F_21_1, F_21_2, F_21_3, F_21_4, F_21_5, F_21_6, F_21_7, F_21_8, sh_28, F_28_0, F_28_1, F_28_2, F_28_3, F_28_4, F_28_5, F_28_6, F_28_7, F_28_8, sh_35, F_35_0, sh_39, F_39_0, F_39_1, F_39_2, F_39_3, F_39_4, F_39_5, F_39_6, F_39_7, F_39_8, F_39_9, F_39_10, F_39_11, F_39_12, F_39_13, A_2, A_4, A_6, A_7, A_8, A_9, A_10, A_11, A_13, A_15, A_16, A_17, A_18, A_19, A_20, A_22, A_23, A_24, A_25, A_26, A_27, A_29, A_30, A_31, A_32, A_33, A_34, A_36, A_37, A_38, A_40, A_41, A_42, A_43, A_44, A_45, A_46, A_47]
        simp (disch := omega) only [nI_leI, nI_ltI, nI_eq, nI_1, nI_add, one_shl, nI_or, nI_xor, nI_and, bit_0, bit_1, true_or, or_true, true_and, and_true, eq_self, not_true_eq_false, not_false_eq_true, forall_const]
        refine ⟨fun q => absurd q (by decide), fun _ => cut _ _ ⟨rfl, rfl, i + 1, f, by omega, hf, rfl, rfl, rfl⟩ (by omega) ⟨rfl, rfl, vi_eq ?_, rfl, trivial⟩⟩
        rw [mk, if_pos (by simpa using z2)]
      · dsimp only [k_X4_openedBy_0, k_X4_openedBy_1, k_X4_openedBy_2, k_X4_openedBy_5, k_X4_openedBy_6, k_X4_openedBy_7, k_X4_openedBy_8, k_X4_openedBy_9, k_X4_openedBy_10, k_X4_openedBy_11, k_X4_openedBy_14, k_X4_openedBy_17, k_X4_openedBy_20, k_X4_openedBy_21, k_X4_openedBy_24, k_X4_openedBy_25, k_X4_openedBy_28, k_X4_openedBy_31, k_X4_openedBy_32, k_X4_openedBy_33, k_X4_openedBy_36, k_X4_openedBy_39, k_X4_openedBy_40, k_X4_openedBy_41, k_X4_openedBy_42, k_X4_openedBy_43, k_X4_openedBy_44, k_X4_openedBy_45, k_X4_openedBy_48, k_X4_openedBy_51, k_X4_openedBy_52, wp1, wp_s, cutIn, kont, Nat.reduceSub, Nat.reduceAdd, nth, o_const, o_lconst, o_ref, o_iload, o_lload, o_aload, o_istore, o_lstore, o_astore, o_iinc, o_bin, o_div, o_un, o_lbin, o_lsh, o_lcmp, o_i2l, o_l2i, o_if, o_icmp, o_goto, o_dup, o_dup2, o_pop, fav, o_getf, o_putI, o_putZ, o_putL, o_ald, o_ast, o_alen, popn, rst, o_callV, o_callT, o_callS, swx, o_sw, o_ret, o_iret, o_zret, o_cret, o_lret, o_aret, lg, lput, lput2, ls1, isL, entL, wsum, rdI1, rdI2, rdA1, rdA21, rdA22, rdL1, rdL22, rdL21, upN_at, rep, sh_0, F_0_0, F_0_1, F_0_2, F_0_3, F_0_4, F_0_5, F_0_6, F_0_7, F_0_8, sh_1, F_1_0, F_1_1, F_1_2, F_1_3, F_1_4, F_1_5, sh_3, F_3_0, F_3_1, F_3_2, F_3_3, F_3_4, F_3_5, sh_5, F_5_0, F_5_1, F_5_2, F_5_3, F_5_4, F_5_5, F_5_6, F_5_7, F_5_8, sh_12, F_12_0, F_12_1, F_12_2, F_12_3, F_12_4, F_12_5, sh_14, F_14_0, F_14_1, F_14_2, F_14_3, F_14_4, F_14_5, F_14_6, F_14_7, F_14_8, sh_21, F_21_0, F_21_1, F_21_2, F_21_3, F_21_4, F_21_5, F_21_6, F_21_7, F_21_8, sh_28, F_28_0, F_28_1, F_28_2, F_28_3, F_28_4, F_28_5, F_28_6, F_28_7, F_28_8, sh_35, F_35_0, sh_39, F_39_0, F_39_1, F_39_2, F_39_3, F_39_4, F_39_5, F_39_6, F_39_7, F_39_8, F_39_9, F_39_10, F_39_11, F_39_12, F_39_13, A_2, A_4, A_6, A_7, A_8, A_9, A_10, A_11, A_13, A_15, A_16, A_17, A_18, A_19, A_20, A_22, A_23, A_24, A_25, A_26, A_27, A_29, A_30, A_31, A_32, A_33, A_34, A_36, A_37, A_38, A_40, A_41, A_42, A_43, A_44, A_45, A_46, A_47]
        refine ⟨fun _ => cut _ _ ⟨rfl, rfl, i + 1, f, by omega, hf, rfl, rfl, rfl⟩ (by omega) ⟨rfl, rfl, vi_eq ?_, vi_eq (nI_1 _), trivial⟩, fun q => absurd rfl q⟩
        rw [mk, if_neg (by simpa using z2)]
  · dsimp only [k_X4_openedBy_0, k_X4_openedBy_1, k_X4_openedBy_2, k_X4_openedBy_5, k_X4_openedBy_6, k_X4_openedBy_7, k_X4_openedBy_8, k_X4_openedBy_9, k_X4_openedBy_10, k_X4_openedBy_11, k_X4_openedBy_14, k_X4_openedBy_17, k_X4_openedBy_20, k_X4_openedBy_21, k_X4_openedBy_24, k_X4_openedBy_25, k_X4_openedBy_28, k_X4_openedBy_31, k_X4_openedBy_32, k_X4_openedBy_33, k_X4_openedBy_36, k_X4_openedBy_39, k_X4_openedBy_40, k_X4_openedBy_41, k_X4_openedBy_42, k_X4_openedBy_43, k_X4_openedBy_44, k_X4_openedBy_45, k_X4_openedBy_48, k_X4_openedBy_51, k_X4_openedBy_52, wp1, wp_s, cutIn, kont, Nat.reduceSub, Nat.reduceAdd, nth, o_const, o_lconst, o_ref, o_iload, o_lload, o_aload, o_istore, o_lstore, o_astore, o_iinc, o_bin, o_div, o_un, o_lbin, o_lsh, o_lcmp, o_i2l, o_l2i, o_if, o_icmp, o_goto, o_dup, o_dup2, o_pop, fav, o_getf, o_putI, o_putZ, o_putL, o_ald, o_ast, o_alen, popn, rst, o_callV, o_callT, o_callS, swx, o_sw, o_ret, o_iret, o_zret, o_cret, o_lret, o_aret, lg, lput, lput2, ls1, isL, entL, wsum, rdI1, rdI2, rdA1, rdA21, rdA22, rdL1, rdL22, rdL21, upN_at, rep, sh_0, F_0_0, F_0_1, F_0_2, F_0_3, F_0_4, F_0_5, F_0_6, F_0_7, F_0_8, sh_1, F_1_0, F_1_1, F_1_2, F_1_3, F_1_4, F_1_5, sh_3, F_3_0, F_3_1, F_3_2, F_3_3, F_3_4, F_3_5, sh_5, F_5_0, F_5_1, F_5_2, F_5_3, F_5_4, F_5_5, F_5_6, F_5_7, F_5_8, sh_12, F_12_0, F_12_1, F_12_2, F_12_3, F_12_4, F_12_5, sh_14, F_14_0, F_14_1, F_14_2, F_14_3, F_14_4, F_14_5, F_14_6, F_14_7, F_14_8, sh_21, F_21_0, F_21_1, F_21_2, F_21_3, F_21_4, F_21_5, F_21_6, F_21_7, F_21_8, sh_28, F_28_0, F_28_1, F_28_2, F_28_3, F_28_4, F_28_5, F_28_6, F_28_7, F_28_8, sh_35, F_35_0, sh_39, F_39_0, F_39_1, F_39_2, F_39_3, F_39_4, F_39_5, F_39_6, F_39_7, F_39_8, F_39_9, F_39_10, F_39_11, F_39_12, F_39_13, A_2, A_4, A_6, A_7, A_8, A_9, A_10, A_11, A_13, A_15, A_16, A_17, A_18, A_19, A_20, A_22, A_23, A_24, A_25, A_26, A_27, A_29, A_30, A_31, A_32, A_33, A_34, A_36, A_37, A_38, A_40, A_41, A_42, A_43, A_44, A_45, A_46, A_47]
    refine ⟨T, n, c, p, r, h0, lk, rfl, hT, hX0, fun f hf => ?_⟩
    dsimp only [k_X4_openedBy_0, k_X4_openedBy_1, k_X4_openedBy_2, k_X4_openedBy_5, k_X4_openedBy_6, k_X4_openedBy_7, k_X4_openedBy_8, k_X4_openedBy_9, k_X4_openedBy_10, k_X4_openedBy_11, k_X4_openedBy_14, k_X4_openedBy_17, k_X4_openedBy_20, k_X4_openedBy_21, k_X4_openedBy_24, k_X4_openedBy_25, k_X4_openedBy_28, k_X4_openedBy_31, k_X4_openedBy_32, k_X4_openedBy_33, k_X4_openedBy_36, k_X4_openedBy_39, k_X4_openedBy_40, k_X4_openedBy_41, k_X4_openedBy_42, k_X4_openedBy_43, k_X4_openedBy_44, k_X4_openedBy_45, k_X4_openedBy_48, k_X4_openedBy_51, k_X4_openedBy_52, wp1, wp_s, cutIn, kont, Nat.reduceSub, Nat.reduceAdd, nth, o_const, o_lconst, o_ref, o_iload, o_lload, o_aload, o_istore, o_lstore, o_astore, o_iinc, o_bin, o_div, o_un, o_lbin, o_lsh, o_lcmp, o_i2l, o_l2i, o_if, o_icmp, o_goto, o_dup, o_dup2, o_pop, fav, o_getf, o_putI, o_putZ, o_putL, o_ald, o_ast, o_alen, popn, rst, o_callV, o_callT, o_callS, swx, o_sw, o_ret, o_iret, o_zret, o_cret, o_lret, o_aret, lg, lput, lput2, ls1, isL, entL, wsum, rdI1, rdI2, rdA1, rdA21, rdA22, rdL1, rdL22, rdL21, upN_at, rep, sh_0, F_0_0, F_0_1, F_0_2, F_0_3, F_0_4, F_0_5, F_0_6, F_0_7, F_0_8, sh_1, F_1_0, F_1_1, F_1_2, F_1_3, F_1_4, F_1_5, sh_3, F_3_0, F_3_1, F_3_2, F_3_3, F_3_4, F_3_5, sh_5, F_5_0, F_5_1, F_5_2, F_5_3, F_5_4, F_5_5, F_5_6, F_5_7, F_5_8, sh_12, F_12_0, F_12_1, F_12_2, F_12_3, F_12_4, F_12_5, sh_14, F_14_0, F_14_1, F_14_2, F_14_3, F_14_4, F_14_5, F_14_6, F_14_7, F_14_8, sh_21, F_21_0, F_21_1, F_21_2, F_21_3, F_21_4, F_21_5, F_21_6, F_21_7, F_21_8, sh_28, F_28_0, F_28_1, F_28_2, F_28_3, F_28_4, F_28_5, F_28_6, F_28_7, F_28_8, sh_35, F_35_0, sh_39, F_39_0, F_39_1, F_39_2, F_39_3, F_39_4, F_39_5, F_39_6, F_39_7, F_39_8, F_39_9, F_39_10, F_39_11, F_39_12, F_39_13, A_2, A_4, A_6, A_7, A_8, A_9, A_10, A_11, A_13, A_15, A_16, A_17, A_18, A_19, A_20, A_22, A_23, A_24, A_25, A_26, A_27, A_29, A_30, A_31, A_32, A_33, A_34, A_36, A_37, A_38, A_40, A_41, A_42, A_43, A_44, A_45, A_46, A_47]
    exact cut _ _ ⟨rfl, rfl, 0, f, by omega, hf, rfl, rfl, rfl⟩ (by omega) ⟨rfl, rfl, rfl, rfl, trivial⟩
theorem c_X4_openedBy : Ctr yX4_openedBy cX4_openedBy 4 (some .int) ({ frames := 3, cells := 0, slots := 0, locals := 68 } : Room) S_X4_openedBy := ctr_of (T := T_X4_openedBy) (by decide +kernel) (fun post C hr => t_X4_openedBy post C hr) v_X4_openedBy
/-- the group opens the lock -/
def gop (r : Nat → Nat) (h : Nat → Int32) (n p : Nat) (lk : Nat → Nat) (c g l : Nat) : Prop := (opn r n lk c (hd h g p n)).testBit l = true
def S_X4_groupOpens : SP := fun as M post => ∃ g l n c p r h lk, as = [VR 0, VI (nI g), VI (nI l)] ∧ g < 2 ^ 31 ∧ l < 31 ∧ XW M n c p r h lk ∧ ∀ f, pz (gop r h n p lk c g l) post (sA 27 f M)
theorem cw_RX4_140 : ∀ w ∈ ([.methodLink RX4 140 yX0_heldBy, .instanceMethod yX0_heldBy, .selects yX0_heldBy.cls yX0_heldBy yX0_heldBy, .initialized yX0_heldBy.cls, .code yX0_heldBy cX0_heldBy 4 (some .int)] : List Cond), w ∈ tb := tb_all [483, 484, 485, 56, 486] (by decide +kernel) (by decide +kernel)
theorem cw_RX4_143 : ∀ w ∈ ([.methodLink RX4 143 yX4_openedBy, .instanceMethod yX4_openedBy, .selects yX4_openedBy.cls yX4_openedBy yX4_openedBy, .initialized yX4_openedBy.cls, .code yX4_openedBy cX4_openedBy 4 (some .int)] : List Cond), w ∈ tb := tb_all [488, 490, 14, 54, 491] (by decide +kernel) (by decide +kernel)
theorem dX4_groupOpens_0 : decode cX4_groupOpens 0 = .ok (.aload_n 0, 1) := by decide +kernel
theorem dX4_groupOpens_1 : decode cX4_groupOpens 1 = .ok (.aload_n 0, 1) := by decide +kernel
theorem dX4_groupOpens_2 : decode cX4_groupOpens 2 = .ok (.getfield 19, 3) := by decide +kernel
theorem dX4_groupOpens_5 : decode cX4_groupOpens 5 = .ok (.iload_n 1, 1) := by decide +kernel
theorem dX4_groupOpens_6 : decode cX4_groupOpens 6 = .ok (.invokevirtual 140, 3) := by decide +kernel
theorem dX4_groupOpens_9 : decode cX4_groupOpens 9 = .ok (.invokevirtual 143, 3) := by decide +kernel
theorem dX4_groupOpens_12 : decode cX4_groupOpens 12 = .ok (.iload_n 2, 1) := by decide +kernel
theorem dX4_groupOpens_13 : decode cX4_groupOpens 13 = .ok (.ishr, 1) := by decide +kernel
theorem dX4_groupOpens_14 : decode cX4_groupOpens 14 = .ok (.iconst 1, 1) := by decide +kernel
theorem dX4_groupOpens_15 : decode cX4_groupOpens 15 = .ok (.iand, 1) := by decide +kernel
theorem dX4_groupOpens_16 : decode cX4_groupOpens 16 = .ok (.ifCond .eq 7, 3) := by decide +kernel
theorem dX4_groupOpens_19 : decode cX4_groupOpens 19 = .ok (.iconst 1, 1) := by decide +kernel
theorem dX4_groupOpens_20 : decode cX4_groupOpens 20 = .ok (.goto 4, 3) := by decide +kernel
theorem dX4_groupOpens_23 : decode cX4_groupOpens 23 = .ok (.iconst 0, 1) := by decide +kernel
theorem dX4_groupOpens_24 : decode cX4_groupOpens 24 = .ok (.ireturn, 1) := by decide +kernel
def T_X4_groupOpens (post : PO) : List (Nat × OP) := [(0, o_aload 0 1), (1, o_aload 0 2), (2, o_getf 4 1 5), (5, o_iload 1 6), (6, o_callV 0 S_X0_heldBy 1 9), (9, o_callV 4 S_X4_openedBy 1 12), (12, o_iload 2 13), (13, o_bin (fun x y => x >>> (y &&& 31)) 14), (14, o_const 1 15), (15, o_bin (fun x y => x &&& y) 16), (16, o_if (fun x => x = 0) 23 19), (19, o_const 1 20), (20, o_goto 24), (23, o_const 0 24), (24, o_zret post)]
theorem k_X4_groupOpens_0 (post : PO) : lk (T_X4_groupOpens post) 0 = o_aload 0 1 := rfl
theorem k_X4_groupOpens_1 (post : PO) : lk (T_X4_groupOpens post) 1 = o_aload 0 2 := rfl
theorem k_X4_groupOpens_2 (post : PO) : lk (T_X4_groupOpens post) 2 = o_getf 4 1 5 := rfl
theorem k_X4_groupOpens_5 (post : PO) : lk (T_X4_groupOpens post) 5 = o_iload 1 6 := rfl
theorem k_X4_groupOpens_6 (post : PO) : lk (T_X4_groupOpens post) 6 = o_callV 0 S_X0_heldBy 1 9 := rfl
theorem k_X4_groupOpens_9 (post : PO) : lk (T_X4_groupOpens post) 9 = o_callV 4 S_X4_openedBy 1 12 := rfl
theorem k_X4_groupOpens_12 (post : PO) : lk (T_X4_groupOpens post) 12 = o_iload 2 13 := rfl
theorem k_X4_groupOpens_13 (post : PO) : lk (T_X4_groupOpens post) 13 = o_bin (fun x y => x >>> (y &&& 31)) 14 := rfl
theorem k_X4_groupOpens_14 (post : PO) : lk (T_X4_groupOpens post) 14 = o_const 1 15 := rfl
theorem k_X4_groupOpens_15 (post : PO) : lk (T_X4_groupOpens post) 15 = o_bin (fun x y => x &&& y) 16 := rfl
theorem k_X4_groupOpens_16 (post : PO) : lk (T_X4_groupOpens post) 16 = o_if (fun x => x = 0) 23 19 := rfl
theorem k_X4_groupOpens_19 (post : PO) : lk (T_X4_groupOpens post) 19 = o_const 1 20 := rfl
theorem k_X4_groupOpens_20 (post : PO) : lk (T_X4_groupOpens post) 20 = o_goto 24 := rfl
theorem k_X4_groupOpens_23 (post : PO) : lk (T_X4_groupOpens post) 23 = o_const 0 24 := rfl
theorem k_X4_groupOpens_24 (post : PO) : lk (T_X4_groupOpens post) 24 = o_zret post := rfl
set_option maxRecDepth 100000 in
theorem t_X4_groupOpens {p : Program} {l : Launch} {e : Env} {s : State} {m : MethodId} {args : Array Value} {below : List Frame} {meth : Method} {c : Code} {D : va_G} {dA : Nat → ClassId} {ad : Nat → Nat} (post : PO) (C : CX p s m args meth c cX4_groupOpens 3 yX4_groupOpens.cls D dA ad (AA ad s.heap.size)) (hr : meth.sig.returnType = (some .boolean)) : SndL (WW p l e ({ frames := 4, cells := 0, slots := 0, locals := 91 } : Room) s m args below meth c 0 0 (MQ below (CQ D dA ad post (AA ad s.heap.size)) args s 0 0 (AA ad s.heap.size)) 3 D dA ad (AA ad s.heap.size)) (T_X4_groupOpens post) := by
  refine snd_c (s_aload_n C rfl dX4_groupOpens_0) ?_
  refine snd_c (s_aload_n C rfl dX4_groupOpens_1) ?_
  refine snd_c (s_getf C (ci := 4) (j := 1) (T := TX4) rfl inX4 (by decide) fl_RX4_19 dX4_groupOpens_2) ?_
  refine snd_c (s_iload_n C rfl dX4_groupOpens_5) ?_
  refine snd_c (s_callV C (ci := 0) c_X0_heldBy rfl cw_RX4_140 ⟨rfl, rfl⟩ ⟨by decide +kernel, by decide +kernel, by decide +kernel⟩ ⟨by decide, by decide⟩ ⟨Nat.zero_le _, Nat.zero_le _⟩ dX4_groupOpens_6) ?_
  refine snd_c (s_callV C (ci := 4) c_X4_openedBy rfl cw_RX4_143 ⟨rfl, rfl⟩ ⟨by decide +kernel, by decide +kernel, by decide +kernel⟩ ⟨by decide, by decide⟩ ⟨Nat.zero_le _, Nat.zero_le _⟩ dX4_groupOpens_9) ?_
  refine snd_c (s_iload_n C rfl dX4_groupOpens_12) ?_
  refine snd_c (s_ishr C dX4_groupOpens_13) ?_
  refine snd_c (s_iconst C dX4_groupOpens_14 rfl) ?_
  refine snd_c (s_iand C dX4_groupOpens_15) ?_
  refine snd_c (s_if_eq C dX4_groupOpens_16 (by decide)) ?_
  refine snd_c (s_iconst C dX4_groupOpens_19 rfl) ?_
  refine snd_c (s_goto C dX4_groupOpens_20 (by decide)) ?_
  refine snd_c (s_iconst C dX4_groupOpens_23 rfl) ?_
  refine snd_c (s_zret C hr ⟨rfl, rfl⟩ dX4_groupOpens_24) ?_
  exact trivial
theorem opn_lt (r : Nat → Nat) (n : Nat) (lk : Nat → Nat) {c : Nat} (hc : c ≤ 6) (T : Nat) : opn r n lk c T < 64 := Nat.lt_of_lt_of_le (mk_lt _ c) (Nat.pow_le_pow_right (n := 2) (by omega) hc)
theorem hd_lt (h : Nat → Int32) (g p : Nat) {n : Nat} (hn : n ≤ 8) : hd h g p n < 256 := Nat.lt_of_lt_of_le (mk_lt _ n) (Nat.pow_le_pow_right (n := 2) (by omega) hn)
set_option maxRecDepth 100000 in
theorem v_X4_groupOpens : ∀ as M post, S_X4_groupOpens as M post → wsum as ≤ 3 ∧ RUN (T_X4_groupOpens post) 0 (entL 3 as) [] M := by
  rintro as M post ⟨g, l, n, c, p, r, h0, lk, rfl, hg, hl2, hX, h⟩
  have hX0 := hX
  obtain ⟨hn, hn8, hc, hc6, hp, hp4, hr, hhk, hl⟩ := hX
  refine ⟨by show 3 ≤ 3; omega, run_wp 60 ?_⟩
  dsimp only [k_X4_groupOpens_0, k_X4_groupOpens_1, k_X4_groupOpens_2, k_X4_groupOpens_5, k_X4_groupOpens_6, k_X4_groupOpens_9, k_X4_groupOpens_12, k_X4_groupOpens_13, k_X4_groupOpens_14, k_X4_groupOpens_15, k_X4_groupOpens_16, k_X4_groupOpens_19, k_X4_groupOpens_20, k_X4_groupOpens_23, k_X4_groupOpens_24, wp1, wp_s, cutIn, kont, Nat.reduceSub, Nat.reduceAdd, nth, o_const, o_lconst, o_ref, o_iload, o_lload, o_aload, o_istore, o_lstore, o_astore, o_iinc, o_bin, o_div, o_un, o_lbin, o_lsh, o_lcmp, o_i2l, o_l2i, o_if, o_icmp, o_goto, o_dup, o_dup2, o_pop, fav, o_getf, o_putI, o_putZ, o_putL, o_ald, o_ast, o_alen, popn, rst, o_callV, o_callT, o_callS, swx, o_sw, o_ret, o_iret, o_zret, o_cret, o_lret, o_aret, lg, lput, lput2, ls1, isL, entL, wsum, rdI1, rdI2, rdA1, rdA21, rdA22, rdL1, rdL22, rdL21, upN_at, rep, sh_0, F_0_0, F_0_1, F_0_2, F_0_3, F_0_4, F_0_5, F_0_6, F_0_7, F_0_8, sh_1, F_1_0, F_1_1, F_1_2, F_1_3, F_1_4, F_1_5, sh_3, F_3_0, F_3_1, F_3_2, F_3_3, F_3_4, F_3_5, sh_5, F_5_0, F_5_1, F_5_2, F_5_3, F_5_4, F_5_5, F_5_6, F_5_7, F_5_8, sh_12, F_12_0, F_12_1, F_12_2, F_12_3, F_12_4, F_12_5, sh_14, F_14_0, F_14_1, F_14_2, F_14_3, F_14_4, F_14_5, F_14_6, F_14_7, F_14_8, sh_21, F_21_0, F_21_1, F_21_2, F_21_3, F_21_4, F_21_5, F_21_6, F_21_7, F_21_8, sh_28, F_28_0, F_28_1, F_28_2, F_28_3, F_28_4, F_28_5, F_28_6, F_28_7, F_28_8, sh_35, F_35_0, sh_39, F_39_0, F_39_1, F_39_2, F_39_3, F_39_4, F_39_5, F_39_6, F_39_7, F_39_8, F_39_9, F_39_10, F_39_11, F_39_12, F_39_13, A_2, A_4, A_6, A_7, A_8, A_9, A_10, A_11, A_13, A_15, A_16, A_17, A_18, A_19, A_20, A_22, A_23, A_24, A_25, A_26, A_27, A_29, A_30, A_31, A_32, A_33, A_34, A_36, A_37, A_38, A_40, A_41, A_42, A_43, A_44, A_45, A_46, A_47]
  refine ⟨g, p, n, rfl, hg, hp, hp4, hn, hn8, ?_⟩
  dsimp only [k_X4_groupOpens_0, k_X4_groupOpens_1, k_X4_groupOpens_2, k_X4_groupOpens_5, k_X4_groupOpens_6, k_X4_groupOpens_9, k_X4_groupOpens_12, k_X4_groupOpens_13, k_X4_groupOpens_14, k_X4_groupOpens_15, k_X4_groupOpens_16, k_X4_groupOpens_19, k_X4_groupOpens_20, k_X4_groupOpens_23, k_X4_groupOpens_24, wp1, wp_s, cutIn, kont, Nat.reduceSub, Nat.reduceAdd, nth, o_const, o_lconst, o_ref, o_iload, o_lload, o_aload, o_istore, o_lstore, o_astore, o_iinc, o_bin, o_div, o_un, o_lbin, o_lsh, o_lcmp, o_i2l, o_l2i, o_if, o_icmp, o_goto, o_dup, o_dup2, o_pop, fav, o_getf, o_putI, o_putZ, o_putL, o_ald, o_ast, o_alen, popn, rst, o_callV, o_callT, o_callS, swx, o_sw, o_ret, o_iret, o_zret, o_cret, o_lret, o_aret, lg, lput, lput2, ls1, isL, entL, wsum, rdI1, rdI2, rdA1, rdA21, rdA22, rdL1, rdL22, rdL21, upN_at, rep, sh_0, F_0_0, F_0_1, F_0_2, F_0_3, F_0_4, F_0_5, F_0_6, F_0_7, F_0_8, sh_1, F_1_0, F_1_1, F_1_2, F_1_3, F_1_4, F_1_5, sh_3, F_3_0, F_3_1, F_3_2, F_3_3, F_3_4, F_3_5, sh_5, F_5_0, F_5_1, F_5_2, F_5_3, F_5_4, F_5_5, F_5_6, F_5_7, F_5_8, sh_12, F_12_0, F_12_1, F_12_2, F_12_3, F_12_4, F_12_5, sh_14, F_14_0, F_14_1, F_14_2, F_14_3, F_14_4, F_14_5, F_14_6, F_14_7, F_14_8, sh_21, F_21_0, F_21_1, F_21_2, F_21_3, F_21_4, F_21_5, F_21_6, F_21_7, F_21_8, sh_28, F_28_0, F_28_1, F_28_2, F_28_3, F_28_4, F_28_5, F_28_6, F_28_7, F_28_8, sh_35, F_35_0, sh_39, F_39_0, F_39_1, F_39_2, F_39_3, F_39_4, F_39_5, F_39_6, F_39_7, F_39_8, F_39_9, F_39_10, F_39_11, F_39_12, F_39_13, A_2, A_4, A_6, A_7, A_8, A_9, A_10, A_11, A_13, A_15, A_16, A_17, A_18, A_19, A_20, A_22, A_23, A_24, A_25, A_26, A_27, A_29, A_30, A_31, A_32, A_33, A_34, A_36, A_37, A_38, A_40, A_41, A_42, A_43, A_44, A_45, A_46, A_47]
  rw [show mk (hh (M.2.2 3) g p) n = hd h0 g p n from hd_congr hhk g p]
  have h1 := hd_lt h0 g p hn8
  refine ⟨_, n, c, p, r, h0, lk, rfl, by omega, hX0, fun f => ?_⟩
  have h2 := opn_lt r n lk hc6 (hd h0 g p n)
  dsimp only [k_X4_groupOpens_0, k_X4_groupOpens_1, k_X4_groupOpens_2, k_X4_groupOpens_5, k_X4_groupOpens_6, k_X4_groupOpens_9, k_X4_groupOpens_12, k_X4_groupOpens_13, k_X4_groupOpens_14, k_X4_groupOpens_15, k_X4_groupOpens_16, k_X4_groupOpens_19, k_X4_groupOpens_20, k_X4_groupOpens_23, k_X4_groupOpens_24, wp1, wp_s, cutIn, kont, Nat.reduceSub, Nat.reduceAdd, nth, o_const, o_lconst, o_ref, o_iload, o_lload, o_aload, o_istore, o_lstore, o_astore, o_iinc, o_bin, o_div, o_un, o_lbin, o_lsh, o_lcmp, o_i2l, o_l2i, o_if, o_icmp, o_goto, o_dup, o_dup2, o_pop, fav, o_getf, o_putI, o_putZ, o_putL, o_ald, o_ast, o_alen, popn, rst, o_callV, o_callT, o_callS, swx, o_sw, o_ret, o_iret, o_zret, o_cret, o_lret, o_aret, lg, lput, lput2, ls1, isL, entL, wsum, rdI1, rdI2, rdA1, rdA21, rdA22, rdL1, rdL22, rdL21, upN_at, rep, sh_0, F_0_0, F_0_1, F_0_2, F_0_3, F_0_4, F_0_5, F_0_6, F_0_7, F_0_8, sh_1, F_1_0, F_1_1, F_1_2, F_1_3, F_1_4, F_1_5, sh_3, F_3_0, F_3_1, F_3_2, F_3_3, F_3_4, F_3_5, sh_5, F_5_0, F_5_1, F_5_2, F_5_3, F_5_4, F_5_5, F_5_6, F_5_7, F_5_8, sh_12, F_12_0, F_12_1, F_12_2, F_12_3, F_12_4, F_12_5, sh_14, F_14_0, F_14_1, F_14_2, F_14_3, F_14_4, F_14_5, F_14_6, F_14_7, F_14_8, sh_21, F_21_0, F_21_1, F_21_2, F_21_3, F_21_4, F_21_5, F_21_6, F_21_7, F_21_8, sh_28, F_28_0, F_28_1, F_28_2, F_28_3, F_28_4, F_28_5, F_28_6, F_28_7, F_28_8, sh_35, F_35_0, sh_39, F_39_0, F_39_1, F_39_2, F_39_3, F_39_4, F_39_5, F_39_6, F_39_7, F_39_8, F_39_9, F_39_10, F_39_11, F_39_12, F_39_13, A_2, A_4, A_6, A_7, A_8, A_9, A_10, A_11, A_13, A_15, A_16, A_17, A_18, A_19, A_20, A_22, A_23, A_24, A_25, A_26, A_27, A_29, A_30, A_31, A_32, A_33, A_34, A_36, A_37, A_38, A_40, A_41, A_42, A_43, A_44, A_45, A_46, A_47]
  simp (disch := omega) only [nI_leI, nI_ltI, nI_eq, nI_1, nI_add, one_shl, nI_or, nI_xor, nI_and, bit_0, bit_1, true_or, or_true, true_and, and_true, eq_self, not_true_eq_false, not_false_eq_true, forall_const]
  have h := h f
  unfold pz gop at h
  exact ⟨fun z => h.2 (by rw [z]; decide), fun z => h.1 (by simpa using z)⟩
theorem c_X4_groupOpens : Ctr yX4_groupOpens cX4_groupOpens 3 (some .boolean) ({ frames := 4, cells := 0, slots := 0, locals := 91 } : Room) S_X4_groupOpens := ctr_of (T := T_X4_groupOpens) (by decide +kernel) (fun post C hr => t_X4_groupOpens post C hr) v_X4_groupOpens
/-- the group opens the lock, and none that lacks one of it does -/
def isLst (r : Nat → Nat) (h : Nat → Int32) (n p : Nat) (lk : Nat → Nat) (c g l : Nat) : Prop := gop r h n p lk c g l ∧ ∀ q, q < p → g.testBit q = true → ¬ gop r h n p lk c (g ^^^ 2 ^ q) l
def S_X4_isLeastFor : SP := fun as M post => ∃ g l n c p r h lk, as = [VR 0, VI (nI g), VI (nI l)] ∧ g < 16 ∧ l < 31 ∧ XW M n c p r h lk ∧ ∀ f, pz (isLst r h n p lk c g l) post (sA 27 f M)
/-- a bit cleared -/
theorem clr {g q : Nat} (hg : g < 2 ^ 31) (hq : q < 31) (hb : g.testBit q = true) : nI g &&& (nI (2 ^ q) ^^^ -1) = nI (g ^^^ 2 ^ q) := by
  rw [show (-1 : Int32) = nI (2 ^ 32 - 1) from rfl, nI_xor, nI_and]
  congr 1
  refine Nat.eq_of_testBit_eq fun k => ?_
  rw [Nat.testBit_and, Nat.testBit_xor, Nat.testBit_xor, Nat.testBit_two_pow_sub_one]
  by_cases hk : k = q
  · subst hk
    rw [Nat.testBit_two_pow_self, hb]
    simp [show k < 32 by omega]
  · rw [Nat.testBit_two_pow_of_ne (Ne.symm hk)]
    by_cases h32 : k < 32
    · simp [h32]
    · rw [Nat.testBit_lt_two_pow (Nat.lt_of_lt_of_le hg (Nat.pow_le_pow_right (n := 2) (by omega) (by omega)))]
      simp
theorem cw_RX4_218 : ∀ w ∈ ([.methodLink RX4 218 yX4_groupOpens, .instanceMethod yX4_groupOpens, .selects yX4_groupOpens.cls yX4_groupOpens yX4_groupOpens, .initialized yX4_groupOpens.cls, .code yX4_groupOpens cX4_groupOpens 3 (some .boolean)] : List Cond), w ∈ tb := tb_all [508, 510, 17, 54, 511] (by decide +kernel) (by decide +kernel)
theorem fl_RX4_211 : Cond.fieldLink RX4 211 (TX0 3).1 (TX0 3).2.1 (TX0 3).2.2.1 ∈ tb := tb_of 157 (by decide +kernel) (by decide +kernel)
theorem dX4_isLeastFor_0 : decode cX4_isLeastFor 0 = .ok (.aload_n 0, 1) := by decide +kernel
theorem dX4_isLeastFor_1 : decode cX4_isLeastFor 1 = .ok (.iload_n 1, 1) := by decide +kernel
theorem dX4_isLeastFor_2 : decode cX4_isLeastFor 2 = .ok (.iload_n 2, 1) := by decide +kernel
theorem dX4_isLeastFor_3 : decode cX4_isLeastFor 3 = .ok (.invokevirtual 218, 3) := by decide +kernel
theorem dX4_isLeastFor_6 : decode cX4_isLeastFor 6 = .ok (.ifCond .ne 5, 3) := by decide +kernel
theorem dX4_isLeastFor_9 : decode cX4_isLeastFor 9 = .ok (.iconst 0, 1) := by decide +kernel
theorem dX4_isLeastFor_10 : decode cX4_isLeastFor 10 = .ok (.ireturn, 1) := by decide +kernel
theorem dX4_isLeastFor_11 : decode cX4_isLeastFor 11 = .ok (.iconst 0, 1) := by decide +kernel
theorem dX4_isLeastFor_12 : decode cX4_isLeastFor 12 = .ok (.istore_n 3, 1) := by decide +kernel
theorem dX4_isLeastFor_13 : decode cX4_isLeastFor 13 = .ok (.iload_n 3, 1) := by decide +kernel
theorem dX4_isLeastFor_14 : decode cX4_isLeastFor 14 = .ok (.aload_n 0, 1) := by decide +kernel
theorem dX4_isLeastFor_15 : decode cX4_isLeastFor 15 = .ok (.getfield 19, 3) := by decide +kernel
theorem dX4_isLeastFor_18 : decode cX4_isLeastFor 18 = .ok (.getfield 211, 3) := by decide +kernel
theorem dX4_isLeastFor_21 : decode cX4_isLeastFor 21 = .ok (.if_icmp .ge 34, 3) := by decide +kernel
theorem dX4_isLeastFor_24 : decode cX4_isLeastFor 24 = .ok (.iload_n 1, 1) := by decide +kernel
theorem dX4_isLeastFor_25 : decode cX4_isLeastFor 25 = .ok (.iload_n 3, 1) := by decide +kernel
theorem dX4_isLeastFor_26 : decode cX4_isLeastFor 26 = .ok (.ishr, 1) := by decide +kernel
theorem dX4_isLeastFor_27 : decode cX4_isLeastFor 27 = .ok (.iconst 1, 1) := by decide +kernel
theorem dX4_isLeastFor_28 : decode cX4_isLeastFor 28 = .ok (.iand, 1) := by decide +kernel
theorem dX4_isLeastFor_29 : decode cX4_isLeastFor 29 = .ok (.ifCond .eq 20, 3) := by decide +kernel
theorem dX4_isLeastFor_32 : decode cX4_isLeastFor 32 = .ok (.aload_n 0, 1) := by decide +kernel
theorem dX4_isLeastFor_33 : decode cX4_isLeastFor 33 = .ok (.iload_n 1, 1) := by decide +kernel
theorem dX4_isLeastFor_34 : decode cX4_isLeastFor 34 = .ok (.iconst 1, 1) := by decide +kernel
theorem dX4_isLeastFor_35 : decode cX4_isLeastFor 35 = .ok (.iload_n 3, 1) := by decide +kernel
theorem dX4_isLeastFor_36 : decode cX4_isLeastFor 36 = .ok (.ishl, 1) := by decide +kernel
theorem dX4_isLeastFor_37 : decode cX4_isLeastFor 37 = .ok (.iconst (-1), 1) := by decide +kernel
theorem dX4_isLeastFor_38 : decode cX4_isLeastFor 38 = .ok (.ixor, 1) := by decide +kernel
theorem dX4_isLeastFor_39 : decode cX4_isLeastFor 39 = .ok (.iand, 1) := by decide +kernel
theorem dX4_isLeastFor_40 : decode cX4_isLeastFor 40 = .ok (.iload_n 2, 1) := by decide +kernel
theorem dX4_isLeastFor_41 : decode cX4_isLeastFor 41 = .ok (.invokevirtual 218, 3) := by decide +kernel
theorem dX4_isLeastFor_44 : decode cX4_isLeastFor 44 = .ok (.ifCond .eq 5, 3) := by decide +kernel
theorem dX4_isLeastFor_47 : decode cX4_isLeastFor 47 = .ok (.iconst 0, 1) := by decide +kernel
theorem dX4_isLeastFor_48 : decode cX4_isLeastFor 48 = .ok (.ireturn, 1) := by decide +kernel
theorem dX4_isLeastFor_49 : decode cX4_isLeastFor 49 = .ok (.iinc 3 1, 3) := by decide +kernel
theorem dX4_isLeastFor_52 : decode cX4_isLeastFor 52 = .ok (.goto (-39), 3) := by decide +kernel
theorem dX4_isLeastFor_55 : decode cX4_isLeastFor 55 = .ok (.iconst 1, 1) := by decide +kernel
theorem dX4_isLeastFor_56 : decode cX4_isLeastFor 56 = .ok (.ireturn, 1) := by decide +kernel
def T_X4_isLeastFor (post : PO) : List (Nat × OP) := [(0, o_aload 0 1), (1, o_iload 1 2), (2, o_iload 2 3), (3, o_callV 4 S_X4_groupOpens 2 6), (6, o_if (fun x => x = 0) 9 11), (9, o_const 0 10), (10, o_zret post), (11, o_const 0 12), (12, o_istore 3 13), (13, o_iload 3 14), (14, o_aload 0 15), (15, o_getf 4 1 18), (18, o_getf 0 3 21), (21, o_icmp (fun x y => y ≤ x) 55 24), (24, o_iload 1 25), (25, o_iload 3 26), (26, o_bin (fun x y => x >>> (y &&& 31)) 27), (27, o_const 1 28), (28, o_bin (fun x y => x &&& y) 29), (29, o_if (fun x => x = 0) 49 32), (32, o_aload 0 33), (33, o_iload 1 34), (34, o_const 1 35), (35, o_iload 3 36), (36, o_bin (fun x y => x <<< (y &&& 31)) 37), (37, o_const (-1) 38), (38, o_bin (fun x y => x ^^^ y) 39), (39, o_bin (fun x y => x &&& y) 40), (40, o_iload 2 41), (41, o_callV 4 S_X4_groupOpens 2 44), (44, o_if (fun x => x = 0) 49 47), (47, o_const 0 48), (48, o_zret post), (49, o_iinc 3 1 52), (52, o_goto 13), (55, o_const 1 56), (56, o_zret post)]
theorem k_X4_isLeastFor_0 (post : PO) : lk (T_X4_isLeastFor post) 0 = o_aload 0 1 := rfl
theorem k_X4_isLeastFor_1 (post : PO) : lk (T_X4_isLeastFor post) 1 = o_iload 1 2 := rfl
theorem k_X4_isLeastFor_2 (post : PO) : lk (T_X4_isLeastFor post) 2 = o_iload 2 3 := rfl
theorem k_X4_isLeastFor_3 (post : PO) : lk (T_X4_isLeastFor post) 3 = o_callV 4 S_X4_groupOpens 2 6 := rfl
theorem k_X4_isLeastFor_6 (post : PO) : lk (T_X4_isLeastFor post) 6 = o_if (fun x => x = 0) 9 11 := rfl
theorem k_X4_isLeastFor_9 (post : PO) : lk (T_X4_isLeastFor post) 9 = o_const 0 10 := rfl
theorem k_X4_isLeastFor_10 (post : PO) : lk (T_X4_isLeastFor post) 10 = o_zret post := rfl
theorem k_X4_isLeastFor_11 (post : PO) : lk (T_X4_isLeastFor post) 11 = o_const 0 12 := rfl
theorem k_X4_isLeastFor_12 (post : PO) : lk (T_X4_isLeastFor post) 12 = o_istore 3 13 := rfl
theorem k_X4_isLeastFor_13 (post : PO) : lk (T_X4_isLeastFor post) 13 = o_iload 3 14 := rfl
theorem k_X4_isLeastFor_14 (post : PO) : lk (T_X4_isLeastFor post) 14 = o_aload 0 15 := rfl
theorem k_X4_isLeastFor_15 (post : PO) : lk (T_X4_isLeastFor post) 15 = o_getf 4 1 18 := rfl
theorem k_X4_isLeastFor_18 (post : PO) : lk (T_X4_isLeastFor post) 18 = o_getf 0 3 21 := rfl
theorem k_X4_isLeastFor_21 (post : PO) : lk (T_X4_isLeastFor post) 21 = o_icmp (fun x y => y ≤ x) 55 24 := rfl
theorem k_X4_isLeastFor_24 (post : PO) : lk (T_X4_isLeastFor post) 24 = o_iload 1 25 := rfl
theorem k_X4_isLeastFor_25 (post : PO) : lk (T_X4_isLeastFor post) 25 = o_iload 3 26 := rfl
theorem k_X4_isLeastFor_26 (post : PO) : lk (T_X4_isLeastFor post) 26 = o_bin (fun x y => x >>> (y &&& 31)) 27 := rfl
theorem k_X4_isLeastFor_27 (post : PO) : lk (T_X4_isLeastFor post) 27 = o_const 1 28 := rfl
theorem k_X4_isLeastFor_28 (post : PO) : lk (T_X4_isLeastFor post) 28 = o_bin (fun x y => x &&& y) 29 := rfl
theorem k_X4_isLeastFor_29 (post : PO) : lk (T_X4_isLeastFor post) 29 = o_if (fun x => x = 0) 49 32 := rfl
theorem k_X4_isLeastFor_32 (post : PO) : lk (T_X4_isLeastFor post) 32 = o_aload 0 33 := rfl
theorem k_X4_isLeastFor_33 (post : PO) : lk (T_X4_isLeastFor post) 33 = o_iload 1 34 := rfl
theorem k_X4_isLeastFor_34 (post : PO) : lk (T_X4_isLeastFor post) 34 = o_const 1 35 := rfl
theorem k_X4_isLeastFor_35 (post : PO) : lk (T_X4_isLeastFor post) 35 = o_iload 3 36 := rfl
theorem k_X4_isLeastFor_36 (post : PO) : lk (T_X4_isLeastFor post) 36 = o_bin (fun x y => x <<< (y &&& 31)) 37 := rfl
theorem k_X4_isLeastFor_37 (post : PO) : lk (T_X4_isLeastFor post) 37 = o_const (-1) 38 := rfl
theorem k_X4_isLeastFor_38 (post : PO) : lk (T_X4_isLeastFor post) 38 = o_bin (fun x y => x ^^^ y) 39 := rfl
theorem k_X4_isLeastFor_39 (post : PO) : lk (T_X4_isLeastFor post) 39 = o_bin (fun x y => x &&& y) 40 := rfl
theorem k_X4_isLeastFor_40 (post : PO) : lk (T_X4_isLeastFor post) 40 = o_iload 2 41 := rfl
theorem k_X4_isLeastFor_41 (post : PO) : lk (T_X4_isLeastFor post) 41 = o_callV 4 S_X4_groupOpens 2 44 := rfl
theorem k_X4_isLeastFor_44 (post : PO) : lk (T_X4_isLeastFor post) 44 = o_if (fun x => x = 0) 49 47 := rfl
theorem k_X4_isLeastFor_47 (post : PO) : lk (T_X4_isLeastFor post) 47 = o_const 0 48 := rfl
theorem k_X4_isLeastFor_48 (post : PO) : lk (T_X4_isLeastFor post) 48 = o_zret post := rfl
theorem k_X4_isLeastFor_49 (post : PO) : lk (T_X4_isLeastFor post) 49 = o_iinc 3 1 52 := rfl
theorem k_X4_isLeastFor_52 (post : PO) : lk (T_X4_isLeastFor post) 52 = o_goto 13 := rfl
theorem k_X4_isLeastFor_55 (post : PO) : lk (T_X4_isLeastFor post) 55 = o_const 1 56 := rfl
theorem k_X4_isLeastFor_56 (post : PO) : lk (T_X4_isLeastFor post) 56 = o_zret post := rfl
set_option maxRecDepth 100000 in
theorem t_X4_isLeastFor {p : Program} {l : Launch} {e : Env} {s : State} {m : MethodId} {args : Array Value} {below : List Frame} {meth : Method} {c : Code} {D : va_G} {dA : Nat → ClassId} {ad : Nat → Nat} (post : PO) (C : CX p s m args meth c cX4_isLeastFor 4 yX4_isLeastFor.cls D dA ad (AA ad s.heap.size)) (hr : meth.sig.returnType = (some .boolean)) : SndL (WW p l e ({ frames := 5, cells := 0, slots := 0, locals := 113 } : Room) s m args below meth c 0 0 (MQ below (CQ D dA ad post (AA ad s.heap.size)) args s 0 0 (AA ad s.heap.size)) 4 D dA ad (AA ad s.heap.size)) (T_X4_isLeastFor post) := by
  refine snd_c (s_aload_n C rfl dX4_isLeastFor_0) ?_
  refine snd_c (s_iload_n C rfl dX4_isLeastFor_1) ?_
  refine snd_c (s_iload_n C rfl dX4_isLeastFor_2) ?_
  refine snd_c (s_callV C (ci := 4) c_X4_groupOpens rfl cw_RX4_218 ⟨rfl, rfl⟩ ⟨by decide +kernel, by decide +kernel, by decide +kernel⟩ ⟨by decide, by decide⟩ ⟨Nat.zero_le _, Nat.zero_le _⟩ dX4_isLeastFor_3) ?_
  refine snd_c (s_if_ne C dX4_isLeastFor_6 (by decide)) ?_
  refine snd_c (s_iconst C dX4_isLeastFor_9 rfl) ?_
  refine snd_c (s_zret C hr ⟨rfl, rfl⟩ dX4_isLeastFor_10) ?_
  refine snd_c (s_iconst C dX4_isLeastFor_11 rfl) ?_
  refine snd_c (s_istore_n C rfl (by decide) dX4_isLeastFor_12) ?_
  refine snd_c (s_iload_n C rfl dX4_isLeastFor_13) ?_
  refine snd_c (s_aload_n C rfl dX4_isLeastFor_14) ?_
  refine snd_c (s_getf C (ci := 4) (j := 1) (T := TX4) rfl inX4 (by decide) fl_RX4_19 dX4_isLeastFor_15) ?_
  refine snd_c (s_getf C (ci := 0) (j := 3) (T := TX0) rfl inX0 (by decide) fl_RX4_211 dX4_isLeastFor_18) ?_
  refine snd_c (s_icmp_ge C dX4_isLeastFor_21 (by decide)) ?_
  refine snd_c (s_iload_n C rfl dX4_isLeastFor_24) ?_
  refine snd_c (s_iload_n C rfl dX4_isLeastFor_25) ?_
  refine snd_c (s_ishr C dX4_isLeastFor_26) ?_
  refine snd_c (s_iconst C dX4_isLeastFor_27 rfl) ?_
  refine snd_c (s_iand C dX4_isLeastFor_28) ?_
  refine snd_c (s_if_eq C dX4_isLeastFor_29 (by decide)) ?_
  refine snd_c (s_aload_n C rfl dX4_isLeastFor_32) ?_
  refine snd_c (s_iload_n C rfl dX4_isLeastFor_33) ?_
  refine snd_c (s_iconst C dX4_isLeastFor_34 rfl) ?_
  refine snd_c (s_iload_n C rfl dX4_isLeastFor_35) ?_
  refine snd_c (s_ishl C dX4_isLeastFor_36) ?_
  refine snd_c (s_iconst C dX4_isLeastFor_37 rfl) ?_
  refine snd_c (s_ixor C dX4_isLeastFor_38) ?_
  refine snd_c (s_iand C dX4_isLeastFor_39) ?_
  refine snd_c (s_iload_n C rfl dX4_isLeastFor_40) ?_
  refine snd_c (s_callV C (ci := 4) c_X4_groupOpens rfl cw_RX4_218 ⟨rfl, rfl⟩ ⟨by decide +kernel, by decide +kernel, by decide +kernel⟩ ⟨by decide, by decide⟩ ⟨Nat.zero_le _, Nat.zero_le _⟩ dX4_isLeastFor_41) ?_
  refine snd_c (s_if_eq C dX4_isLeastFor_44 (by decide)) ?_
  refine snd_c (s_iconst C dX4_isLeastFor_47 rfl) ?_
  refine snd_c (s_zret C hr ⟨rfl, rfl⟩ dX4_isLeastFor_48) ?_
  refine snd_c (s_iinc C (by decide) rfl dX4_isLeastFor_49) ?_
  refine snd_c (s_goto C dX4_isLeastFor_52 (by decide)) ?_
  refine snd_c (s_iconst C dX4_isLeastFor_55 rfl) ?_
  refine snd_c (s_zret C hr ⟨rfl, rfl⟩ dX4_isLeastFor_56) ?_
  exact trivial
theorem x16 {g q : Nat} (hg : g < 16) (hq : q < 4) : g ^^^ 2 ^ q < 16 := Nat.xor_lt_two_pow (n := 4) hg (Nat.pow_lt_pow_right (by omega) hq)
set_option maxRecDepth 100000 in
theorem v_X4_isLeastFor : ∀ as M post, S_X4_isLeastFor as M post → wsum as ≤ 4 ∧ RUN (T_X4_isLeastFor post) 0 (entL 4 as) [] M := by
  rintro as M post ⟨g, l, n, c, p, r, h0, lk, rfl, hg, hl2, hX, h⟩
  have hX0 := hX
  obtain ⟨hn, hn8, hc, hc6, hp, hp4, hr, hhk, hl⟩ := hX
  refine ⟨by show 3 ≤ 4; omega, run_of [13] (fun μ pc lv st M' => pc = 13 ∧ st = [] ∧ gop r h0 n p lk c g l ∧ ∃ i f, i ≤ p ∧ (∀ q, q < i → g.testBit q = true → ¬ gop r h0 n p lk c (g ^^^ 2 ^ q) l) ∧ M' = sA 27 f M ∧ 20 - i = μ ∧ lv = [some (VR 0), some (VI (nI g)), some (VI (nI l)), some (VI (nI i))]) 60 30 ?_ ?_⟩
  · rintro μ pc lv st M' ⟨rfl, rfl, hgo, i, f, hi, hq, rfl, rfl, rfl⟩
    dsimp only [k_X4_isLeastFor_0, k_X4_isLeastFor_1, k_X4_isLeastFor_2, k_X4_isLeastFor_3, k_X4_isLeastFor_6, k_X4_isLeastFor_9, k_X4_isLeastFor_10, k_X4_isLeastFor_11, k_X4_isLeastFor_12, k_X4_isLeastFor_13, k_X4_isLeastFor_14, k_X4_isLeastFor_15, k_X4_isLeastFor_18, k_X4_isLeastFor_21, k_X4_isLeastFor_24, k_X4_isLeastFor_25, k_X4_isLeastFor_26, k_X4_isLeastFor_27, k_X4_isLeastFor_28, k_X4_isLeastFor_29, k_X4_isLeastFor_32, k_X4_isLeastFor_33, k_X4_isLeastFor_34, k_X4_isLeastFor_35, k_X4_isLeastFor_36, k_X4_isLeastFor_37, k_X4_isLeastFor_38, k_X4_isLeastFor_39, k_X4_isLeastFor_40, k_X4_isLeastFor_41, k_X4_isLeastFor_44, k_X4_isLeastFor_47, k_X4_isLeastFor_48, k_X4_isLeastFor_49, k_X4_isLeastFor_52, k_X4_isLeastFor_55, k_X4_isLeastFor_56, wp1, wp_s, cutIn, kont, Nat.reduceSub, Nat.reduceAdd, nth, o_const, o_lconst, o_ref, o_iload, o_lload, o_aload, o_istore, o_lstore, o_astore, o_iinc, o_bin, o_div, o_un, o_lbin, o_lsh, o_lcmp, o_i2l, o_l2i, o_if, o_icmp, o_goto, o_dup, o_dup2, o_pop, fav, o_getf, o_putI, o_putZ, o_putL, o_ald, o_ast, o_alen, popn, rst, o_callV, o_callT, o_callS, swx, o_sw, o_ret, o_iret, o_zret, o_cret, o_lret, o_aret, lg, lput, lput2, ls1, isL, entL, wsum, rdI1, rdI2, rdA1, rdA21, rdA22, rdL1, rdL22, rdL21, upN_at, rep, sh_0, F_0_0, F_0_1, F_0_2, F_0_3, F_0_4, F_0_5, F_0_6, F_0_7, F_0_8, sh_1, F_1_0, F_1_1, F_1_2, F_1_3, F_1_4, F_1_5, sh_3, F_3_0, F_3_1, F_3_2, F_3_3, F_3_4, F_3_5, sh_5, F_5_0, F_5_1, F_5_2, F_5_3, F_5_4, F_5_5, F_5_6, F_5_7, F_5_8, sh_12, F_12_0, F_12_1, F_12_2, F_12_3, F_12_4, F_12_5, sh_14, F_14_0, F_14_1, F_14_2, F_14_3, F_14_4, F_14_5, F_14_6, F_14_7, F_14_8, sh_21, F_21_0, F_21_1, F_21_2, F_21_3, F_21_4, F_21_5, F_21_6, F_21_7, F_21_8, sh_28, F_28_0, F_28_1, F_28_2, F_28_3, F_28_4, F_28_5, F_28_6, F_28_7, F_28_8, sh_35, F_35_0, sh_39, F_39_0, F_39_1, F_39_2, F_39_3, F_39_4, F_39_5, F_39_6, F_39_7, F_39_8, F_39_9, F_39_10, F_39_11, F_39_12, F_39_13, A_2, A_4, A_6, A_7, A_8, A_9, A_10, A_11, A_13, A_15, A_16, A_17, A_18, A_19, A_20, A_22, A_23, A_24, A_25, A_26, A_27, A_29, A_30, A_31, A_32, A_33, A_34, A_36, A_37, A_38, A_40, A_41, A_42, A_43, A_44, A_45, A_46, A_47]
    rw [hp]
    simp (disch := omega) only [nI_leI, nI_ltI, nI_eq, nI_1, nI_add, one_shl, nI_or, nI_xor, nI_and, bit_0, bit_1, true_or, or_true, true_and, and_true, eq_self, not_true_eq_false, not_false_eq_true, forall_const]
    have nx : (g.testBit i = true → ¬ gop r h0 n p lk c (g ^^^ 2 ^ i) l) → ∀ q, q < i + 1 → g.testBit q = true → ¬ gop r h0 n p lk c (g ^^^ 2 ^ q) l := by
      intro z q hq2
      rcases Nat.lt_or_ge q i with e | e
      · exact hq q e
      · rw [show q = i by omega]; exact z
    refine ⟨fun z => (h f).1 ⟨hgo, ?_⟩, fun z => ⟨fun z2 => cut _ _ ⟨rfl, rfl, hgo, i + 1, f, by omega, nx (fun z3 => by rw [z2] at z3; cases z3), rfl, rfl, rfl⟩ (by omega) ⟨rfl, rfl, rfl, rfl, trivial⟩, fun z2 => ?_⟩⟩
    · exact fun q hq2 => hq q (by omega)
    · have z3 : g.testBit i = true := by simpa using z2
      rw [clr (by omega) (by omega) z3]
      have hx := x16 hg (show i < 4 by omega)
      refine ⟨_, l, n, c, p, r, h0, lk, rfl, by omega, hl2, XW_27 hX0 f, fun f2 => ⟨fun z4 => ?_, fun z4 => ?_⟩⟩
      · dsimp only [k_X4_isLeastFor_0, k_X4_isLeastFor_1, k_X4_isLeastFor_2, k_X4_isLeastFor_3, k_X4_isLeastFor_6, k_X4_isLeastFor_9, k_X4_isLeastFor_10, k_X4_isLeastFor_11, k_X4_isLeastFor_12, k_X4_isLeastFor_13, k_X4_isLeastFor_14, k_X4_isLeastFor_15, k_X4_isLeastFor_18, k_X4_isLeastFor_21, k_X4_isLeastFor_24, k_X4_isLeastFor_25, k_X4_isLeastFor_26, k_X4_isLeastFor_27, k_X4_isLeastFor_28, k_X4_isLeastFor_29, k_X4_isLeastFor_32, k_X4_isLeastFor_33, k_X4_isLeastFor_34, k_X4_isLeastFor_35, k_X4_isLeastFor_36, k_X4_isLeastFor_37, k_X4_isLeastFor_38, k_X4_isLeastFor_39, k_X4_isLeastFor_40, k_X4_isLeastFor_41, k_X4_isLeastFor_44, k_X4_isLeastFor_47, k_X4_isLeastFor_48, k_X4_isLeastFor_49, k_X4_isLeastFor_52, k_X4_isLeastFor_55, k_X4_isLeastFor_56, wp1, wp_s, cutIn, kont, Nat.reduceSub, Nat.reduceAdd, nth, o_const, o_lconst, o_ref, o_iload, o_lload, o_aload, o_istore, o_lstore, o_astore, o_iinc, o_bin, o_div, o_un, o_lbin, o_lsh, o_lcmp, o_i2l, o_l2i, o_if, o_icmp, o_goto, o_dup, o_dup2, o_pop, fav, o_getf, o_putI, o_putZ, o_putL, o_ald, o_ast, o_alen, popn, rst, o_callV, o_callT, o_callS, swx, o_sw, o_ret, o_iret, o_zret, o_cret, o_lret, o_aret, lg, lput, lput2, ls1, isL, entL, wsum, rdI1, rdI2, rdA1, rdA21, rdA22, rdL1, rdL22, rdL21, upN_at, rep, sh_0, F_0_0, F_0_1, F_0_2, F_0_3, F_0_4, F_0_5, F_0_6, F_0_7, F_0_8, sh_1, F_1_0, F_1_1, F_1_2, F_1_3, F_1_4, F_1_5, sh_3, F_3_0, F_3_1, F_3_2, F_3_3, F_3_4, F_3_5, sh_5, F_5_0, F_5_1, F_5_2, F_5_3, F_5_4, F_5_5, F_5_6, F_5_7, F_5_8, sh_12, F_12_0, F_12_1, F_12_2, F_12_3, F_12_4, F_12_5, sh_14, F_14_0, F_14_1, F_14_2, F_14_3, F_14_4, F_14_5, F_14_6, F_14_7, F_14_8, sh_21, F_21_0, F_21_1, F_21_2, F_21_3, F_21_4, F_21_5, F_21_6, F_21_7, F_21_8, sh_28, F_28_0, F_28_1, F_28_2, F_28_3, F_28_4, F_28_5, F_28_6, F_28_7, F_28_8, sh_35, F_35_0, sh_39, F_39_0, F_39_1, F_39_2, F_39_3, F_39_4, F_39_5, F_39_6, F_39_7, F_39_8, F_39_9, F_39_10, F_39_11, F_39_12, F_39_13, A_2, A_4, A_6, A_7, A_8, A_9, A_10, A_11, A_13, A_15, A_16, A_17, A_18, A_19, A_20, A_22, A_23, A_24, A_25, A_26, A_27, A_29, A_30, A_31, A_32, A_33, A_34, A_36, A_37, A_38, A_40, A_41, A_42, A_43, A_44, A_45, A_46, A_47]
        rw [sA_sA]
        exact ⟨fun q => absurd q (by decide), fun _ => ⟨Or.inl rfl, (h f2).2 fun z5 => z5.2 i (by omega) z3 z4⟩⟩
      · dsimp only [k_X4_isLeastFor_0, k_X4_isLeastFor_1, k_X4_isLeastFor_2, k_X4_isLeastFor_3, k_X4_isLeastFor_6, k_X4_isLeastFor_9, k_X4_isLeastFor_10, k_X4_isLeastFor_11, k_X4_isLeastFor_12, k_X4_isLeastFor_13, k_X4_isLeastFor_14, k_X4_isLeastFor_15, k_X4_isLeastFor_18, k_X4_isLeastFor_21, k_X4_isLeastFor_24, k_X4_isLeastFor_25, k_X4_isLeastFor_26, k_X4_isLeastFor_27, k_X4_isLeastFor_28, k_X4_isLeastFor_29, k_X4_isLeastFor_32, k_X4_isLeastFor_33, k_X4_isLeastFor_34, k_X4_isLeastFor_35, k_X4_isLeastFor_36, k_X4_isLeastFor_37, k_X4_isLeastFor_38, k_X4_isLeastFor_39, k_X4_isLeastFor_40, k_X4_isLeastFor_41, k_X4_isLeastFor_44, k_X4_isLeastFor_47, k_X4_isLeastFor_48, k_X4_isLeastFor_49, k_X4_isLeastFor_52, k_X4_isLeastFor_55, k_X4_isLeastFor_56, wp1, wp_s, cutIn, kont, Nat.reduceSub, Nat.reduceAdd, nth, o_const, o_lconst, o_ref, o_iload, o_lload, o_aload, o_istore, o_lstore, o_astore, o_iinc, o_bin, o_div, o_un, o_lbin, o_lsh, o_lcmp, o_i2l, o_l2i, o_if, o_icmp, o_goto, o_dup, o_dup2, o_pop, fav, o_getf, o_putI, o_putZ, o_putL, o_ald, o_ast, o_alen, popn, rst, o_callV, o_callT, o_callS, swx, o_sw, o_ret, o_iret, o_zret, o_cret, o_lret, o_aret, lg, lput, lput2, ls1, isL, entL, wsum, rdI1, rdI2, rdA1, rdA21, rdA22, rdL1, rdL22, rdL21, upN_at, rep, sh_0, F_0_0, F_0_1, F_0_2, F_0_3, F_0_4, F_0_5, F_0_6, F_0_7, F_0_8, sh_1, F_1_0, F_1_1, F_1_2, F_1_3, F_1_4, F_1_5, sh_3, F_3_0, F_3_1, F_3_2, F_3_3, F_3_4, F_3_5, sh_5, F_5_0, F_5_1, F_5_2, F_5_3, F_5_4, F_5_5, F_5_6, F_5_7, F_5_8, sh_12, F_12_0, F_12_1, F_12_2, F_12_3, F_12_4, F_12_5, sh_14, F_14_0, F_14_1, F_14_2, F_14_3, F_14_4, F_14_5, F_14_6, F_14_7, F_14_8, sh_21, F_21_0, F_21_1, F_21_2, F_21_3, F_21_4, F_21_5, F_21_6, F_21_7, F_21_8, sh_28, F_28_0, F_28_1, F_28_2, F_28_3, F_28_4, F_28_5, F_28_6, F_28_7, F_28_8, sh_35, F_35_0, sh_39, F_39_0, F_39_1, F_39_2, F_39_3, F_39_4, F_39_5, F_39_6, F_39_7, F_39_8, F_39_9, F_39_10, F_39_11, F_39_12, F_39_13, A_2, A_4, A_6, A_7, A_8, A_9, A_10, A_11, A_13, A_15, A_16, A_17, A_18, A_19, A_20, A_22, A_23, A_24, A_25, A_26, A_27, A_29, A_30, A_31, A_32, A_33, A_34, A_36, A_37, A_38, A_40, A_41, A_42, A_43, A_44, A_45, A_46, A_47]
        rw [sA_sA]
        exact ⟨fun _ => cut _ _ ⟨rfl, rfl, hgo, i + 1, f2, by omega, nx (fun _ => z4), rfl, rfl, rfl⟩ (by omega) ⟨rfl, rfl, rfl, vi_eq (nI_1 _), trivial⟩, fun q => absurd rfl q⟩
  · dsimp only [k_X4_isLeastFor_0, k_X4_isLeastFor_1, k_X4_isLeastFor_2, k_X4_isLeastFor_3, k_X4_isLeastFor_6, k_X4_isLeastFor_9, k_X4_isLeastFor_10, k_X4_isLeastFor_11, k_X4_isLeastFor_12, k_X4_isLeastFor_13, k_X4_isLeastFor_14, k_X4_isLeastFor_15, k_X4_isLeastFor_18, k_X4_isLeastFor_21, k_X4_isLeastFor_24, k_X4_isLeastFor_25, k_X4_isLeastFor_26, k_X4_isLeastFor_27, k_X4_isLeastFor_28, k_X4_isLeastFor_29, k_X4_isLeastFor_32, k_X4_isLeastFor_33, k_X4_isLeastFor_34, k_X4_isLeastFor_35, k_X4_isLeastFor_36, k_X4_isLeastFor_37, k_X4_isLeastFor_38, k_X4_isLeastFor_39, k_X4_isLeastFor_40, k_X4_isLeastFor_41, k_X4_isLeastFor_44, k_X4_isLeastFor_47, k_X4_isLeastFor_48, k_X4_isLeastFor_49, k_X4_isLeastFor_52, k_X4_isLeastFor_55, k_X4_isLeastFor_56, wp1, wp_s, cutIn, kont, Nat.reduceSub, Nat.reduceAdd, nth, o_const, o_lconst, o_ref, o_iload, o_lload, o_aload, o_istore, o_lstore, o_astore, o_iinc, o_bin, o_div, o_un, o_lbin, o_lsh, o_lcmp, o_i2l, o_l2i, o_if, o_icmp, o_goto, o_dup, o_dup2, o_pop, fav, o_getf, o_putI, o_putZ, o_putL, o_ald, o_ast, o_alen, popn, rst, o_callV, o_callT, o_callS, swx, o_sw, o_ret, o_iret, o_zret, o_cret, o_lret, o_aret, lg, lput, lput2, ls1, isL, entL, wsum, rdI1, rdI2, rdA1, rdA21, rdA22, rdL1, rdL22, rdL21, upN_at, rep, sh_0, F_0_0, F_0_1, F_0_2, F_0_3, F_0_4, F_0_5, F_0_6, F_0_7, F_0_8, sh_1, F_1_0, F_1_1, F_1_2, F_1_3, F_1_4, F_1_5, sh_3, F_3_0, F_3_1, F_3_2, F_3_3, F_3_4, F_3_5, sh_5, F_5_0, F_5_1, F_5_2, F_5_3, F_5_4, F_5_5, F_5_6, F_5_7, F_5_8, sh_12, F_12_0, F_12_1, F_12_2, F_12_3, F_12_4, F_12_5, sh_14, F_14_0, F_14_1, F_14_2, F_14_3, F_14_4, F_14_5, F_14_6, F_14_7, F_14_8, sh_21, F_21_0, F_21_1, F_21_2, F_21_3, F_21_4, F_21_5, F_21_6, F_21_7, F_21_8, sh_28, F_28_0, F_28_1, F_28_2, F_28_3, F_28_4, F_28_5, F_28_6, F_28_7, F_28_8, sh_35, F_35_0, sh_39, F_39_0, F_39_1, F_39_2, F_39_3, F_39_4, F_39_5, F_39_6, F_39_7, F_39_8, F_39_9, F_39_10, F_39_11, F_39_12, F_39_13, A_2, A_4, A_6, A_7, A_8, A_9, A_10, A_11, A_13, A_15, A_16, A_17, A_18, A_19, A_20, A_22, A_23, A_24, A_25, A_26, A_27, A_29, A_30, A_31, A_32, A_33, A_34, A_36, A_37, A_38, A_40, A_41, A_42, A_43, A_44, A_45, A_46, A_47]
    refine ⟨g, l, n, c, p, r, h0, lk, rfl, by omega, hl2, hX0, fun f => ⟨fun z => ?_, fun z => ?_⟩⟩
    · dsimp only [k_X4_isLeastFor_0, k_X4_isLeastFor_1, k_X4_isLeastFor_2, k_X4_isLeastFor_3, k_X4_isLeastFor_6, k_X4_isLeastFor_9, k_X4_isLeastFor_10, k_X4_isLeastFor_11, k_X4_isLeastFor_12, k_X4_isLeastFor_13, k_X4_isLeastFor_14, k_X4_isLeastFor_15, k_X4_isLeastFor_18, k_X4_isLeastFor_21, k_X4_isLeastFor_24, k_X4_isLeastFor_25, k_X4_isLeastFor_26, k_X4_isLeastFor_27, k_X4_isLeastFor_28, k_X4_isLeastFor_29, k_X4_isLeastFor_32, k_X4_isLeastFor_33, k_X4_isLeastFor_34, k_X4_isLeastFor_35, k_X4_isLeastFor_36, k_X4_isLeastFor_37, k_X4_isLeastFor_38, k_X4_isLeastFor_39, k_X4_isLeastFor_40, k_X4_isLeastFor_41, k_X4_isLeastFor_44, k_X4_isLeastFor_47, k_X4_isLeastFor_48, k_X4_isLeastFor_49, k_X4_isLeastFor_52, k_X4_isLeastFor_55, k_X4_isLeastFor_56, wp1, wp_s, cutIn, kont, Nat.reduceSub, Nat.reduceAdd, nth, o_const, o_lconst, o_ref, o_iload, o_lload, o_aload, o_istore, o_lstore, o_astore, o_iinc, o_bin, o_div, o_un, o_lbin, o_lsh, o_lcmp, o_i2l, o_l2i, o_if, o_icmp, o_goto, o_dup, o_dup2, o_pop, fav, o_getf, o_putI, o_putZ, o_putL, o_ald, o_ast, o_alen, popn, rst, o_callV, o_callT, o_callS, swx, o_sw, o_ret, o_iret, o_zret, o_cret, o_lret, o_aret, lg, lput, lput2, ls1, isL, entL, wsum, rdI1, rdI2, rdA1, rdA21, rdA22, rdL1, rdL22, rdL21, upN_at, rep, sh_0, F_0_0, F_0_1, F_0_2, F_0_3, F_0_4, F_0_5, F_0_6, F_0_7, F_0_8, sh_1, F_1_0, F_1_1, F_1_2, F_1_3, F_1_4, F_1_5, sh_3, F_3_0, F_3_1, F_3_2, F_3_3, F_3_4, F_3_5, sh_5, F_5_0, F_5_1, F_5_2, F_5_3, F_5_4, F_5_5, F_5_6, F_5_7, F_5_8, sh_12, F_12_0, F_12_1, F_12_2, F_12_3, F_12_4, F_12_5, sh_14, F_14_0, F_14_1, F_14_2, F_14_3, F_14_4, F_14_5, F_14_6, F_14_7, F_14_8, sh_21, F_21_0, F_21_1, F_21_2, F_21_3, F_21_4, F_21_5, F_21_6, F_21_7, F_21_8, sh_28, F_28_0, F_28_1, F_28_2, F_28_3, F_28_4, F_28_5, F_28_6, F_28_7, F_28_8, sh_35, F_35_0, sh_39, F_39_0, F_39_1, F_39_2, F_39_3, F_39_4, F_39_5, F_39_6, F_39_7, F_39_8, F_39_9, F_39_10, F_39_11, F_39_12, F_39_13, A_2, A_4, A_6, A_7, A_8, A_9, A_10, A_11, A_13, A_15, A_16, A_17, A_18, A_19, A_20, A_22, A_23, A_24, A_25, A_26, A_27, A_29, A_30, A_31, A_32, A_33, A_34, A_36, A_37, A_38, A_40, A_41, A_42, A_43, A_44, A_45, A_46, A_47]
      exact ⟨fun q => absurd q (by decide), fun _ => cut _ _ ⟨rfl, rfl, z, 0, f, by omega, fun q hq => absurd hq (by omega), rfl, rfl, rfl⟩ (by omega) ⟨rfl, rfl, rfl, rfl, trivial⟩⟩
    · dsimp only [k_X4_isLeastFor_0, k_X4_isLeastFor_1, k_X4_isLeastFor_2, k_X4_isLeastFor_3, k_X4_isLeastFor_6, k_X4_isLeastFor_9, k_X4_isLeastFor_10, k_X4_isLeastFor_11, k_X4_isLeastFor_12, k_X4_isLeastFor_13, k_X4_isLeastFor_14, k_X4_isLeastFor_15, k_X4_isLeastFor_18, k_X4_isLeastFor_21, k_X4_isLeastFor_24, k_X4_isLeastFor_25, k_X4_isLeastFor_26, k_X4_isLeastFor_27, k_X4_isLeastFor_28, k_X4_isLeastFor_29, k_X4_isLeastFor_32, k_X4_isLeastFor_33, k_X4_isLeastFor_34, k_X4_isLeastFor_35, k_X4_isLeastFor_36, k_X4_isLeastFor_37, k_X4_isLeastFor_38, k_X4_isLeastFor_39, k_X4_isLeastFor_40, k_X4_isLeastFor_41, k_X4_isLeastFor_44, k_X4_isLeastFor_47, k_X4_isLeastFor_48, k_X4_isLeastFor_49, k_X4_isLeastFor_52, k_X4_isLeastFor_55, k_X4_isLeastFor_56, wp1, wp_s, cutIn, kont, Nat.reduceSub, Nat.reduceAdd, nth, o_const, o_lconst, o_ref, o_iload, o_lload, o_aload, o_istore, o_lstore, o_astore, o_iinc, o_bin, o_div, o_un, o_lbin, o_lsh, o_lcmp, o_i2l, o_l2i, o_if, o_icmp, o_goto, o_dup, o_dup2, o_pop, fav, o_getf, o_putI, o_putZ, o_putL, o_ald, o_ast, o_alen, popn, rst, o_callV, o_callT, o_callS, swx, o_sw, o_ret, o_iret, o_zret, o_cret, o_lret, o_aret, lg, lput, lput2, ls1, isL, entL, wsum, rdI1, rdI2, rdA1, rdA21, rdA22, rdL1, rdL22, rdL21, upN_at, rep, sh_0, F_0_0, F_0_1, F_0_2, F_0_3, F_0_4, F_0_5, F_0_6, F_0_7, F_0_8, sh_1, F_1_0, F_1_1, F_1_2, F_1_3, F_1_4, F_1_5, sh_3, F_3_0, F_3_1, F_3_2, F_3_3, F_3_4, F_3_5, sh_5, F_5_0, F_5_1, F_5_2, F_5_3, F_5_4, F_5_5, F_5_6, F_5_7, F_5_8, sh_12, F_12_0, F_12_1, F_12_2, F_12_3, F_12_4, F_12_5, sh_14, F_14_0, F_14_1, F_14_2, F_14_3, F_14_4, F_14_5, F_14_6, F_14_7, F_14_8, sh_21, F_21_0, F_21_1, F_21_2, F_21_3, F_21_4, F_21_5, F_21_6, F_21_7, F_21_8, sh_28, F_28_0, F_28_1, F_28_2, F_28_3, F_28_4, F_28_5, F_28_6, F_28_7, F_28_8, sh_35, F_35_0, sh_39, F_39_0, F_39_1, F_39_2, F_39_3, F_39_4, F_39_5, F_39_6, F_39_7, F_39_8, F_39_9, F_39_10, F_39_11, F_39_12, F_39_13, A_2, A_4, A_6, A_7, A_8, A_9, A_10, A_11, A_13, A_15, A_16, A_17, A_18, A_19, A_20, A_22, A_23, A_24, A_25, A_26, A_27, A_29, A_30, A_31, A_32, A_33, A_34, A_36, A_37, A_38, A_40, A_41, A_42, A_43, A_44, A_45, A_46, A_47]
      exact ⟨fun _ => ⟨Or.inl rfl, (h f).2 fun z5 => z z5.1⟩, fun q => absurd rfl q⟩
theorem c_X4_isLeastFor : Ctr yX4_isLeastFor cX4_isLeastFor 4 (some .boolean) ({ frames := 5, cells := 0, slots := 0, locals := 113 } : Room) S_X4_isLeastFor := ctr_of (T := T_X4_isLeastFor) (by decide +kernel) (fun post C hr => t_X4_isLeastFor post C hr) v_X4_isLeastFor
