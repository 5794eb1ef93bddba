/-! The class's rings. -/
theorem tb_all {ws : List Cond} (is : List Nat) (h : is.map (fun i => lw_tbl[i]?) = ws.map some) (hg : ws.all goodWord = true) : ∀ w ∈ ws, w ∈ tb := by
  intro w hw
  obtain ⟨k, hk⟩ := List.getElem?_of_mem hw
  have h1 : (is.map (fun i => lw_tbl[i]?))[k]? = some (some w) := by rw [h, List.getElem?_map, hk]; rfl
  rw [List.getElem?_map] at h1
  cases hi : is[k]? with
  | none => rw [hi] at h1; cases h1
  | some i =>
    rw [hi] at h1
    exact tb_of i (Option.some.inj h1) (List.all_eq_true.mp hg w hw)
theorem inX0 : ∀ w ∈ u_ws RX0 TX0 6, w ∈ tb := tb_all [160, 162, 164, 166, 168, 170] (by decide +kernel) (by decide +kernel)
theorem inX1 : ∀ w ∈ u_ws RX1 TX1 9, w ∈ tb := tb_all [130, 132, 134, 136, 138, 140, 142, 144, 146] (by decide +kernel) (by decide +kernel)
theorem inX2 : ∀ w ∈ u_ws RX2 TX2 1, w ∈ tb := tb_all [182] (by decide +kernel) (by decide +kernel)
theorem inX3 : ∀ w ∈ u_ws RX3 TX3 6, w ∈ tb := tb_all [89, 91, 93, 95, 97, 99] (by decide +kernel) (by decide +kernel)
theorem inX4 : ∀ w ∈ u_ws RX4 TX4 9, w ∈ tb := tb_all [194, 196, 198, 200, 202, 204, 206, 208, 210] (by decide +kernel) (by decide +kernel)
theorem inX5 : ∀ w ∈ u_ws RX5 TX5 14, w ∈ tb := tb_all [647, 649, 651, 653, 655, 657, 659, 661, 663, 665, 667, 669, 671, 673] (by decide +kernel) (by decide +kernel)
theorem snd_c {w : NX} {pc : Nat} {o : OP} {l : List (Nat × OP)} (h : Snd w pc o) (t : SndL w l) : SndL w ((pc, o) :: l) := ⟨h, t⟩

def b2 (P : Prop) [Decidable P] : Int32 := if P then 1 else 0
def S_X1_has : SP := fun as M post => ∃ k x, as = [VR k, VI x] ∧ ((k = 5 ∧ post (some (VI (b2 (0 ≤ x ∧ x < M.1 9)))) M) ∨ (k = 14 ∧ post (some (VI (b2 (0 ≤ x ∧ x < M.1 16)))) M))
theorem fl_RX1_30 : Cond.fieldLink RX1 30 (TX1 2).1 (TX1 2).2.1 (TX1 2).2.2.1 ∈ tb := tb_of 120 (by decide +kernel) (by decide +kernel)
theorem dX1_has_0 : decode cX1_has 0 = .ok (.iload_n 1, 1) := by decide +kernel
theorem dX1_has_1 : decode cX1_has 1 = .ok (.ifCond .lt 15, 3) := by decide +kernel
theorem dX1_has_4 : decode cX1_has 4 = .ok (.iload_n 1, 1) := by decide +kernel
theorem dX1_has_5 : decode cX1_has 5 = .ok (.aload_n 0, 1) := by decide +kernel
theorem dX1_has_6 : decode cX1_has 6 = .ok (.getfield 30, 3) := by decide +kernel
theorem dX1_has_9 : decode cX1_has 9 = .ok (.if_icmp .ge 7, 3) := by decide +kernel
theorem dX1_has_12 : decode cX1_has 12 = .ok (.iconst 1, 1) := by decide +kernel
theorem dX1_has_13 : decode cX1_has 13 = .ok (.goto 4, 3) := by decide +kernel
theorem dX1_has_16 : decode cX1_has 16 = .ok (.iconst 0, 1) := by decide +kernel
theorem dX1_has_17 : decode cX1_has 17 = .ok (.ireturn, 1) := by decide +kernel
def T_X1_has (post : PO) : List (Nat × OP) := [(0, o_iload 1 1), (1, o_if (fun x => x < 0) 16 4), (4, o_iload 1 5), (5, o_aload 0 6), (6, o_getf 1 2 9), (9, o_icmp (fun x y => y ≤ x) 16 12), (12, o_const 1 13), (13, o_goto 17), (16, o_const 0 17), (17, o_zret post)]
theorem k_X1_has_0 (post : PO) : lk (T_X1_has post) 0 = o_iload 1 1 := rfl
theorem k_X1_has_1 (post : PO) : lk (T_X1_has post) 1 = o_if (fun x => x < 0) 16 4 := rfl
theorem k_X1_has_4 (post : PO) : lk (T_X1_has post) 4 = o_iload 1 5 := rfl
theorem k_X1_has_5 (post : PO) : lk (T_X1_has post) 5 = o_aload 0 6 := rfl
theorem k_X1_has_6 (post : PO) : lk (T_X1_has post) 6 = o_getf 1 2 9 := rfl
theorem k_X1_has_9 (post : PO) : lk (T_X1_has post) 9 = o_icmp (fun x y => y ≤ x) 16 12 := rfl
theorem k_X1_has_12 (post : PO) : lk (T_X1_has post) 12 = o_const 1 13 := rfl
theorem k_X1_has_13 (post : PO) : lk (T_X1_has post) 13 = o_goto 17 := rfl
theorem k_X1_has_16 (post : PO) : lk (T_X1_has post) 16 = o_const 0 17 := rfl
theorem k_X1_has_17 (post : PO) : lk (T_X1_has post) 17 = o_zret post := rfl
set_option maxRecDepth 100000 in
theorem t_X1_has {p : Program} {l : Launch} {e : Env} {s : State} {m : MethodId} {args : Array Value} {below : List Frame} {meth : Method} {c : Code} {D : va_G} {dA : Nat → ClassId} {ad : Nat → Nat} (post : PO) (C : CX p s m args meth c cX1_has 2 yX1_has.cls D dA ad (AA ad s.heap.size)) (hr : meth.sig.returnType = (some .boolean)) : SndL (WW p l e ({ frames := 0, cells := 0, slots := 0, locals := 0 } : Room) s m args below meth c 0 0 (MQ below (CQ D dA ad post (AA ad s.heap.size)) args s 0 0 (AA ad s.heap.size)) 2 D dA ad (AA ad s.heap.size)) (T_X1_has post) := by
  refine snd_c (s_iload_n C rfl dX1_has_0) ?_
  refine snd_c (s_if_lt C dX1_has_1 (by decide)) ?_
  refine snd_c (s_iload_n C rfl dX1_has_4) ?_
  refine snd_c (s_aload_n C rfl dX1_has_5) ?_
  refine snd_c (s_getf C (ci := 1) (j := 2) (T := TX1) rfl inX1 (by decide) fl_RX1_30 dX1_has_6) ?_
  refine snd_c (s_icmp_ge C dX1_has_9 (by decide)) ?_
  refine snd_c (s_iconst C dX1_has_12 rfl) ?_
  refine snd_c (s_goto C dX1_has_13 (by decide)) ?_
  refine snd_c (s_iconst C dX1_has_16 rfl) ?_
  refine snd_c (s_zret C hr ⟨rfl, rfl⟩ dX1_has_17) ?_
  exact trivial
theorem fl_RX1_15 : Cond.fieldLink RX1 15 (TX1 1).1 (TX1 1).2.1 (TX1 1).2.2.1 ∈ tb := tb_of 117 (by decide +kernel) (by decide +kernel)
theorem dX1_keptBy_0 : decode cX1_keptBy 0 = .ok (.iconst 0, 1) := by decide +kernel
theorem dX1_keptBy_1 : decode cX1_keptBy 1 = .ok (.istore_n 2, 1) := by decide +kernel
theorem dX1_keptBy_2 : decode cX1_keptBy 2 = .ok (.iconst 0, 1) := by decide +kernel
theorem dX1_keptBy_3 : decode cX1_keptBy 3 = .ok (.istore_n 3, 1) := by decide +kernel
theorem dX1_keptBy_4 : decode cX1_keptBy 4 = .ok (.iload_n 3, 1) := by decide +kernel
theorem dX1_keptBy_5 : decode cX1_keptBy 5 = .ok (.aload_n 0, 1) := by decide +kernel
theorem dX1_keptBy_6 : decode cX1_keptBy 6 = .ok (.getfield 30, 3) := by decide +kernel
theorem dX1_keptBy_9 : decode cX1_keptBy 9 = .ok (.if_icmp .ge 25, 3) := by decide +kernel
theorem dX1_keptBy_12 : decode cX1_keptBy 12 = .ok (.aload_n 0, 1) := by decide +kernel
theorem dX1_keptBy_13 : decode cX1_keptBy 13 = .ok (.getfield 15, 3) := by decide +kernel
theorem dX1_keptBy_16 : decode cX1_keptBy 16 = .ok (.iload_n 3, 1) := by decide +kernel
theorem dX1_keptBy_17 : decode cX1_keptBy 17 = .ok (.iaload, 1) := by decide +kernel
theorem dX1_keptBy_18 : decode cX1_keptBy 18 = .ok (.iload_n 1, 1) := by decide +kernel
theorem dX1_keptBy_19 : decode cX1_keptBy 19 = .ok (.if_icmp .ne 9, 3) := by decide +kernel
theorem dX1_keptBy_22 : decode cX1_keptBy 22 = .ok (.iload_n 2, 1) := by decide +kernel
theorem dX1_keptBy_23 : decode cX1_keptBy 23 = .ok (.iconst 1, 1) := by decide +kernel
theorem dX1_keptBy_24 : decode cX1_keptBy 24 = .ok (.iload_n 3, 1) := by decide +kernel
theorem dX1_keptBy_25 : decode cX1_keptBy 25 = .ok (.ishl, 1) := by decide +kernel
theorem dX1_keptBy_26 : decode cX1_keptBy 26 = .ok (.ior, 1) := by decide +kernel
theorem dX1_keptBy_27 : decode cX1_keptBy 27 = .ok (.istore_n 2, 1) := by decide +kernel
theorem dX1_keptBy_28 : decode cX1_keptBy 28 = .ok (.iinc 3 1, 3) := by decide +kernel
theorem dX1_keptBy_31 : decode cX1_keptBy 31 = .ok (.goto (-27), 3) := by decide +kernel
theorem dX1_keptBy_34 : decode cX1_keptBy 34 = .ok (.iload_n 2, 1) := by decide +kernel
theorem dX1_keptBy_35 : decode cX1_keptBy 35 = .ok (.ireturn, 1) := by decide +kernel
def T_X1_keptBy (post : PO) : List (Nat × OP) := [(0, o_const 0 1), (1, o_istore 2 2), (2, o_const 0 3), (3, o_istore 3 4), (4, o_iload 3 5), (5, o_aload 0 6), (6, o_getf 1 2 9), (9, o_icmp (fun x y => y ≤ x) 34 12), (12, o_aload 0 13), (13, o_getf 1 1 16), (16, o_iload 3 17), (17, o_ald 0 18), (18, o_iload 1 19), (19, o_icmp (fun x y => x = y) 22 28), (22, o_iload 2 23), (23, o_const 1 24), (24, o_iload 3 25), (25, o_bin (fun x y => x <<< (y &&& 31)) 26), (26, o_bin (fun x y => x ||| y) 27), (27, o_istore 2 28), (28, o_iinc 3 1 31), (31, o_goto 4), (34, o_iload 2 35), (35, o_iret post)]
theorem k_X1_keptBy_0 (post : PO) : lk (T_X1_keptBy post) 0 = o_const 0 1 := rfl
theorem k_X1_keptBy_1 (post : PO) : lk (T_X1_keptBy post) 1 = o_istore 2 2 := rfl
theorem k_X1_keptBy_2 (post : PO) : lk (T_X1_keptBy post) 2 = o_const 0 3 := rfl
theorem k_X1_keptBy_3 (post : PO) : lk (T_X1_keptBy post) 3 = o_istore 3 4 := rfl
theorem k_X1_keptBy_4 (post : PO) : lk (T_X1_keptBy post) 4 = o_iload 3 5 := rfl
theorem k_X1_keptBy_5 (post : PO) : lk (T_X1_keptBy post) 5 = o_aload 0 6 := rfl
theorem k_X1_keptBy_6 (post : PO) : lk (T_X1_keptBy post) 6 = o_getf 1 2 9 := rfl
theorem k_X1_keptBy_9 (post : PO) : lk (T_X1_keptBy post) 9 = o_icmp (fun x y => y ≤ x) 34 12 := rfl
theorem k_X1_keptBy_12 (post : PO) : lk (T_X1_keptBy post) 12 = o_aload 0 13 := rfl
theorem k_X1_keptBy_13 (post : PO) : lk (T_X1_keptBy post) 13 = o_getf 1 1 16 := rfl
theorem k_X1_keptBy_16 (post : PO) : lk (T_X1_keptBy post) 16 = o_iload 3 17 := rfl
theorem k_X1_keptBy_17 (post : PO) : lk (T_X1_keptBy post) 17 = o_ald 0 18 := rfl
theorem k_X1_keptBy_18 (post : PO) : lk (T_X1_keptBy post) 18 = o_iload 1 19 := rfl
theorem k_X1_keptBy_19 (post : PO) : lk (T_X1_keptBy post) 19 = o_icmp (fun x y => x = y) 22 28 := rfl
theorem k_X1_keptBy_22 (post : PO) : lk (T_X1_keptBy post) 22 = o_iload 2 23 := rfl
theorem k_X1_keptBy_23 (post : PO) : lk (T_X1_keptBy post) 23 = o_const 1 24 := rfl
theorem k_X1_keptBy_24 (post : PO) : lk (T_X1_keptBy post) 24 = o_iload 3 25 := rfl
theorem k_X1_keptBy_25 (post : PO) : lk (T_X1_keptBy post) 25 = o_bin (fun x y => x <<< (y &&& 31)) 26 := rfl
theorem k_X1_keptBy_26 (post : PO) : lk (T_X1_keptBy post) 26 = o_bin (fun x y => x ||| y) 27 := rfl
theorem k_X1_keptBy_27 (post : PO) : lk (T_X1_keptBy post) 27 = o_istore 2 28 := rfl
theorem k_X1_keptBy_28 (post : PO) : lk (T_X1_keptBy post) 28 = o_iinc 3 1 31 := rfl
theorem k_X1_keptBy_31 (post : PO) : lk (T_X1_keptBy post) 31 = o_goto 4 := rfl
theorem k_X1_keptBy_34 (post : PO) : lk (T_X1_keptBy post) 34 = o_iload 2 35 := rfl
theorem k_X1_keptBy_35 (post : PO) : lk (T_X1_keptBy post) 35 = o_iret post := rfl
set_option maxRecDepth 100000 in
theorem t_X1_keptBy {p : Program} {l : Launch} {e : Env} {s : State} {m : MethodId} {args : Array Value} {below : List Frame} {meth : Method} {c : Code} {D : va_G} {dA : Nat → ClassId} {ad : Nat → Nat} (post : PO) (C : CX p s m args meth c cX1_keptBy 4 yX1_keptBy.cls D dA ad (AA ad s.heap.size)) (hr : meth.sig.returnType = (some .int)) : SndL (WW p l e ({ frames := 0, cells := 0, slots := 0, locals := 0 } : Room) s m args below meth c 0 0 (MQ below (CQ D dA ad post (AA ad s.heap.size)) args s 0 0 (AA ad s.heap.size)) 4 D dA ad (AA ad s.heap.size)) (T_X1_keptBy post) := by
  refine snd_c (s_iconst C dX1_keptBy_0 rfl) ?_
  refine snd_c (s_istore_n C rfl (by decide) dX1_keptBy_1) ?_
  refine snd_c (s_iconst C dX1_keptBy_2 rfl) ?_
  refine snd_c (s_istore_n C rfl (by decide) dX1_keptBy_3) ?_
  refine snd_c (s_iload_n C rfl dX1_keptBy_4) ?_
  refine snd_c (s_aload_n C rfl dX1_keptBy_5) ?_
  refine snd_c (s_getf C (ci := 1) (j := 2) (T := TX1) rfl inX1 (by decide) fl_RX1_30 dX1_keptBy_6) ?_
  refine snd_c (s_icmp_ge C dX1_keptBy_9 (by decide)) ?_
  refine snd_c (s_aload_n C rfl dX1_keptBy_12) ?_
  refine snd_c (s_getf C (ci := 1) (j := 1) (T := TX1) rfl inX1 (by decide) fl_RX1_15 dX1_keptBy_13) ?_
  refine snd_c (s_iload_n C rfl dX1_keptBy_16) ?_
  refine snd_c (s_iald C dX1_keptBy_17) ?_
  refine snd_c (s_iload_n C rfl dX1_keptBy_18) ?_
  refine snd_c (s_icmp_ne C dX1_keptBy_19 (by decide)) ?_
  refine snd_c (s_iload_n C rfl dX1_keptBy_22) ?_
  refine snd_c (s_iconst C dX1_keptBy_23 rfl) ?_
  refine snd_c (s_iload_n C rfl dX1_keptBy_24) ?_
  refine snd_c (s_ishl C dX1_keptBy_25) ?_
  refine snd_c (s_ior C dX1_keptBy_26) ?_
  refine snd_c (s_istore_n C rfl (by decide) dX1_keptBy_27) ?_
  refine snd_c (s_iinc C (by decide) rfl dX1_keptBy_28) ?_
  refine snd_c (s_goto C dX1_keptBy_31 (by decide)) ?_
  refine snd_c (s_iload_n C rfl dX1_keptBy_34) ?_
  refine snd_c (s_iret C hr dX1_keptBy_35) ?_
  exact trivial
theorem v_X1_has : ∀ as M post, S_X1_has as M post → wsum as ≤ 2 ∧ RUN (T_X1_has post) 0 (entL 2 as) [] M := by
  rintro as M post ⟨k, x, rfl, h⟩
  refine ⟨Nat.le_refl 2, run_wp 30 ?_⟩
  rcases h with ⟨rfl, h⟩ | ⟨rfl, h⟩
  · dsimp only [k_X1_has_0, k_X1_has_1, k_X1_has_4, k_X1_has_5, k_X1_has_6, k_X1_has_9, k_X1_has_12, k_X1_has_13, k_X1_has_16, k_X1_has_17, wp1, wp, cutIn, kont, Nat.reduceBEq, nth, o_const, o_lconst, o_ref, o_iload, o_lload, o_aload, o_istore, o_lstore, o_astore, o_iinc, o_bin, o_div, o_un, o_lbin, o_lsh, o_lcmp, o_i2l, o_l2i, o_if, o_icmp, o_goto, o_dup, o_dup2, o_pop, fav, o_getf, o_putI, o_putZ, o_putL, o_ald, o_ast, o_alen, popn, rst, o_callV, o_callT, o_callS, swx, o_sw, o_ret, o_iret, o_zret, o_cret, o_lret, o_aret, lg, lput, lput2, ls1, isL, entL, wsum, sI, sL, sA, sh_0, F_0_0, F_0_1, F_0_2, F_0_3, F_0_4, F_0_5, F_0_6, F_0_7, F_0_8, sh_1, F_1_0, F_1_1, F_1_2, F_1_3, F_1_4, F_1_5, sh_3, F_3_0, F_3_1, F_3_2, F_3_3, F_3_4, F_3_5, sh_5, F_5_0, F_5_1, F_5_2, F_5_3, F_5_4, F_5_5, F_5_6, F_5_7, F_5_8, sh_12, F_12_0, F_12_1, F_12_2, F_12_3, F_12_4, F_12_5, sh_14, F_14_0, F_14_1, F_14_2, F_14_3, F_14_4, F_14_5, F_14_6, F_14_7, F_14_8, sh_21, F_21_0, F_21_1, F_21_2, F_21_3, F_21_4, F_21_5, F_21_6, F_21_7, F_21_8, sh_28, F_28_0, F_28_1, F_28_2, F_28_3, F_28_4, F_28_5, F_28_6, F_28_7, F_28_8, sh_35, F_35_0, sh_39, F_39_0, F_39_1, F_39_2, F_39_3, F_39_4, F_39_5, F_39_6, F_39_7, F_39_8, F_39_9, F_39_10, F_39_11, F_39_12, F_39_13, A_2, A_4, A_6, A_7, A_8, A_9, A_10, A_11, A_13, A_15, A_16, A_17, A_18, A_19, A_20, A_22, A_23, A_24, A_25, A_26, A_27, A_29, A_30, A_31, A_32, A_33, A_34, A_36, A_37, A_38, A_40, A_41, A_42, A_43, A_44, A_45, A_46, A_47]
    trace_state
    sorry
  · sorry
theorem c_X1_has : Ctr yX1_has cX1_has 2 (some .boolean) ({ frames := 0, cells := 0, slots := 0, locals := 0 } : Room) S_X1_has := ctr_of (T := T_X1_has) (by decide +kernel) (fun post C hr => t_X1_has post C hr) v_X1_has
