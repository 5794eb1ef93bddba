/-! The model's text: bytes typed, a number. -/
def tyg (v : Int64) (k : Int32) : Int32 := ((v >>> ((8 * k).toInt64 &&& 63)) &&& 255).toInt32
def tyN (v : Int64) (n L : Nat) (F : Nat → Int32) : Nat → Nat → Int32
  | 0 => F
  | i + 1 => upd (tyN v n L F i) (L + i) (tyg v (nI (n - 1 - i)))
def S_X5_type : SP := fun as M post => ∃ v x L, as = [VR 39, VL v, VI x] ∧ M.1 25 = nI L ∧ L ≤ 300 ∧ (¬ (1 ≤ x ∧ x ≤ 8) → post (some (VI (-1))) M) ∧ (∀ n, x = nI n → 1 ≤ n → n ≤ 8 → 300 < L + n → post (some (VI (-3))) M) ∧ (∀ n, x = nI n → 1 ≤ n → n ≤ 8 → L + n ≤ 300 → post (some (VI (nI (L + n)))) (sI 25 (nI (L + n)) (sA 30 (tyN v n L (M.2.2 30) n) M)))
/-- a number below most -/
def S_X5_number : SP := fun as M post => ∃ L t p b, as = [VR 39, VI b] ∧ TT M L t ∧ M.1 26 = nI p ∧ p ≤ 301 ∧ (∀ j, srA t L (tkS t L p) = 2 → tkE t L p = tkS t L p + 1 → t (tkS t L p) = 48 + j → nI j < b → post (some (VI (nI j))) (tkN t L p M)) ∧ ((¬ ∃ j, srA t L (tkS t L p) = 2 ∧ tkE t L p = tkS t L p + 1 ∧ t (tkS t L p) = 48 + j ∧ nI j < b) → post (some (VI (-9))) (tkN t L p M))
theorem ctL_RX5_43 : Cond.constantLong RX5 43 (255) ∈ tb := tb_of 683 (by decide +kernel) (by decide +kernel)
theorem dX5_type_0 : decode cX5_type 0 = .ok (.iload_n 3, 1) := by decide +kernel
theorem dX5_type_1 : decode cX5_type 1 = .ok (.iconst 1, 1) := by decide +kernel
theorem dX5_type_2 : decode cX5_type 2 = .ok (.bipush 8, 2) := by decide +kernel
theorem dX5_type_4 : decode cX5_type 4 = .ok (.invokestatic 35, 3) := by decide +kernel
theorem dX5_type_7 : decode cX5_type 7 = .ok (.ifCond .ne 5, 3) := by decide +kernel
theorem dX5_type_10 : decode cX5_type 10 = .ok (.iconst (-1), 1) := by decide +kernel
theorem dX5_type_11 : decode cX5_type 11 = .ok (.ireturn, 1) := by decide +kernel
theorem dX5_type_12 : decode cX5_type 12 = .ok (.aload_n 0, 1) := by decide +kernel
theorem dX5_type_13 : decode cX5_type 13 = .ok (.getfield 39, 3) := by decide +kernel
theorem dX5_type_16 : decode cX5_type 16 = .ok (.iload_n 3, 1) := by decide +kernel
theorem dX5_type_17 : decode cX5_type 17 = .ok (.iadd, 1) := by decide +kernel
theorem dX5_type_18 : decode cX5_type 18 = .ok (.sipush 300, 3) := by decide +kernel
theorem dX5_type_21 : decode cX5_type 21 = .ok (.if_icmp .le 6, 3) := by decide +kernel
theorem dX5_type_24 : decode cX5_type 24 = .ok (.bipush (-3), 2) := by decide +kernel
theorem dX5_type_26 : decode cX5_type 26 = .ok (.ireturn, 1) := by decide +kernel
theorem dX5_type_27 : decode cX5_type 27 = .ok (.iload_n 3, 1) := by decide +kernel
theorem dX5_type_28 : decode cX5_type 28 = .ok (.iconst 1, 1) := by decide +kernel
theorem dX5_type_29 : decode cX5_type 29 = .ok (.isub, 1) := by decide +kernel
theorem dX5_type_30 : decode cX5_type 30 = .ok (.istore 4, 2) := by decide +kernel
theorem dX5_type_32 : decode cX5_type 32 = .ok (.iload 4, 2) := by decide +kernel
theorem dX5_type_34 : decode cX5_type 34 = .ok (.ifCond .lt 40, 3) := by decide +kernel
theorem dX5_type_37 : decode cX5_type 37 = .ok (.aload_n 0, 1) := by decide +kernel
theorem dX5_type_38 : decode cX5_type 38 = .ok (.getfield 7, 3) := by decide +kernel
theorem dX5_type_41 : decode cX5_type 41 = .ok (.aload_n 0, 1) := by decide +kernel
theorem dX5_type_42 : decode cX5_type 42 = .ok (.getfield 39, 3) := by decide +kernel
theorem dX5_type_45 : decode cX5_type 45 = .ok (.lload_n 1, 1) := by decide +kernel
theorem dX5_type_46 : decode cX5_type 46 = .ok (.bipush 8, 2) := by decide +kernel
theorem dX5_type_48 : decode cX5_type 48 = .ok (.iload 4, 2) := by decide +kernel
theorem dX5_type_50 : decode cX5_type 50 = .ok (.imul, 1) := by decide +kernel
theorem dX5_type_51 : decode cX5_type 51 = .ok (.lshr, 1) := by decide +kernel
theorem dX5_type_52 : decode cX5_type 52 = .ok (.ldc2_w 43, 3) := by decide +kernel
theorem dX5_type_55 : decode cX5_type 55 = .ok (.land, 1) := by decide +kernel
theorem dX5_type_56 : decode cX5_type 56 = .ok (.l2i, 1) := by decide +kernel
theorem dX5_type_57 : decode cX5_type 57 = .ok (.iastore, 1) := by decide +kernel
theorem dX5_type_58 : decode cX5_type 58 = .ok (.aload_n 0, 1) := by decide +kernel
theorem dX5_type_59 : decode cX5_type 59 = .ok (.dup, 1) := by decide +kernel
theorem dX5_type_60 : decode cX5_type 60 = .ok (.getfield 39, 3) := by decide +kernel
theorem dX5_type_63 : decode cX5_type 63 = .ok (.iconst 1, 1) := by decide +kernel
theorem dX5_type_64 : decode cX5_type 64 = .ok (.iadd, 1) := by decide +kernel
theorem dX5_type_65 : decode cX5_type 65 = .ok (.putfield 39, 3) := by decide +kernel
theorem dX5_type_68 : decode cX5_type 68 = .ok (.iinc 4 (-1), 3) := by decide +kernel
theorem dX5_type_71 : decode cX5_type 71 = .ok (.goto (-39), 3) := by decide +kernel
theorem dX5_type_74 : decode cX5_type 74 = .ok (.aload_n 0, 1) := by decide +kernel
theorem dX5_type_75 : decode cX5_type 75 = .ok (.getfield 39, 3) := by decide +kernel
theorem dX5_type_78 : decode cX5_type 78 = .ok (.ireturn, 1) := by decide +kernel
def T_X5_type (post : PO) : List (Nat × OP) := [(0, o_iload 3 1), (1, o_const 1 2), (2, o_const 8 4), (4, o_callS S_X5_in 3 7), (7, o_if (fun x => x = 0) 10 12), (10, o_const (-1) 11), (11, o_iret post), (12, o_aload 0 13), (13, o_getf 5 2 16), (16, o_iload 3 17), (17, o_bin (fun x y => x + y) 18), (18, o_const 300 21), (21, o_icmp (fun x y => x ≤ y) 27 24), (24, o_const (-3) 26), (26, o_iret post), (27, o_iload 3 28), (28, o_const 1 29), (29, o_bin (fun x y => x - y) 30), (30, o_istore 4 32), (32, o_iload 4 34), (34, o_if (fun x => x < 0) 74 37), (37, o_aload 0 38), (38, o_getf 5 1 41), (41, o_aload 0 42), (42, o_getf 5 2 45), (45, o_lload 1 46), (46, o_const 8 48), (48, o_iload 4 50), (50, o_bin (fun x y => x * y) 51), (51, o_lsh (fun x y => x >>> (y.toInt64 &&& 63)) 52), (52, o_lconst 255 55), (55, o_lbin (fun x y => x &&& y) 56), (56, o_l2i 57), (57, o_ast 0 (fun x => x) 58), (58, o_aload 0 59), (59, o_dup 60), (60, o_getf 5 2 63), (63, o_const 1 64), (64, o_bin (fun x y => x + y) 65), (65, o_putI 5 2 68), (68, o_iinc 4 (-1) 71), (71, o_goto 32), (74, o_aload 0 75), (75, o_getf 5 2 78), (78, o_iret post)]
theorem k_X5_type_0 (post : PO) : lk (T_X5_type post) 0 = o_iload 3 1 := rfl
theorem k_X5_type_1 (post : PO) : lk (T_X5_type post) 1 = o_const 1 2 := rfl
theorem k_X5_type_2 (post : PO) : lk (T_X5_type post) 2 = o_const 8 4 := rfl
theorem k_X5_type_4 (post : PO) : lk (T_X5_type post) 4 = o_callS S_X5_in 3 7 := rfl
theorem k_X5_type_7 (post : PO) : lk (T_X5_type post) 7 = o_if (fun x => x = 0) 10 12 := rfl
theorem k_X5_type_10 (post : PO) : lk (T_X5_type post) 10 = o_const (-1) 11 := rfl
theorem k_X5_type_11 (post : PO) : lk (T_X5_type post) 11 = o_iret post := rfl
theorem k_X5_type_12 (post : PO) : lk (T_X5_type post) 12 = o_aload 0 13 := rfl
theorem k_X5_type_13 (post : PO) : lk (T_X5_type post) 13 = o_getf 5 2 16 := rfl
theorem k_X5_type_16 (post : PO) : lk (T_X5_type post) 16 = o_iload 3 17 := rfl
theorem k_X5_type_17 (post : PO) : lk (T_X5_type post) 17 = o_bin (fun x y => x + y) 18 := rfl
theorem k_X5_type_18 (post : PO) : lk (T_X5_type post) 18 = o_const 300 21 := rfl
theorem k_X5_type_21 (post : PO) : lk (T_X5_type post) 21 = o_icmp (fun x y => x ≤ y) 27 24 := rfl
theorem k_X5_type_24 (post : PO) : lk (T_X5_type post) 24 = o_const (-3) 26 := rfl
theorem k_X5_type_26 (post : PO) : lk (T_X5_type post) 26 = o_iret post := rfl
theorem k_X5_type_27 (post : PO) : lk (T_X5_type post) 27 = o_iload 3 28 := rfl
theorem k_X5_type_28 (post : PO) : lk (T_X5_type post) 28 = o_const 1 29 := rfl
theorem k_X5_type_29 (post : PO) : lk (T_X5_type post) 29 = o_bin (fun x y => x - y) 30 := rfl
theorem k_X5_type_30 (post : PO) : lk (T_X5_type post) 30 = o_istore 4 32 := rfl
theorem k_X5_type_32 (post : PO) : lk (T_X5_type post) 32 = o_iload 4 34 := rfl
theorem k_X5_type_34 (post : PO) : lk (T_X5_type post) 34 = o_if (fun x => x < 0) 74 37 := rfl
theorem k_X5_type_37 (post : PO) : lk (T_X5_type post) 37 = o_aload 0 38 := rfl
theorem k_X5_type_38 (post : PO) : lk (T_X5_type post) 38 = o_getf 5 1 41 := rfl
theorem k_X5_type_41 (post : PO) : lk (T_X5_type post) 41 = o_aload 0 42 := rfl
theorem k_X5_type_42 (post : PO) : lk (T_X5_type post) 42 = o_getf 5 2 45 := rfl
theorem k_X5_type_45 (post : PO) : lk (T_X5_type post) 45 = o_lload 1 46 := rfl
theorem k_X5_type_46 (post : PO) : lk (T_X5_type post) 46 = o_const 8 48 := rfl
theorem k_X5_type_48 (post : PO) : lk (T_X5_type post) 48 = o_iload 4 50 := rfl
theorem k_X5_type_50 (post : PO) : lk (T_X5_type post) 50 = o_bin (fun x y => x * y) 51 := rfl
theorem k_X5_type_51 (post : PO) : lk (T_X5_type post) 51 = o_lsh (fun x y => x >>> (y.toInt64 &&& 63)) 52 := rfl
theorem k_X5_type_52 (post : PO) : lk (T_X5_type post) 52 = o_lconst 255 55 := rfl
theorem k_X5_type_55 (post : PO) : lk (T_X5_type post) 55 = o_lbin (fun x y => x &&& y) 56 := rfl
theorem k_X5_type_56 (post : PO) : lk (T_X5_type post) 56 = o_l2i 57 := rfl
theorem k_X5_type_57 (post : PO) : lk (T_X5_type post) 57 = o_ast 0 (fun x => x) 58 := rfl
theorem k_X5_type_58 (post : PO) : lk (T_X5_type post) 58 = o_aload 0 59 := rfl
theorem k_X5_type_59 (post : PO) : lk (T_X5_type post) 59 = o_dup 60 := rfl
theorem k_X5_type_60 (post : PO) : lk (T_X5_type post) 60 = o_getf 5 2 63 := rfl
theorem k_X5_type_63 (post : PO) : lk (T_X5_type post) 63 = o_const 1 64 := rfl
theorem k_X5_type_64 (post : PO) : lk (T_X5_type post) 64 = o_bin (fun x y => x + y) 65 := rfl
theorem k_X5_type_65 (post : PO) : lk (T_X5_type post) 65 = o_putI 5 2 68 := rfl
theorem k_X5_type_68 (post : PO) : lk (T_X5_type post) 68 = o_iinc 4 (-1) 71 := rfl
theorem k_X5_type_71 (post : PO) : lk (T_X5_type post) 71 = o_goto 32 := rfl
theorem k_X5_type_74 (post : PO) : lk (T_X5_type post) 74 = o_aload 0 75 := rfl
theorem k_X5_type_75 (post : PO) : lk (T_X5_type post) 75 = o_getf 5 2 78 := rfl
theorem k_X5_type_78 (post : PO) : lk (T_X5_type post) 78 = o_iret post := rfl
set_option maxRecDepth 100000 in
theorem t_X5_type {p : Program} {l : Launch} {e : Env} {s : State} {m : MethodId} {args : Array Value} {below : List Frame} {meth : Method} {c : Code} {D : va_G} {dA : Nat → ClassId} {ad : Nat → Nat} (post : PO) (C : CX p s m args meth c cX5_type 5 yX5_type.cls D dA ad (AA ad s.heap.size)) (hr : meth.sig.returnType = (some .int)) : SndL (WW p l e ({ frames := 1, cells := 0, slots := 0, locals := 22 } : Room) s m args below meth c 0 0 (MQ below (CQ D dA ad post (AA ad s.heap.size)) args s 0 0 (AA ad s.heap.size)) 5 D dA ad (AA ad s.heap.size)) (T_X5_type post) := by
  refine snd_c (s_iload_n C rfl dX5_type_0) ?_
  refine snd_c (s_iconst C dX5_type_1 rfl) ?_
  refine snd_c (s_bipush C dX5_type_2 rfl) ?_
  refine snd_c (s_callS C c_X5_in cw_RX5_35 ⟨rfl, rfl⟩ ⟨by decide +kernel, by decide +kernel, by decide +kernel⟩ ⟨by decide, by decide⟩ ⟨Nat.zero_le _, Nat.zero_le _⟩ dX5_type_4) ?_
  refine snd_c (s_if_ne C dX5_type_7 (by decide)) ?_
  refine snd_c (s_iconst C dX5_type_10 rfl) ?_
  refine snd_c (s_iret C hr dX5_type_11) ?_
  refine snd_c (s_aload_n C rfl dX5_type_12) ?_
  refine snd_c (s_getf C (ci := 5) (j := 2) (T := TX5) rfl inX5 (by decide) fl_RX5_39 dX5_type_13) ?_
  refine snd_c (s_iload_n C rfl dX5_type_16) ?_
  refine snd_c (s_iadd C dX5_type_17) ?_
  refine snd_c (s_sipush C dX5_type_18 rfl) ?_
  refine snd_c (s_icmp_le C dX5_type_21 (by decide)) ?_
  refine snd_c (s_bipush C dX5_type_24 rfl) ?_
  refine snd_c (s_iret C hr dX5_type_26) ?_
  refine snd_c (s_iload_n C rfl dX5_type_27) ?_
  refine snd_c (s_iconst C dX5_type_28 rfl) ?_
  refine snd_c (s_isub C dX5_type_29) ?_
  refine snd_c (s_istore C (by decide) dX5_type_30) ?_
  refine snd_c (s_iload C dX5_type_32) ?_
  refine snd_c (s_if_lt C dX5_type_34 (by decide)) ?_
  refine snd_c (s_aload_n C rfl dX5_type_37) ?_
  refine snd_c (s_getf C (ci := 5) (j := 1) (T := TX5) rfl inX5 (by decide) fl_RX5_7 dX5_type_38) ?_
  refine snd_c (s_aload_n C rfl dX5_type_41) ?_
  refine snd_c (s_getf C (ci := 5) (j := 2) (T := TX5) rfl inX5 (by decide) fl_RX5_39 dX5_type_42) ?_
  refine snd_c (s_lload_n C rfl dX5_type_45) ?_
  refine snd_c (s_bipush C dX5_type_46 rfl) ?_
  refine snd_c (s_iload C dX5_type_48) ?_
  refine snd_c (s_imul C dX5_type_50) ?_
  refine snd_c (s_lshr C dX5_type_51) ?_
  refine snd_c (s_ldc2 C ctL_RX5_43 dX5_type_52) ?_
  refine snd_c (s_land C dX5_type_55) ?_
  refine snd_c (s_l2i C dX5_type_56) ?_
  refine snd_c (s_iast C dX5_type_57) ?_
  refine snd_c (s_aload_n C rfl dX5_type_58) ?_
  refine snd_c (s_dup C dX5_type_59) ?_
  refine snd_c (s_getf C (ci := 5) (j := 2) (T := TX5) rfl inX5 (by decide) fl_RX5_39 dX5_type_60) ?_
  refine snd_c (s_iconst C dX5_type_63 rfl) ?_
  refine snd_c (s_iadd C dX5_type_64) ?_
  refine snd_c (s_putI C (ci := 5) (j := 2) (T := TX5) tyX5 tyX5_ok nmX5 rfl inX5 (by decide) rfl rfl fl_RX5_39 dX5_type_65) ?_
  refine snd_c (s_iinc C (by decide) rfl dX5_type_68) ?_
  refine snd_c (s_goto C dX5_type_71 (by decide)) ?_
  refine snd_c (s_aload_n C rfl dX5_type_74) ?_
  refine snd_c (s_getf C (ci := 5) (j := 2) (T := TX5) rfl inX5 (by decide) fl_RX5_39 dX5_type_75) ?_
  refine snd_c (s_iret C hr dX5_type_78) ?_
  exact trivial
theorem cw_RX5_74 : ∀ w ∈ ([.methodLink RX5 74 yX5_token, .instanceMethod yX5_token, .selects yX5_token.cls yX5_token yX5_token, .initialized yX5_token.cls, .code yX5_token cX5_token 1 none] : List Cond), w ∈ tb := tb_all [696, 698, 31, 59, 699] (by decide +kernel) (by decide +kernel)
theorem dX5_number_0 : decode cX5_number 0 = .ok (.aload_n 0, 1) := by decide +kernel
theorem dX5_number_1 : decode cX5_number 1 = .ok (.invokevirtual 74, 3) := by decide +kernel
theorem dX5_number_4 : decode cX5_number 4 = .ok (.aload_n 0, 1) := by decide +kernel
theorem dX5_number_5 : decode cX5_number 5 = .ok (.aload_n 0, 1) := by decide +kernel
theorem dX5_number_6 : decode cX5_number 6 = .ok (.getfield 52, 3) := by decide +kernel
theorem dX5_number_9 : decode cX5_number 9 = .ok (.invokevirtual 48, 3) := by decide +kernel
theorem dX5_number_12 : decode cX5_number 12 = .ok (.bipush 48, 2) := by decide +kernel
theorem dX5_number_14 : decode cX5_number 14 = .ok (.isub, 1) := by decide +kernel
theorem dX5_number_15 : decode cX5_number 15 = .ok (.istore_n 2, 1) := by decide +kernel
theorem dX5_number_16 : decode cX5_number 16 = .ok (.aload_n 0, 1) := by decide +kernel
theorem dX5_number_17 : decode cX5_number 17 = .ok (.getfield 58, 3) := by decide +kernel
theorem dX5_number_20 : decode cX5_number 20 = .ok (.iconst 2, 1) := by decide +kernel
theorem dX5_number_21 : decode cX5_number 21 = .ok (.if_icmp .ne 20, 3) := by decide +kernel
theorem dX5_number_24 : decode cX5_number 24 = .ok (.aload_n 0, 1) := by decide +kernel
theorem dX5_number_25 : decode cX5_number 25 = .ok (.getfield 61, 3) := by decide +kernel
theorem dX5_number_28 : decode cX5_number 28 = .ok (.iconst 1, 1) := by decide +kernel
theorem dX5_number_29 : decode cX5_number 29 = .ok (.if_icmp .ne 12, 3) := by decide +kernel
theorem dX5_number_32 : decode cX5_number 32 = .ok (.iload_n 2, 1) := by decide +kernel
theorem dX5_number_33 : decode cX5_number 33 = .ok (.iload_n 1, 1) := by decide +kernel
theorem dX5_number_34 : decode cX5_number 34 = .ok (.if_icmp .ge 7, 3) := by decide +kernel
theorem dX5_number_37 : decode cX5_number 37 = .ok (.iload_n 2, 1) := by decide +kernel
theorem dX5_number_38 : decode cX5_number 38 = .ok (.goto 5, 3) := by decide +kernel
theorem dX5_number_41 : decode cX5_number 41 = .ok (.bipush (-9), 2) := by decide +kernel
theorem dX5_number_43 : decode cX5_number 43 = .ok (.ireturn, 1) := by decide +kernel
def T_X5_number (post : PO) : List (Nat × OP) := [(0, o_aload 0 1), (1, o_callV 5 S_X5_token 0 4), (4, o_aload 0 5), (5, o_aload 0 6), (6, o_getf 5 10 9), (9, o_callV 5 S_X5_byteAt 1 12), (12, o_const 48 14), (14, o_bin (fun x y => x - y) 15), (15, o_istore 2 16), (16, o_aload 0 17), (17, o_getf 5 9 20), (20, o_const 2 21), (21, o_icmp (fun x y => x = y) 24 41), (24, o_aload 0 25), (25, o_getf 5 11 28), (28, o_const 1 29), (29, o_icmp (fun x y => x = y) 32 41), (32, o_iload 2 33), (33, o_iload 1 34), (34, o_icmp (fun x y => y ≤ x) 41 37), (37, o_iload 2 38), (38, o_goto 43), (41, o_const (-9) 43), (43, o_iret post)]
theorem k_X5_number_0 (post : PO) : lk (T_X5_number post) 0 = o_aload 0 1 := rfl
theorem k_X5_number_1 (post : PO) : lk (T_X5_number post) 1 = o_callV 5 S_X5_token 0 4 := rfl
theorem k_X5_number_4 (post : PO) : lk (T_X5_number post) 4 = o_aload 0 5 := rfl
theorem k_X5_number_5 (post : PO) : lk (T_X5_number post) 5 = o_aload 0 6 := rfl
theorem k_X5_number_6 (post : PO) : lk (T_X5_number post) 6 = o_getf 5 10 9 := rfl
theorem k_X5_number_9 (post : PO) : lk (T_X5_number post) 9 = o_callV 5 S_X5_byteAt 1 12 := rfl
theorem k_X5_number_12 (post : PO) : lk (T_X5_number post) 12 = o_const 48 14 := rfl
theorem k_X5_number_14 (post : PO) : lk (T_X5_number post) 14 = o_bin (fun x y => x - y) 15 := rfl
theorem k_X5_number_15 (post : PO) : lk (T_X5_number post) 15 = o_istore 2 16 := rfl
theorem k_X5_number_16 (post : PO) : lk (T_X5_number post) 16 = o_aload 0 17 := rfl
theorem k_X5_number_17 (post : PO) : lk (T_X5_number post) 17 = o_getf 5 9 20 := rfl
theorem k_X5_number_20 (post : PO) : lk (T_X5_number post) 20 = o_const 2 21 := rfl
theorem k_X5_number_21 (post : PO) : lk (T_X5_number post) 21 = o_icmp (fun x y => x = y) 24 41 := rfl
theorem k_X5_number_24 (post : PO) : lk (T_X5_number post) 24 = o_aload 0 25 := rfl
theorem k_X5_number_25 (post : PO) : lk (T_X5_number post) 25 = o_getf 5 11 28 := rfl
theorem k_X5_number_28 (post : PO) : lk (T_X5_number post) 28 = o_const 1 29 := rfl
theorem k_X5_number_29 (post : PO) : lk (T_X5_number post) 29 = o_icmp (fun x y => x = y) 32 41 := rfl
theorem k_X5_number_32 (post : PO) : lk (T_X5_number post) 32 = o_iload 2 33 := rfl
theorem k_X5_number_33 (post : PO) : lk (T_X5_number post) 33 = o_iload 1 34 := rfl
theorem k_X5_number_34 (post : PO) : lk (T_X5_number post) 34 = o_icmp (fun x y => y ≤ x) 41 37 := rfl
theorem k_X5_number_37 (post : PO) : lk (T_X5_number post) 37 = o_iload 2 38 := rfl
theorem k_X5_number_38 (post : PO) : lk (T_X5_number post) 38 = o_goto 43 := rfl
theorem k_X5_number_41 (post : PO) : lk (T_X5_number post) 41 = o_const (-9) 43 := rfl
theorem k_X5_number_43 (post : PO) : lk (T_X5_number post) 43 = o_iret post := rfl
set_option maxRecDepth 100000 in
theorem t_X5_number {p : Program} {l : Launch} {e : Env} {s : State} {m : MethodId} {args : Array Value} {below : List Frame} {meth : Method} {c : Code} {D : va_G} {dA : Nat → ClassId} {ad : Nat → Nat} (post : PO) (C : CX p s m args meth c cX5_number 3 yX5_number.cls D dA ad (AA ad s.heap.size)) (hr : meth.sig.returnType = (some .int)) : SndL (WW p l e ({ frames := 3, cells := 0, slots := 0, locals := 62 } : Room) s m args below meth c 0 0 (MQ below (CQ D dA ad post (AA ad s.heap.size)) args s 0 0 (AA ad s.heap.size)) 3 D dA ad (AA ad s.heap.size)) (T_X5_number post) := by
  refine snd_c (s_aload_n C rfl dX5_number_0) ?_
  refine snd_c (s_callV C (ci := 5) c_X5_token rfl cw_RX5_74 ⟨rfl, rfl⟩ ⟨by decide +kernel, by decide +kernel, by decide +kernel⟩ ⟨by decide, by decide⟩ ⟨Nat.zero_le _, Nat.zero_le _⟩ dX5_number_1) ?_
  refine snd_c (s_aload_n C rfl dX5_number_4) ?_
  refine snd_c (s_aload_n C rfl dX5_number_5) ?_
  refine snd_c (s_getf C (ci := 5) (j := 10) (T := TX5) rfl inX5 (by decide) fl_RX5_52 dX5_number_6) ?_
  refine snd_c (s_callV C (ci := 5) c_X5_byteAt rfl cw_RX5_48 ⟨rfl, rfl⟩ ⟨by decide +kernel, by decide +kernel, by decide +kernel⟩ ⟨by decide, by decide⟩ ⟨Nat.zero_le _, Nat.zero_le _⟩ dX5_number_9) ?_
  refine snd_c (s_bipush C dX5_number_12 rfl) ?_
  refine snd_c (s_isub C dX5_number_14) ?_
  refine snd_c (s_istore_n C rfl (by decide) dX5_number_15) ?_
  refine snd_c (s_aload_n C rfl dX5_number_16) ?_
  refine snd_c (s_getf C (ci := 5) (j := 9) (T := TX5) rfl inX5 (by decide) fl_RX5_58 dX5_number_17) ?_
  refine snd_c (s_iconst C dX5_number_20 rfl) ?_
  refine snd_c (s_icmp_ne C dX5_number_21 (by decide)) ?_
  refine snd_c (s_aload_n C rfl dX5_number_24) ?_
  refine snd_c (s_getf C (ci := 5) (j := 11) (T := TX5) rfl inX5 (by decide) fl_RX5_61 dX5_number_25) ?_
  refine snd_c (s_iconst C dX5_number_28 rfl) ?_
  refine snd_c (s_icmp_ne C dX5_number_29 (by decide)) ?_
  refine snd_c (s_iload_n C rfl dX5_number_32) ?_
  refine snd_c (s_iload_n C rfl dX5_number_33) ?_
  refine snd_c (s_icmp_ge C dX5_number_34 (by decide)) ?_
  refine snd_c (s_iload_n C rfl dX5_number_37) ?_
  refine snd_c (s_goto C dX5_number_38 (by decide)) ?_
  refine snd_c (s_bipush C dX5_number_41 rfl) ?_
  refine snd_c (s_iret C hr dX5_number_43) ?_
  exact trivial
set_option maxRecDepth 100000 in
theorem v_X5_type : ∀ as M post, S_X5_type as M post → wsum as ≤ 5 ∧ RUN (T_X5_type post) 0 (entL 5 as) [] M := by
  rintro as M post ⟨v, x, L, rfl, hL, hL3, h1, h2, h3⟩
  refine ⟨by show 4 ≤ 5; omega, run_of [32] (fun μ pc lv st M' => st = [] ∧ pc = 32 ∧ ∃ n i, x = nI n ∧ 1 ≤ n ∧ n ≤ 8 ∧ L + n ≤ 300 ∧ i ≤ n ∧ M' = sI 25 (nI (L + i)) (sA 30 (tyN v n L (M.2.2 30) i) M) ∧ 100 - i = μ ∧ lv = [some (VR 39), some (VL v), none, some (VI x), some (VI (nI (n - i) - 1))]) 80 200 ?_ ?_⟩
  · rintro μ pc lv st M' ⟨rfl, rfl, n, i, rfl, hn1, hn8, hLn, hi, rfl, rfl, rfl⟩
    rcases Nat.eq_or_lt_of_le hi with e | e
    · subst e
      dsimp only [k_X5_type_0, k_X5_type_1, k_X5_type_2, k_X5_type_4, k_X5_type_7, k_X5_type_10, k_X5_type_11, k_X5_type_12, k_X5_type_13, k_X5_type_16, k_X5_type_17, k_X5_type_18, k_X5_type_21, k_X5_type_24, k_X5_type_26, k_X5_type_27, k_X5_type_28, k_X5_type_29, k_X5_type_30, k_X5_type_32, k_X5_type_34, k_X5_type_37, k_X5_type_38, k_X5_type_41, k_X5_type_42, k_X5_type_45, k_X5_type_46, k_X5_type_48, k_X5_type_50, k_X5_type_51, k_X5_type_52, k_X5_type_55, k_X5_type_56, k_X5_type_57, k_X5_type_58, k_X5_type_59, k_X5_type_60, k_X5_type_63, k_X5_type_64, k_X5_type_65, k_X5_type_68, k_X5_type_71, k_X5_type_74, k_X5_type_75, k_X5_type_78, wp1, wp_s, cutIn, kont, Nat.reduceSub, Nat.reduceAdd, nth, o_const, o_lconst, o_ref, o_iload, o_lload, o_aload, o_istore, o_lstore, o_astore, o_iinc, o_bin, o_div, o_un, o_lbin, o_lsh, o_lcmp, o_i2l, o_l2i, o_if, o_icmp, o_goto, o_dup, o_dup2, o_pop, fav, o_getf, o_putI, o_putZ, o_putL, o_ald, o_ast, o_alen, popn, rst, o_callV, o_callT, o_callS, swx, o_sw, o_ret, o_iret, o_zret, o_cret, o_lret, o_aret, lg, lput, lput2, ls1, isL, entL, wsum, rdI1, rdI2, rdA1, rdA21, rdA22, rdL1, rdL22, rdL21, upN_at, rep, sh_0, F_0_0, F_0_1, F_0_2, F_0_3, F_0_4, F_0_5, F_0_6, F_0_7, F_0_8, sh_1, F_1_0, F_1_1, F_1_2, F_1_3, F_1_4, F_1_5, sh_3, F_3_0, F_3_1, F_3_2, F_3_3, F_3_4, F_3_5, sh_5, F_5_0, F_5_1, F_5_2, F_5_3, F_5_4, F_5_5, F_5_6, F_5_7, F_5_8, sh_12, F_12_0, F_12_1, F_12_2, F_12_3, F_12_4, F_12_5, sh_14, F_14_0, F_14_1, F_14_2, F_14_3, F_14_4, F_14_5, F_14_6, F_14_7, F_14_8, sh_21, F_21_0, F_21_1, F_21_2, F_21_3, F_21_4, F_21_5, F_21_6, F_21_7, F_21_8, sh_28, F_28_0, F_28_1, F_28_2, F_28_3, F_28_4, F_28_5, F_28_6, F_28_7, F_28_8, sh_35, F_35_0, sh_39, F_39_0, F_39_1, F_39_2, F_39_3, F_39_4, F_39_5, F_39_6, F_39_7, F_39_8, F_39_9, F_39_10, F_39_11, F_39_12, F_39_13, A_2, A_4, A_6, A_7, A_8, A_9, A_10, A_11, A_13, A_15, A_16, A_17, A_18, A_19, A_20, A_22, A_23, A_24, A_25, A_26, A_27, A_29, A_30, A_31, A_32, A_33, A_34, A_36, A_37, A_38, A_40, A_41, A_42, A_43, A_44, A_45, A_46, A_47]
      rw [Nat.sub_self]
      exact ⟨fun _ => h3 i rfl hn1 hn8 hLn, fun q => absurd cnt0 q⟩
    · rw [show nI (n - i) - 1 = nI (n - i - 1) from pk_sub (a := n - i) (b := 1) (by omega)]
      dsimp only [k_X5_type_0, k_X5_type_1, k_X5_type_2, k_X5_type_4, k_X5_type_7, k_X5_type_10, k_X5_type_11, k_X5_type_12, k_X5_type_13, k_X5_type_16, k_X5_type_17, k_X5_type_18, k_X5_type_21, k_X5_type_24, k_X5_type_26, k_X5_type_27, k_X5_type_28, k_X5_type_29, k_X5_type_30, k_X5_type_32, k_X5_type_34, k_X5_type_37, k_X5_type_38, k_X5_type_41, k_X5_type_42, k_X5_type_45, k_X5_type_46, k_X5_type_48, k_X5_type_50, k_X5_type_51, k_X5_type_52, k_X5_type_55, k_X5_type_56, k_X5_type_57, k_X5_type_58, k_X5_type_59, k_X5_type_60, k_X5_type_63, k_X5_type_64, k_X5_type_65, k_X5_type_68, k_X5_type_71, k_X5_type_74, k_X5_type_75, k_X5_type_78, wp1, wp_s, cutIn, kont, Nat.reduceSub, Nat.reduceAdd, nth, o_const, o_lconst, o_ref, o_iload, o_lload, o_aload, o_istore, o_lstore, o_astore, o_iinc, o_bin, o_div, o_un, o_lbin, o_lsh, o_lcmp, o_i2l, o_l2i, o_if, o_icmp, o_goto, o_dup, o_dup2, o_pop, fav, o_getf, o_putI, o_putZ, o_putL, o_ald, o_ast, o_alen, popn, rst, o_callV, o_callT, o_callS, swx, o_sw, o_ret, o_iret, o_zret, o_cret, o_lret, o_aret, lg, lput, lput2, ls1, isL, entL, wsum, rdI1, rdI2, rdA1, rdA21, rdA22, rdL1, rdL22, rdL21, upN_at, rep, sh_0, F_0_0, F_0_1, F_0_2, F_0_3, F_0_4, F_0_5, F_0_6, F_0_7, F_0_8, sh_1, F_1_0, F_1_1, F_1_2, F_1_3, F_1_4, F_1_5, sh_3, F_3_0, F_3_1, F_3_2, F_3_3, F_3_4, F_3_5, sh_5, F_5_0, F_5_1, F_5_2, F_5_3, F_5_4, F_5_5, F_5_6, F_5_7, F_5_8, sh_12, F_12_0, F_12_1, F_12_2, F_12_3, F_12_4, F_12_5, sh_14, F_14_0, F_14_1, F_14_2, F_14_3, F_14_4, F_14_5, F_14_6, F_14_7, F_14_8, sh_21, F_21_0, F_21_1, F_21_2, F_21_3, F_21_4, F_21_5, F_21_6, F_21_7, F_21_8, sh_28, F_28_0, F_28_1, F_28_2, F_28_3, F_28_4, F_28_5, F_28_6, F_28_7, F_28_8, sh_35, F_35_0, sh_39, F_39_0, F_39_1, F_39_2, F_39_3, F_39_4, F_39_5, F_39_6, F_39_7, F_39_8, F_39_9, F_39_10, F_39_11, F_39_12, F_39_13, A_2, A_4, A_6, A_7, A_8, A_9, A_10, A_11, A_13, A_15, A_16, A_17, A_18, A_19, A_20, A_22, A_23, A_24, A_25, A_26, A_27, A_29, A_30, A_31, A_32, A_33, A_34, A_36, A_37, A_38, A_40, A_41, A_42, A_43, A_44, A_45, A_46, A_47]
      refine ⟨fun q => absurd q (nI_pos (by omega)), fun _ => ⟨L + i, by omega, rfl, cut _ _ ⟨rfl, rfl, n, i + 1, rfl, hn1, hn8, hLn, by omega, ?_, rfl, rfl⟩ (by omega) ⟨rfl, rfl, rfl, vi_eq ?_, trivial⟩⟩⟩
      · rw [show tyN v n L (M.2.2 30) (i + 1) = upd (tyN v n L (M.2.2 30) i) (L + i) (tyg v (nI (n - 1 - i))) from rfl]
        unfold tyg
        simp only [sA_sA, sA_cm, sI_sA, sI_sI, sI_cm, sL_sA, sL_sI, sL_sL, sL_cm, Nat.reduceLT]
        rw [show n - i - 1 = n - 1 - i by omega, nI_1]
        rfl
      · rw [m1, show n - (i + 1) = n - i - 1 by omega]
  · dsimp only [k_X5_type_0, k_X5_type_1, k_X5_type_2, k_X5_type_4, k_X5_type_7, k_X5_type_10, k_X5_type_11, k_X5_type_12, k_X5_type_13, k_X5_type_16, k_X5_type_17, k_X5_type_18, k_X5_type_21, k_X5_type_24, k_X5_type_26, k_X5_type_27, k_X5_type_28, k_X5_type_29, k_X5_type_30, k_X5_type_32, k_X5_type_34, k_X5_type_37, k_X5_type_38, k_X5_type_41, k_X5_type_42, k_X5_type_45, k_X5_type_46, k_X5_type_48, k_X5_type_50, k_X5_type_51, k_X5_type_52, k_X5_type_55, k_X5_type_56, k_X5_type_57, k_X5_type_58, k_X5_type_59, k_X5_type_60, k_X5_type_63, k_X5_type_64, k_X5_type_65, k_X5_type_68, k_X5_type_71, k_X5_type_74, k_X5_type_75, k_X5_type_78, wp1, wp_s, cutIn, kont, Nat.reduceSub, Nat.reduceAdd, nth, o_const, o_lconst, o_ref, o_iload, o_lload, o_aload, o_istore, o_lstore, o_astore, o_iinc, o_bin, o_div, o_un, o_lbin, o_lsh, o_lcmp, o_i2l, o_l2i, o_if, o_icmp, o_goto, o_dup, o_dup2, o_pop, fav, o_getf, o_putI, o_putZ, o_putL, o_ald, o_ast, o_alen, popn, rst, o_callV, o_callT, o_callS, swx, o_sw, o_ret, o_iret, o_zret, o_cret, o_lret, o_aret, lg, lput, lput2, ls1, isL, entL, wsum, rdI1, rdI2, rdA1, rdA21, rdA22, rdL1, rdL22, rdL21, upN_at, rep, sh_0, F_0_0, F_0_1, F_0_2, F_0_3, F_0_4, F_0_5, F_0_6, F_0_7, F_0_8, sh_1, F_1_0, F_1_1, F_1_2, F_1_3, F_1_4, F_1_5, sh_3, F_3_0, F_3_1, F_3_2, F_3_3, F_3_4, F_3_5, sh_5, F_5_0, F_5_1, F_5_2, F_5_3, F_5_4, F_5_5, F_5_6, F_5_7, F_5_8, sh_12, F_12_0, F_12_1, F_12_2, F_12_3, F_12_4, F_12_5, sh_14, F_14_0, F_14_1, F_14_2, F_14_3, F_14_4, F_14_5, F_14_6, F_14_7, F_14_8, sh_21, F_21_0, F_21_1, F_21_2, F_21_3, F_21_4, F_21_5, F_21_6, F_21_7, F_21_8, sh_28, F_28_0, F_28_1, F_28_2, F_28_3, F_28_4, F_28_5, F_28_6, F_28_7, F_28_8, sh_35, F_35_0, sh_39, F_39_0, F_39_1, F_39_2, F_39_3, F_39_4, F_39_5, F_39_6, F_39_7, F_39_8, F_39_9, F_39_10, F_39_11, F_39_12, F_39_13, A_2, A_4, A_6, A_7, A_8, A_9, A_10, A_11, A_13, A_15, A_16, A_17, A_18, A_19, A_20, A_22, A_23, A_24, A_25, A_26, A_27, A_29, A_30, A_31, A_32, A_33, A_34, A_36, A_37, A_38, A_40, A_41, A_42, A_43, A_44, A_45, A_46, A_47]
    refine ⟨x, 1, 8, rfl, fun w1 => ?_, fun w1 => ?_⟩
    · obtain ⟨n, hn, rfl⟩ := nI_of (x := x) (fun e => by
        have g1 := w1.1
        rw [Int32.le_iff_toInt_le] at g1
        rw [Int32.lt_iff_toInt_lt] at e
        have a1 : (1 : Int32).toInt = 1 := by decide
        have a0 : (0 : Int32).toInt = 0 := by decide
        omega)
      have hn1 := w1.1
      have hn8 := w1.2
      rw [show (1 : Int32) = nI 1 from rfl, nI_leI (by omega) (by omega)] at hn1
      rw [show (8 : Int32) = nI 8 from rfl, nI_leI (by omega) (by omega)] at hn8
      dsimp only [k_X5_type_0, k_X5_type_1, k_X5_type_2, k_X5_type_4, k_X5_type_7, k_X5_type_10, k_X5_type_11, k_X5_type_12, k_X5_type_13, k_X5_type_16, k_X5_type_17, k_X5_type_18, k_X5_type_21, k_X5_type_24, k_X5_type_26, k_X5_type_27, k_X5_type_28, k_X5_type_29, k_X5_type_30, k_X5_type_32, k_X5_type_34, k_X5_type_37, k_X5_type_38, k_X5_type_41, k_X5_type_42, k_X5_type_45, k_X5_type_46, k_X5_type_48, k_X5_type_50, k_X5_type_51, k_X5_type_52, k_X5_type_55, k_X5_type_56, k_X5_type_57, k_X5_type_58, k_X5_type_59, k_X5_type_60, k_X5_type_63, k_X5_type_64, k_X5_type_65, k_X5_type_68, k_X5_type_71, k_X5_type_74, k_X5_type_75, k_X5_type_78, wp1, wp_s, cutIn, kont, Nat.reduceSub, Nat.reduceAdd, nth, o_const, o_lconst, o_ref, o_iload, o_lload, o_aload, o_istore, o_lstore, o_astore, o_iinc, o_bin, o_div, o_un, o_lbin, o_lsh, o_lcmp, o_i2l, o_l2i, o_if, o_icmp, o_goto, o_dup, o_dup2, o_pop, fav, o_getf, o_putI, o_putZ, o_putL, o_ald, o_ast, o_alen, popn, rst, o_callV, o_callT, o_callS, swx, o_sw, o_ret, o_iret, o_zret, o_cret, o_lret, o_aret, lg, lput, lput2, ls1, isL, entL, wsum, rdI1, rdI2, rdA1, rdA21, rdA22, rdL1, rdL22, rdL21, upN_at, rep, sh_0, F_0_0, F_0_1, F_0_2, F_0_3, F_0_4, F_0_5, F_0_6, F_0_7, F_0_8, sh_1, F_1_0, F_1_1, F_1_2, F_1_3, F_1_4, F_1_5, sh_3, F_3_0, F_3_1, F_3_2, F_3_3, F_3_4, F_3_5, sh_5, F_5_0, F_5_1, F_5_2, F_5_3, F_5_4, F_5_5, F_5_6, F_5_7, F_5_8, sh_12, F_12_0, F_12_1, F_12_2, F_12_3, F_12_4, F_12_5, sh_14, F_14_0, F_14_1, F_14_2, F_14_3, F_14_4, F_14_5, F_14_6, F_14_7, F_14_8, sh_21, F_21_0, F_21_1, F_21_2, F_21_3, F_21_4, F_21_5, F_21_6, F_21_7, F_21_8, sh_28, F_28_0, F_28_1, F_28_2, F_28_3, F_28_4, F_28_5, F_28_6, F_28_7, F_28_8, sh_35, F_35_0, sh_39, F_39_0, F_39_1, F_39_2, F_39_3, F_39_4, F_39_5, F_39_6, F_39_7, F_39_8, F_39_9, F_39_10, F_39_11, F_39_12, F_39_13, A_2, A_4, A_6, A_7, A_8, A_9, A_10, A_11, A_13, A_15, A_16, A_17, A_18, A_19, A_20, A_22, A_23, A_24, A_25, A_26, A_27, A_29, A_30, A_31, A_32, A_33, A_34, A_36, A_37, A_38, A_40, A_41, A_42, A_43, A_44, A_45, A_46, A_47]
      simp (config := { decide := true }) only [true_implies, false_implies, and_true, true_and, not_true_eq_false, not_false_eq_true, forall_const]
      rw [hL, show (300 : Int32) = nI 300 from rfl]
      simp (disch := omega) only [nI_leI, nI_ltI, nI_eq, nI_1, nI_add, one_shl, nI_or, nI_xor, nI_and, bit_0, bit_1, true_or, or_true, true_and, and_true, eq_self, not_true_eq_false, not_false_eq_true, forall_const]
      refine ⟨fun q => cut _ _ ⟨rfl, rfl, n, 0, rfl, hn1, hn8, q, by omega, ?_, rfl, rfl⟩ (by omega) ⟨rfl, rfl, rfl, rfl, trivial⟩, fun q => h2 n rfl hn1 hn8 (by omega)⟩
      rw [show tyN v n L (M.2.2 30) 0 = M.2.2 30 from rfl, sA_self]
      exact (sI_id hL).symm
    · dsimp only [k_X5_type_0, k_X5_type_1, k_X5_type_2, k_X5_type_4, k_X5_type_7, k_X5_type_10, k_X5_type_11, k_X5_type_12, k_X5_type_13, k_X5_type_16, k_X5_type_17, k_X5_type_18, k_X5_type_21, k_X5_type_24, k_X5_type_26, k_X5_type_27, k_X5_type_28, k_X5_type_29, k_X5_type_30, k_X5_type_32, k_X5_type_34, k_X5_type_37, k_X5_type_38, k_X5_type_41, k_X5_type_42, k_X5_type_45, k_X5_type_46, k_X5_type_48, k_X5_type_50, k_X5_type_51, k_X5_type_52, k_X5_type_55, k_X5_type_56, k_X5_type_57, k_X5_type_58, k_X5_type_59, k_X5_type_60, k_X5_type_63, k_X5_type_64, k_X5_type_65, k_X5_type_68, k_X5_type_71, k_X5_type_74, k_X5_type_75, k_X5_type_78, wp1, wp_s, cutIn, kont, Nat.reduceSub, Nat.reduceAdd, nth, o_const, o_lconst, o_ref, o_iload, o_lload, o_aload, o_istore, o_lstore, o_astore, o_iinc, o_bin, o_div, o_un, o_lbin, o_lsh, o_lcmp, o_i2l, o_l2i, o_if, o_icmp, o_goto, o_dup, o_dup2, o_pop, fav, o_getf, o_putI, o_putZ, o_putL, o_ald, o_ast, o_alen, popn, rst, o_callV, o_callT, o_callS, swx, o_sw, o_ret, o_iret, o_zret, o_cret, o_lret, o_aret, lg, lput, lput2, ls1, isL, entL, wsum, rdI1, rdI2, rdA1, rdA21, rdA22, rdL1, rdL22, rdL21, upN_at, rep, sh_0, F_0_0, F_0_1, F_0_2, F_0_3, F_0_4, F_0_5, F_0_6, F_0_7, F_0_8, sh_1, F_1_0, F_1_1, F_1_2, F_1_3, F_1_4, F_1_5, sh_3, F_3_0, F_3_1, F_3_2, F_3_3, F_3_4, F_3_5, sh_5, F_5_0, F_5_1, F_5_2, F_5_3, F_5_4, F_5_5, F_5_6, F_5_7, F_5_8, sh_12, F_12_0, F_12_1, F_12_2, F_12_3, F_12_4, F_12_5, sh_14, F_14_0, F_14_1, F_14_2, F_14_3, F_14_4, F_14_5, F_14_6, F_14_7, F_14_8, sh_21, F_21_0, F_21_1, F_21_2, F_21_3, F_21_4, F_21_5, F_21_6, F_21_7, F_21_8, sh_28, F_28_0, F_28_1, F_28_2, F_28_3, F_28_4, F_28_5, F_28_6, F_28_7, F_28_8, sh_35, F_35_0, sh_39, F_39_0, F_39_1, F_39_2, F_39_3, F_39_4, F_39_5, F_39_6, F_39_7, F_39_8, F_39_9, F_39_10, F_39_11, F_39_12, F_39_13, A_2, A_4, A_6, A_7, A_8, A_9, A_10, A_11, A_13, A_15, A_16, A_17, A_18, A_19, A_20, A_22, A_23, A_24, A_25, A_26, A_27, A_29, A_30, A_31, A_32, A_33, A_34, A_36, A_37, A_38, A_40, A_41, A_42, A_43, A_44, A_45, A_46, A_47]
      simp (config := { decide := true }) only [true_implies, false_implies, and_true, true_and, not_true_eq_false, not_false_eq_true, forall_const]
      exact h1 w1
set_option maxRecDepth 100000 in
theorem v_X5_number : ∀ as M post, S_X5_number as M post → wsum as ≤ 3 ∧ RUN (T_X5_number post) 0 (entL 3 as) [] M := by
  rintro as M post ⟨L, t, p, b, rfl, hT, hp, hpL, h1, h2⟩
  have hT2 := hT.2.1
  refine ⟨by show 2 ≤ 3; omega, run_wp 80 ?_⟩
  dsimp only [k_X5_number_0, k_X5_number_1, k_X5_number_4, k_X5_number_5, k_X5_number_6, k_X5_number_9, k_X5_number_12, k_X5_number_14, k_X5_number_15, k_X5_number_16, k_X5_number_17, k_X5_number_20, k_X5_number_21, k_X5_number_24, k_X5_number_25, k_X5_number_28, k_X5_number_29, k_X5_number_32, k_X5_number_33, k_X5_number_34, k_X5_number_37, k_X5_number_38, k_X5_number_41, k_X5_number_43, wp1, wp_s, cutIn, kont, Nat.reduceSub, Nat.reduceAdd, nth, o_const, o_lconst, o_ref, o_iload, o_lload, o_aload, o_istore, o_lstore, o_astore, o_iinc, o_bin, o_div, o_un, o_lbin, o_lsh, o_lcmp, o_i2l, o_l2i, o_if, o_icmp, o_goto, o_dup, o_dup2, o_pop, fav, o_getf, o_putI, o_putZ, o_putL, o_ald, o_ast, o_alen, popn, rst, o_callV, o_callT, o_callS, swx, o_sw, o_ret, o_iret, o_zret, o_cret, o_lret, o_aret, lg, lput, lput2, ls1, isL, entL, wsum, rdI1, rdI2, rdA1, rdA21, rdA22, rdL1, rdL22, rdL21, upN_at, rep, sh_0, F_0_0, F_0_1, F_0_2, F_0_3, F_0_4, F_0_5, F_0_6, F_0_7, F_0_8, sh_1, F_1_0, F_1_1, F_1_2, F_1_3, F_1_4, F_1_5, sh_3, F_3_0, F_3_1, F_3_2, F_3_3, F_3_4, F_3_5, sh_5, F_5_0, F_5_1, F_5_2, F_5_3, F_5_4, F_5_5, F_5_6, F_5_7, F_5_8, sh_12, F_12_0, F_12_1, F_12_2, F_12_3, F_12_4, F_12_5, sh_14, F_14_0, F_14_1, F_14_2, F_14_3, F_14_4, F_14_5, F_14_6, F_14_7, F_14_8, sh_21, F_21_0, F_21_1, F_21_2, F_21_3, F_21_4, F_21_5, F_21_6, F_21_7, F_21_8, sh_28, F_28_0, F_28_1, F_28_2, F_28_3, F_28_4, F_28_5, F_28_6, F_28_7, F_28_8, sh_35, F_35_0, sh_39, F_39_0, F_39_1, F_39_2, F_39_3, F_39_4, F_39_5, F_39_6, F_39_7, F_39_8, F_39_9, F_39_10, F_39_11, F_39_12, F_39_13, A_2, A_4, A_6, A_7, A_8, A_9, A_10, A_11, A_13, A_15, A_16, A_17, A_18, A_19, A_20, A_22, A_23, A_24, A_25, A_26, A_27, A_29, A_30, A_31, A_32, A_33, A_34, A_36, A_37, A_38, A_40, A_41, A_42, A_43, A_44, A_45, A_46, A_47]
  refine ⟨L, t, p, rfl, hT, hp, hpL, ?_⟩
  dsimp only [k_X5_number_0, k_X5_number_1, k_X5_number_4, k_X5_number_5, k_X5_number_6, k_X5_number_9, k_X5_number_12, k_X5_number_14, k_X5_number_15, k_X5_number_16, k_X5_number_17, k_X5_number_20, k_X5_number_21, k_X5_number_24, k_X5_number_25, k_X5_number_28, k_X5_number_29, k_X5_number_32, k_X5_number_33, k_X5_number_34, k_X5_number_37, k_X5_number_38, k_X5_number_41, k_X5_number_43, wp1, wp_s, cutIn, kont, Nat.reduceSub, Nat.reduceAdd, nth, o_const, o_lconst, o_ref, o_iload, o_lload, o_aload, o_istore, o_lstore, o_astore, o_iinc, o_bin, o_div, o_un, o_lbin, o_lsh, o_lcmp, o_i2l, o_l2i, o_if, o_icmp, o_goto, o_dup, o_dup2, o_pop, fav, o_getf, o_putI, o_putZ, o_putL, o_ald, o_ast, o_alen, popn, rst, o_callV, o_callT, o_callS, swx, o_sw, o_ret, o_iret, o_zret, o_cret, o_lret, o_aret, lg, lput, lput2, ls1, isL, entL, wsum, rdI1, rdI2, rdA1, rdA21, rdA22, rdL1, rdL22, rdL21, upN_at, rep, sh_0, F_0_0, F_0_1, F_0_2, F_0_3, F_0_4, F_0_5, F_0_6, F_0_7, F_0_8, sh_1, F_1_0, F_1_1, F_1_2, F_1_3, F_1_4, F_1_5, sh_3, F_3_0, F_3_1, F_3_2, F_3_3, F_3_4, F_3_5, sh_5, F_5_0, F_5_1, F_5_2, F_5_3, F_5_4, F_5_5, F_5_6, F_5_7, F_5_8, sh_12, F_12_0, F_12_1, F_12_2, F_12_3, F_12_4, F_12_5, sh_14, F_14_0, F_14_1, F_14_2, F_14_3, F_14_4, F_14_5, F_14_6, F_14_7, F_14_8, sh_21, F_21_0, F_21_1, F_21_2, F_21_3, F_21_4, F_21_5, F_21_6, F_21_7, F_21_8, sh_28, F_28_0, F_28_1, F_28_2, F_28_3, F_28_4, F_28_5, F_28_6, F_28_7, F_28_8, sh_35, F_35_0, sh_39, F_39_0, F_39_1, F_39_2, F_39_3, F_39_4, F_39_5, F_39_6, F_39_7, F_39_8, F_39_9, F_39_10, F_39_11, F_39_12, F_39_13, A_2, A_4, A_6, A_7, A_8, A_9, A_10, A_11, A_13, A_15, A_16, A_17, A_18, A_19, A_20, A_22, A_23, A_24, A_25, A_26, A_27, A_29, A_30, A_31, A_32, A_33, A_34, A_36, A_37, A_38, A_40, A_41, A_42, A_43, A_44, A_45, A_46, A_47]
  have hge := sk_ge isS t (L - p) p
  have hS : tkS t L p ≤ 301 := by unfold tkS; omega
  have hE : tkE t L p ≤ 1000 := by
    unfold tkE
    have e1 := sk_ge isW t (L - tkS t L p) (tkS t L p)
    have e2 := sk_ge isD t (L - tkS t L p) (tkS t L p)
    split
    · omega
    · split
      · omega
      · split <;> omega
  unfold tkN at h1 h2 ⊢
  refine ⟨L, t, tkS t L p, rfl, TT_of hT rfl rfl, by omega, ?_⟩
  dsimp only [k_X5_number_0, k_X5_number_1, k_X5_number_4, k_X5_number_5, k_X5_number_6, k_X5_number_9, k_X5_number_12, k_X5_number_14, k_X5_number_15, k_X5_number_16, k_X5_number_17, k_X5_number_20, k_X5_number_21, k_X5_number_24, k_X5_number_25, k_X5_number_28, k_X5_number_29, k_X5_number_32, k_X5_number_33, k_X5_number_34, k_X5_number_37, k_X5_number_38, k_X5_number_41, k_X5_number_43, wp1, wp_s, cutIn, kont, Nat.reduceSub, Nat.reduceAdd, nth, o_const, o_lconst, o_ref, o_iload, o_lload, o_aload, o_istore, o_lstore, o_astore, o_iinc, o_bin, o_div, o_un, o_lbin, o_lsh, o_lcmp, o_i2l, o_l2i, o_if, o_icmp, o_goto, o_dup, o_dup2, o_pop, fav, o_getf, o_putI, o_putZ, o_putL, o_ald, o_ast, o_alen, popn, rst, o_callV, o_callT, o_callS, swx, o_sw, o_ret, o_iret, o_zret, o_cret, o_lret, o_aret, lg, lput, lput2, ls1, isL, entL, wsum, rdI1, rdI2, rdA1, rdA21, rdA22, rdL1, rdL22, rdL21, upN_at, rep, sh_0, F_0_0, F_0_1, F_0_2, F_0_3, F_0_4, F_0_5, F_0_6, F_0_7, F_0_8, sh_1, F_1_0, F_1_1, F_1_2, F_1_3, F_1_4, F_1_5, sh_3, F_3_0, F_3_1, F_3_2, F_3_3, F_3_4, F_3_5, sh_5, F_5_0, F_5_1, F_5_2, F_5_3, F_5_4, F_5_5, F_5_6, F_5_7, F_5_8, sh_12, F_12_0, F_12_1, F_12_2, F_12_3, F_12_4, F_12_5, sh_14, F_14_0, F_14_1, F_14_2, F_14_3, F_14_4, F_14_5, F_14_6, F_14_7, F_14_8, sh_21, F_21_0, F_21_1, F_21_2, F_21_3, F_21_4, F_21_5, F_21_6, F_21_7, F_21_8, sh_28, F_28_0, F_28_1, F_28_2, F_28_3, F_28_4, F_28_5, F_28_6, F_28_7, F_28_8, sh_35, F_35_0, sh_39, F_39_0, F_39_1, F_39_2, F_39_3, F_39_4, F_39_5, F_39_6, F_39_7, F_39_8, F_39_9, F_39_10, F_39_11, F_39_12, F_39_13, A_2, A_4, A_6, A_7, A_8, A_9, A_10, A_11, A_13, A_15, A_16, A_17, A_18, A_19, A_20, A_22, A_23, A_24, A_25, A_26, A_27, A_29, A_30, A_31, A_32, A_33, A_34, A_36, A_37, A_38, A_40, A_41, A_42, A_43, A_44, A_45, A_46, A_47]
  refine ⟨fun w1 => ⟨fun w2 => ⟨fun w3 => ?_, fun w3 => ?_⟩, fun w2 => ?_⟩, fun w1 => ?_⟩
  · refine h2 fun ⟨j, e1, e2, e3, e4⟩ => ?_
    rw [bAt_in (sr_2.mp e1).1, e3, show (48 : Int32) = nI 48 from rfl, pk_sub (by omega), Nat.add_sub_cancel_left] at w3
    exact absurd e4 (Int32.not_lt.mpr w3)
  · obtain ⟨g1, g2, g3⟩ := sr_2.mp w1
    have g4 := (isD_iff (hT.2.2 _ g1).2).mpr g3
    have g5 := g4.1
    have g6 := (hT.2.2 _ g1).2
    rw [show (48 : Int32) = nI 48 from rfl, nI_leI (by omega) (by omega)] at g5
    rw [bAt_in g1, show (48 : Int32) = nI 48 from rfl, pk_sub g5] at w3 ⊢
    refine h1 _ w1 ?_ (by omega) (Int32.not_le.mp w3)
    rw [show (1 : Int32) = nI 1 from rfl, nI_eq (by omega) (by omega)] at w2
    omega
  · exact h2 fun ⟨j, e1, e2, e3, e4⟩ => w2 (by rw [e2, Nat.add_sub_cancel_left]; rfl)
  · exact h2 fun ⟨j, e1, e2, e3, e4⟩ => w1 e1
theorem c_X5_type : Ctr yX5_type cX5_type 5 (some .int) ({ frames := 1, cells := 0, slots := 0, locals := 22 } : Room) S_X5_type := ctr_of (T := T_X5_type) (by decide +kernel) (fun post C hr => t_X5_type post C hr) v_X5_type
theorem c_X5_number : Ctr yX5_number cX5_number 3 (some .int) ({ frames := 3, cells := 0, slots := 0, locals := 62 } : Room) S_X5_number := ctr_of (T := T_X5_number) (by decide +kernel) (fun post C hr => t_X5_number post C hr) v_X5_number
