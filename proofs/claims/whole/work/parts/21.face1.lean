/-! The class's face: the house, keys that come and go. -/
def tyf (v : Int64) (k : Int32) : Int32 := (v >>> ((8 * k).toInt64 &&& 63)).toInt32.toInt8.toInt32
/-- the text's bytes behind type's first i -/
def tyM (v : Int64) (n L : Nat) (F : Nat → Int32) : Nat → Nat → Int32
  | 0 => F
  | i + 1 => upd (tyM v n L F i) (L + i) (vp_nar .byte (tyf v (nI (n - 1 - i))))
def S_X4_type : SP := fun as M post => ∃ v x L, as = [VR 0, VL v, VI x] ∧ M.1 0 = nI L ∧ L ≤ 300 ∧ (x < 1 ∨ 8 < x → post (some (VI (-1))) M) ∧ (∀ n, x = nI n → 1 ≤ n → n ≤ 8 → 300 < L + n → post (some (VI (-3))) M) ∧ (∀ n, x = nI n → 1 ≤ n → n ≤ 8 → L + n ≤ 300 → post (some (VI (nI (L + n)))) (sI 0 (nI (L + n)) (sA 0 (tyM v n L (M.2.2 0) n) M)))
def S_X4_clear : SP := fun as M post => as = [VR 0] ∧ post (some (VI (M.1 0))) (sI 0 0 M)
def S_X4_house : SP := fun as M post => ∃ L t, as = [VR 0] ∧ TX M L t ∧ (∀ s, prs t L 301 0 0 0 d0 = .inl s → s ≤ 300 → ∀ M', frH M M' → post (some (VI (-10 - nI s))) M') ∧ (∀ d, prs t L 301 0 0 0 d0 = .inr d → ∀ M', frH M M' → DR M' d → M'.1 17 = 0 → (∃ i : Nat, i ≤ 301 ∧ d 2 = nI i) → post (some (VI (d 2))) (sI 0 0 (sI 24 0 (sI 21 0 (sI 6 (M'.1 13) (sI 5 (M'.1 12) (sA 1 (cpy (M'.2.2 1) (M'.2.2 8) 6) (cpR 4 9 11 16 M'))))))))
def S_X4_key : SP := fun as M post => ∃ x w n c p r h lk, as = [VR 0, VI x, VI w] ∧ XW M n c p r h lk ∧ (¬ ((0 ≤ x ∧ x < nI n) ∧ (w = 0 ∨ w = 1)) → post (some (VI (-1))) M) ∧ (∀ k, x = nI k → k < n → w = 0 → post (some (VI (nI (r k)))) M) ∧ (∀ k, x = nI k → k < n → w = 1 → post (some (VI (h k))) M)
def S_X4_lock : SP := fun as M post => ∃ x n c p r h lk, as = [VR 0, VI x] ∧ XW M n c p r h lk ∧ (¬ (0 ≤ x ∧ x < nI c) → post (some (VI (-1))) M) ∧ (∀ l, x = nI l → l < c → post (some (VI (nI (lk l)))) M)
def S_X4_laid : SP := fun as M post => ∃ x n c p r h lk, as = [VR 0, VI x] ∧ XW M n c p r h lk ∧ (¬ In x (us h n) → post (some (VI (-1))) M) ∧ (∀ T, x = nI T → T &&& us h n = T → post (some (VI (xrI (M.2.2 2) T n))) M)
theorem rg {x : Int32} {n : Nat} (hn : n < 2 ^ 31) (h : 0 ≤ x ∧ x < nI n) : ∃ k, x = nI k ∧ k < n := by
  obtain ⟨k, hk, rfl⟩ := nI_of (x := x) (Int32.not_lt.mpr h.1)
  exact ⟨k, rfl, (nI_ltI hk hn).mp h.2⟩
/-- T &&& a = T for a small a: T is small (as the machine sees it) -/
theorem In_at {x : Int32} {a : Nat} (ha : a < 2 ^ 31) (h : In x a) : ∃ T, x = nI T ∧ T &&& a = T ∧ T ≤ a := by
  obtain ⟨T, h1, h2⟩ := h
  exact ⟨T, h1, h2, by rw [← h2]; exact Nat.and_le_right⟩
theorem fl_RX4_10 : Cond.fieldLink RX4 10 (TX4 0).1 (TX4 0).2.1 (TX4 0).2.2.1 ∈ tb := tb_of 185 (by decide +kernel) (by decide +kernel)
theorem fl_RX4_51 : Cond.fieldLink RX4 51 (TX3 1).1 (TX3 1).2.1 (TX3 1).2.2.1 ∈ tb := tb_of 81 (by decide +kernel) (by decide +kernel)
theorem cw_RX4_55 : ∀ w ∈ ([.methodLink RX4 55 yX3_append, .instanceMethod yX3_append, .selects yX3_append.cls yX3_append yX3_append, .initialized yX3_append.cls, .code yX3_append cX3_append 2 none] : List Cond), w ∈ tb := tb_all [218, 219, 220, 55, 221] (by decide +kernel) (by decide +kernel)
theorem dX4_type_0 : decode cX4_type 0 = .ok (.iload_n 3, 1) := by decide +kernel
theorem dX4_type_1 : decode cX4_type 1 = .ok (.iconst 1, 1) := by decide +kernel
theorem dX4_type_2 : decode cX4_type 2 = .ok (.if_icmp .lt 9, 3) := by decide +kernel
theorem dX4_type_5 : decode cX4_type 5 = .ok (.iload_n 3, 1) := by decide +kernel
theorem dX4_type_6 : decode cX4_type 6 = .ok (.bipush 8, 2) := by decide +kernel
theorem dX4_type_8 : decode cX4_type 8 = .ok (.if_icmp .le 5, 3) := by decide +kernel
theorem dX4_type_11 : decode cX4_type 11 = .ok (.iconst (-1), 1) := by decide +kernel
theorem dX4_type_12 : decode cX4_type 12 = .ok (.ireturn, 1) := by decide +kernel
theorem dX4_type_13 : decode cX4_type 13 = .ok (.aload_n 0, 1) := by decide +kernel
theorem dX4_type_14 : decode cX4_type 14 = .ok (.getfield 10, 3) := by decide +kernel
theorem dX4_type_17 : decode cX4_type 17 = .ok (.getfield 51, 3) := by decide +kernel
theorem dX4_type_20 : decode cX4_type 20 = .ok (.iload_n 3, 1) := by decide +kernel
theorem dX4_type_21 : decode cX4_type 21 = .ok (.iadd, 1) := by decide +kernel
theorem dX4_type_22 : decode cX4_type 22 = .ok (.sipush 300, 3) := by decide +kernel
theorem dX4_type_25 : decode cX4_type 25 = .ok (.if_icmp .le 6, 3) := by decide +kernel
theorem dX4_type_28 : decode cX4_type 28 = .ok (.bipush (-3), 2) := by decide +kernel
theorem dX4_type_30 : decode cX4_type 30 = .ok (.ireturn, 1) := by decide +kernel
theorem dX4_type_31 : decode cX4_type 31 = .ok (.iload_n 3, 1) := by decide +kernel
theorem dX4_type_32 : decode cX4_type 32 = .ok (.iconst 1, 1) := by decide +kernel
theorem dX4_type_33 : decode cX4_type 33 = .ok (.isub, 1) := by decide +kernel
theorem dX4_type_34 : decode cX4_type 34 = .ok (.istore 4, 2) := by decide +kernel
theorem dX4_type_36 : decode cX4_type 36 = .ok (.iload 4, 2) := by decide +kernel
theorem dX4_type_38 : decode cX4_type 38 = .ok (.ifCond .lt 25, 3) := by decide +kernel
theorem dX4_type_41 : decode cX4_type 41 = .ok (.aload_n 0, 1) := by decide +kernel
theorem dX4_type_42 : decode cX4_type 42 = .ok (.getfield 10, 3) := by decide +kernel
theorem dX4_type_45 : decode cX4_type 45 = .ok (.lload_n 1, 1) := by decide +kernel
theorem dX4_type_46 : decode cX4_type 46 = .ok (.bipush 8, 2) := by decide +kernel
theorem dX4_type_48 : decode cX4_type 48 = .ok (.iload 4, 2) := by decide +kernel
theorem dX4_type_50 : decode cX4_type 50 = .ok (.imul, 1) := by decide +kernel
theorem dX4_type_51 : decode cX4_type 51 = .ok (.lshr, 1) := by decide +kernel
theorem dX4_type_52 : decode cX4_type 52 = .ok (.l2i, 1) := by decide +kernel
theorem dX4_type_53 : decode cX4_type 53 = .ok (.i2b, 1) := by decide +kernel
theorem dX4_type_54 : decode cX4_type 54 = .ok (.invokevirtual 55, 3) := by decide +kernel
theorem dX4_type_57 : decode cX4_type 57 = .ok (.iinc 4 (-1), 3) := by decide +kernel
theorem dX4_type_60 : decode cX4_type 60 = .ok (.goto (-24), 3) := by decide +kernel
theorem dX4_type_63 : decode cX4_type 63 = .ok (.aload_n 0, 1) := by decide +kernel
theorem dX4_type_64 : decode cX4_type 64 = .ok (.getfield 10, 3) := by decide +kernel
theorem dX4_type_67 : decode cX4_type 67 = .ok (.getfield 51, 3) := by decide +kernel
theorem dX4_type_70 : decode cX4_type 70 = .ok (.ireturn, 1) := by decide +kernel
def T_X4_type (post : PO) : List (Nat × OP) := [(0, o_iload 3 1), (1, o_const 1 2), (2, o_icmp (fun x y => x < y) 11 5), (5, o_iload 3 6), (6, o_const 8 8), (8, o_icmp (fun x y => x ≤ y) 13 11), (11, o_const (-1) 12), (12, o_iret post), (13, o_aload 0 14), (14, o_getf 4 0 17), (17, o_getf 3 1 20), (20, o_iload 3 21), (21, o_bin (fun x y => x + y) 22), (22, o_const 300 25), (25, o_icmp (fun x y => x ≤ y) 31 28), (28, o_const (-3) 30), (30, o_iret post), (31, o_iload 3 32), (32, o_const 1 33), (33, o_bin (fun x y => x - y) 34), (34, o_istore 4 36), (36, o_iload 4 38), (38, o_if (fun x => x < 0) 63 41), (41, o_aload 0 42), (42, o_getf 4 0 45), (45, o_lload 1 46), (46, o_const 8 48), (48, o_iload 4 50), (50, o_bin (fun x y => x * y) 51), (51, o_lsh (fun x y => x >>> (y.toInt64 &&& 63)) 52), (52, o_l2i 53), (53, o_un (fun x => x.toInt8.toInt32) 54), (54, o_callV 3 S_X3_append 1 57), (57, o_iinc 4 (-1) 60), (60, o_goto 36), (63, o_aload 0 64), (64, o_getf 4 0 67), (67, o_getf 3 1 70), (70, o_iret post)]
theorem k_X4_type_0 (post : PO) : lk (T_X4_type post) 0 = o_iload 3 1 := rfl
theorem k_X4_type_1 (post : PO) : lk (T_X4_type post) 1 = o_const 1 2 := rfl
theorem k_X4_type_2 (post : PO) : lk (T_X4_type post) 2 = o_icmp (fun x y => x < y) 11 5 := rfl
theorem k_X4_type_5 (post : PO) : lk (T_X4_type post) 5 = o_iload 3 6 := rfl
theorem k_X4_type_6 (post : PO) : lk (T_X4_type post) 6 = o_const 8 8 := rfl
theorem k_X4_type_8 (post : PO) : lk (T_X4_type post) 8 = o_icmp (fun x y => x ≤ y) 13 11 := rfl
theorem k_X4_type_11 (post : PO) : lk (T_X4_type post) 11 = o_const (-1) 12 := rfl
theorem k_X4_type_12 (post : PO) : lk (T_X4_type post) 12 = o_iret post := rfl
theorem k_X4_type_13 (post : PO) : lk (T_X4_type post) 13 = o_aload 0 14 := rfl
theorem k_X4_type_14 (post : PO) : lk (T_X4_type post) 14 = o_getf 4 0 17 := rfl
theorem k_X4_type_17 (post : PO) : lk (T_X4_type post) 17 = o_getf 3 1 20 := rfl
theorem k_X4_type_20 (post : PO) : lk (T_X4_type post) 20 = o_iload 3 21 := rfl
theorem k_X4_type_21 (post : PO) : lk (T_X4_type post) 21 = o_bin (fun x y => x + y) 22 := rfl
theorem k_X4_type_22 (post : PO) : lk (T_X4_type post) 22 = o_const 300 25 := rfl
theorem k_X4_type_25 (post : PO) : lk (T_X4_type post) 25 = o_icmp (fun x y => x ≤ y) 31 28 := rfl
theorem k_X4_type_28 (post : PO) : lk (T_X4_type post) 28 = o_const (-3) 30 := rfl
theorem k_X4_type_30 (post : PO) : lk (T_X4_type post) 30 = o_iret post := rfl
theorem k_X4_type_31 (post : PO) : lk (T_X4_type post) 31 = o_iload 3 32 := rfl
theorem k_X4_type_32 (post : PO) : lk (T_X4_type post) 32 = o_const 1 33 := rfl
theorem k_X4_type_33 (post : PO) : lk (T_X4_type post) 33 = o_bin (fun x y => x - y) 34 := rfl
theorem k_X4_type_34 (post : PO) : lk (T_X4_type post) 34 = o_istore 4 36 := rfl
theorem k_X4_type_36 (post : PO) : lk (T_X4_type post) 36 = o_iload 4 38 := rfl
theorem k_X4_type_38 (post : PO) : lk (T_X4_type post) 38 = o_if (fun x => x < 0) 63 41 := rfl
theorem k_X4_type_41 (post : PO) : lk (T_X4_type post) 41 = o_aload 0 42 := rfl
theorem k_X4_type_42 (post : PO) : lk (T_X4_type post) 42 = o_getf 4 0 45 := rfl
theorem k_X4_type_45 (post : PO) : lk (T_X4_type post) 45 = o_lload 1 46 := rfl
theorem k_X4_type_46 (post : PO) : lk (T_X4_type post) 46 = o_const 8 48 := rfl
theorem k_X4_type_48 (post : PO) : lk (T_X4_type post) 48 = o_iload 4 50 := rfl
theorem k_X4_type_50 (post : PO) : lk (T_X4_type post) 50 = o_bin (fun x y => x * y) 51 := rfl
theorem k_X4_type_51 (post : PO) : lk (T_X4_type post) 51 = o_lsh (fun x y => x >>> (y.toInt64 &&& 63)) 52 := rfl
theorem k_X4_type_52 (post : PO) : lk (T_X4_type post) 52 = o_l2i 53 := rfl
theorem k_X4_type_53 (post : PO) : lk (T_X4_type post) 53 = o_un (fun x => x.toInt8.toInt32) 54 := rfl
theorem k_X4_type_54 (post : PO) : lk (T_X4_type post) 54 = o_callV 3 S_X3_append 1 57 := rfl
theorem k_X4_type_57 (post : PO) : lk (T_X4_type post) 57 = o_iinc 4 (-1) 60 := rfl
theorem k_X4_type_60 (post : PO) : lk (T_X4_type post) 60 = o_goto 36 := rfl
theorem k_X4_type_63 (post : PO) : lk (T_X4_type post) 63 = o_aload 0 64 := rfl
theorem k_X4_type_64 (post : PO) : lk (T_X4_type post) 64 = o_getf 4 0 67 := rfl
theorem k_X4_type_67 (post : PO) : lk (T_X4_type post) 67 = o_getf 3 1 70 := rfl
theorem k_X4_type_70 (post : PO) : lk (T_X4_type post) 70 = o_iret post := rfl
set_option maxRecDepth 100000 in
theorem t_X4_type {p : Program} {l : Launch} {e : Env} {s : State} {m : MethodId} {args : Array Value} {below : List Frame} {meth : Method} {c : Code} {D : va_G} {dA : Nat → ClassId} {ad : Nat → Nat} (post : PO) (C : CX p s m args meth c cX4_type 5 yX4_type.cls D dA ad (AA ad s.heap.size)) (hr : meth.sig.returnType = (some .int)) : SndL (WW p l e ({ frames := 1, cells := 0, slots := 0, locals := 21 } : Room) s m args below meth c 0 0 (MQ below (CQ D dA ad post (AA ad s.heap.size)) args s 0 0 (AA ad s.heap.size)) 5 D dA ad (AA ad s.heap.size)) (T_X4_type post) := by
  refine snd_c (s_iload_n C rfl dX4_type_0) ?_
  refine snd_c (s_iconst C dX4_type_1 rfl) ?_
  refine snd_c (s_icmp_lt C dX4_type_2 (by decide)) ?_
  refine snd_c (s_iload_n C rfl dX4_type_5) ?_
  refine snd_c (s_bipush C dX4_type_6 rfl) ?_
  refine snd_c (s_icmp_le C dX4_type_8 (by decide)) ?_
  refine snd_c (s_iconst C dX4_type_11 rfl) ?_
  refine snd_c (s_iret C hr dX4_type_12) ?_
  refine snd_c (s_aload_n C rfl dX4_type_13) ?_
  refine snd_c (s_getf C (ci := 4) (j := 0) (T := TX4) rfl inX4 (by decide) fl_RX4_10 dX4_type_14) ?_
  refine snd_c (s_getf C (ci := 3) (j := 1) (T := TX3) rfl inX3 (by decide) fl_RX4_51 dX4_type_17) ?_
  refine snd_c (s_iload_n C rfl dX4_type_20) ?_
  refine snd_c (s_iadd C dX4_type_21) ?_
  refine snd_c (s_sipush C dX4_type_22 rfl) ?_
  refine snd_c (s_icmp_le C dX4_type_25 (by decide)) ?_
  refine snd_c (s_bipush C dX4_type_28 rfl) ?_
  refine snd_c (s_iret C hr dX4_type_30) ?_
  refine snd_c (s_iload_n C rfl dX4_type_31) ?_
  refine snd_c (s_iconst C dX4_type_32 rfl) ?_
  refine snd_c (s_isub C dX4_type_33) ?_
  refine snd_c (s_istore C (by decide) dX4_type_34) ?_
  refine snd_c (s_iload C dX4_type_36) ?_
  refine snd_c (s_if_lt C dX4_type_38 (by decide)) ?_
  refine snd_c (s_aload_n C rfl dX4_type_41) ?_
  refine snd_c (s_getf C (ci := 4) (j := 0) (T := TX4) rfl inX4 (by decide) fl_RX4_10 dX4_type_42) ?_
  refine snd_c (s_lload_n C rfl dX4_type_45) ?_
  refine snd_c (s_bipush C dX4_type_46 rfl) ?_
  refine snd_c (s_iload C dX4_type_48) ?_
  refine snd_c (s_imul C dX4_type_50) ?_
  refine snd_c (s_lshr C dX4_type_51) ?_
  refine snd_c (s_l2i C dX4_type_52) ?_
  refine snd_c (s_i2b C dX4_type_53) ?_
  refine snd_c (s_callV C (ci := 3) c_X3_append rfl cw_RX4_55 ⟨rfl, rfl⟩ ⟨by decide +kernel, by decide +kernel, by decide +kernel⟩ ⟨by decide, by decide⟩ ⟨Nat.zero_le _, Nat.zero_le _⟩ dX4_type_54) ?_
  refine snd_c (s_iinc C (by decide) rfl dX4_type_57) ?_
  refine snd_c (s_goto C dX4_type_60 (by decide)) ?_
  refine snd_c (s_aload_n C rfl dX4_type_63) ?_
  refine snd_c (s_getf C (ci := 4) (j := 0) (T := TX4) rfl inX4 (by decide) fl_RX4_10 dX4_type_64) ?_
  refine snd_c (s_getf C (ci := 3) (j := 1) (T := TX3) rfl inX3 (by decide) fl_RX4_51 dX4_type_67) ?_
  refine snd_c (s_iret C hr dX4_type_70) ?_
  exact trivial
theorem dX4_clear_0 : decode cX4_clear 0 = .ok (.aload_n 0, 1) := by decide +kernel
theorem dX4_clear_1 : decode cX4_clear 1 = .ok (.getfield 10, 3) := by decide +kernel
theorem dX4_clear_4 : decode cX4_clear 4 = .ok (.getfield 51, 3) := by decide +kernel
theorem dX4_clear_7 : decode cX4_clear 7 = .ok (.istore_n 1, 1) := by decide +kernel
theorem dX4_clear_8 : decode cX4_clear 8 = .ok (.aload_n 0, 1) := by decide +kernel
theorem dX4_clear_9 : decode cX4_clear 9 = .ok (.getfield 10, 3) := by decide +kernel
theorem dX4_clear_12 : decode cX4_clear 12 = .ok (.iconst 0, 1) := by decide +kernel
theorem dX4_clear_13 : decode cX4_clear 13 = .ok (.putfield 51, 3) := by decide +kernel
theorem dX4_clear_16 : decode cX4_clear 16 = .ok (.iload_n 1, 1) := by decide +kernel
theorem dX4_clear_17 : decode cX4_clear 17 = .ok (.ireturn, 1) := by decide +kernel
def T_X4_clear (post : PO) : List (Nat × OP) := [(0, o_aload 0 1), (1, o_getf 4 0 4), (4, o_getf 3 1 7), (7, o_istore 1 8), (8, o_aload 0 9), (9, o_getf 4 0 12), (12, o_const 0 13), (13, o_putI 3 1 16), (16, o_iload 1 17), (17, o_iret post)]
theorem k_X4_clear_0 (post : PO) : lk (T_X4_clear post) 0 = o_aload 0 1 := rfl
theorem k_X4_clear_1 (post : PO) : lk (T_X4_clear post) 1 = o_getf 4 0 4 := rfl
theorem k_X4_clear_4 (post : PO) : lk (T_X4_clear post) 4 = o_getf 3 1 7 := rfl
theorem k_X4_clear_7 (post : PO) : lk (T_X4_clear post) 7 = o_istore 1 8 := rfl
theorem k_X4_clear_8 (post : PO) : lk (T_X4_clear post) 8 = o_aload 0 9 := rfl
theorem k_X4_clear_9 (post : PO) : lk (T_X4_clear post) 9 = o_getf 4 0 12 := rfl
theorem k_X4_clear_12 (post : PO) : lk (T_X4_clear post) 12 = o_const 0 13 := rfl
theorem k_X4_clear_13 (post : PO) : lk (T_X4_clear post) 13 = o_putI 3 1 16 := rfl
theorem k_X4_clear_16 (post : PO) : lk (T_X4_clear post) 16 = o_iload 1 17 := rfl
theorem k_X4_clear_17 (post : PO) : lk (T_X4_clear post) 17 = o_iret post := rfl
set_option maxRecDepth 100000 in
theorem t_X4_clear {p : Program} {l : Launch} {e : Env} {s : State} {m : MethodId} {args : Array Value} {below : List Frame} {meth : Method} {c : Code} {D : va_G} {dA : Nat → ClassId} {ad : Nat → Nat} (post : PO) (C : CX p s m args meth c cX4_clear 2 yX4_clear.cls D dA ad (AA ad s.heap.size)) (hr : meth.sig.returnType = (some .int)) : SndL (WW p l e ({ frames := 0, cells := 0, slots := 0, locals := 0 } : Room) s m args below meth c 0 0 (MQ below (CQ D dA ad post (AA ad s.heap.size)) args s 0 0 (AA ad s.heap.size)) 2 D dA ad (AA ad s.heap.size)) (T_X4_clear post) := by
  refine snd_c (s_aload_n C rfl dX4_clear_0) ?_
  refine snd_c (s_getf C (ci := 4) (j := 0) (T := TX4) rfl inX4 (by decide) fl_RX4_10 dX4_clear_1) ?_
  refine snd_c (s_getf C (ci := 3) (j := 1) (T := TX3) rfl inX3 (by decide) fl_RX4_51 dX4_clear_4) ?_
  refine snd_c (s_istore_n C rfl (by decide) dX4_clear_7) ?_
  refine snd_c (s_aload_n C rfl dX4_clear_8) ?_
  refine snd_c (s_getf C (ci := 4) (j := 0) (T := TX4) rfl inX4 (by decide) fl_RX4_10 dX4_clear_9) ?_
  refine snd_c (s_iconst C dX4_clear_12 rfl) ?_
  refine snd_c (s_putI C (ci := 3) (j := 1) (T := TX3) tyX3 tyX3_ok nmX3 rfl inX3 (by decide) rfl rfl fl_RX4_51 dX4_clear_13) ?_
  refine snd_c (s_iload_n C rfl dX4_clear_16) ?_
  refine snd_c (s_iret C hr dX4_clear_17) ?_
  exact trivial
theorem fl_RX4_23 : Cond.fieldLink RX4 23 (TX4 2).1 (TX4 2).2.1 (TX4 2).2.2.1 ∈ tb := tb_of 187 (by decide +kernel) (by decide +kernel)
theorem cw_RX4_59 : ∀ w ∈ ([.methodLink RX4 59 yX0_hear, .instanceMethod yX0_hear, .selects yX0_hear.cls yX0_hear yX0_hear, .initialized yX0_hear.cls, .code yX0_hear cX0_hear 4 (some .int)] : List Cond), w ∈ tb := tb_all [230, 231, 232, 56, 233] (by decide +kernel) (by decide +kernel)
theorem cw_RX4_63 : ∀ w ∈ ([.methodLink RX4 63 yX0_copyOf, .instanceMethod yX0_copyOf, .selects yX0_copyOf.cls yX0_copyOf yX0_copyOf, .initialized yX0_copyOf.cls, .code yX0_copyOf cX0_copyOf 3 none] : List Cond), w ∈ tb := tb_all [365, 366, 367, 56, 368] (by decide +kernel) (by decide +kernel)
theorem fl_RX4_67 : Cond.fieldLink RX4 67 (TX1 8).1 (TX1 8).2.1 (TX1 8).2.2.1 ∈ tb := tb_of 129 (by decide +kernel) (by decide +kernel)
theorem dX4_house_0 : decode cX4_house 0 = .ok (.aload_n 0, 1) := by decide +kernel
theorem dX4_house_1 : decode cX4_house 1 = .ok (.getfield 23, 3) := by decide +kernel
theorem dX4_house_4 : decode cX4_house 4 = .ok (.aload_n 0, 1) := by decide +kernel
theorem dX4_house_5 : decode cX4_house 5 = .ok (.getfield 10, 3) := by decide +kernel
theorem dX4_house_8 : decode cX4_house 8 = .ok (.invokevirtual 59, 3) := by decide +kernel
theorem dX4_house_11 : decode cX4_house 11 = .ok (.istore_n 1, 1) := by decide +kernel
theorem dX4_house_12 : decode cX4_house 12 = .ok (.iload_n 1, 1) := by decide +kernel
theorem dX4_house_13 : decode cX4_house 13 = .ok (.ifCond .ge 5, 3) := by decide +kernel
theorem dX4_house_16 : decode cX4_house 16 = .ok (.iload_n 1, 1) := by decide +kernel
theorem dX4_house_17 : decode cX4_house 17 = .ok (.ireturn, 1) := by decide +kernel
theorem dX4_house_18 : decode cX4_house 18 = .ok (.aload_n 0, 1) := by decide +kernel
theorem dX4_house_19 : decode cX4_house 19 = .ok (.getfield 19, 3) := by decide +kernel
theorem dX4_house_22 : decode cX4_house 22 = .ok (.aload_n 0, 1) := by decide +kernel
theorem dX4_house_23 : decode cX4_house 23 = .ok (.getfield 23, 3) := by decide +kernel
theorem dX4_house_26 : decode cX4_house 26 = .ok (.invokevirtual 63, 3) := by decide +kernel
theorem dX4_house_29 : decode cX4_house 29 = .ok (.aload_n 0, 1) := by decide +kernel
theorem dX4_house_30 : decode cX4_house 30 = .ok (.getfield 29, 3) := by decide +kernel
theorem dX4_house_33 : decode cX4_house 33 = .ok (.iconst 0, 1) := by decide +kernel
theorem dX4_house_34 : decode cX4_house 34 = .ok (.putfield 67, 3) := by decide +kernel
theorem dX4_house_37 : decode cX4_house 37 = .ok (.aload_n 0, 1) := by decide +kernel
theorem dX4_house_38 : decode cX4_house 38 = .ok (.getfield 33, 3) := by decide +kernel
theorem dX4_house_41 : decode cX4_house 41 = .ok (.iconst 0, 1) := by decide +kernel
theorem dX4_house_42 : decode cX4_house 42 = .ok (.putfield 67, 3) := by decide +kernel
theorem dX4_house_45 : decode cX4_house 45 = .ok (.aload_n 0, 1) := by decide +kernel
theorem dX4_house_46 : decode cX4_house 46 = .ok (.getfield 10, 3) := by decide +kernel
theorem dX4_house_49 : decode cX4_house 49 = .ok (.iconst 0, 1) := by decide +kernel
theorem dX4_house_50 : decode cX4_house 50 = .ok (.putfield 51, 3) := by decide +kernel
theorem dX4_house_53 : decode cX4_house 53 = .ok (.iload_n 1, 1) := by decide +kernel
theorem dX4_house_54 : decode cX4_house 54 = .ok (.ireturn, 1) := by decide +kernel
def T_X4_house (post : PO) : List (Nat × OP) := [(0, o_aload 0 1), (1, o_getf 4 2 4), (4, o_aload 0 5), (5, o_getf 4 0 8), (8, o_callV 0 S_X0_hear 1 11), (11, o_istore 1 12), (12, o_iload 1 13), (13, o_if (fun x => 0 ≤ x) 18 16), (16, o_iload 1 17), (17, o_iret post), (18, o_aload 0 19), (19, o_getf 4 1 22), (22, o_aload 0 23), (23, o_getf 4 2 26), (26, o_callV 0 S_X0_copyOf 1 29), (29, o_aload 0 30), (30, o_getf 4 3 33), (33, o_const 0 34), (34, o_putZ 1 8 37), (37, o_aload 0 38), (38, o_getf 4 4 41), (41, o_const 0 42), (42, o_putZ 1 8 45), (45, o_aload 0 46), (46, o_getf 4 0 49), (49, o_const 0 50), (50, o_putI 3 1 53), (53, o_iload 1 54), (54, o_iret post)]
theorem k_X4_house_0 (post : PO) : lk (T_X4_house post) 0 = o_aload 0 1 := rfl
theorem k_X4_house_1 (post : PO) : lk (T_X4_house post) 1 = o_getf 4 2 4 := rfl
theorem k_X4_house_4 (post : PO) : lk (T_X4_house post) 4 = o_aload 0 5 := rfl
theorem k_X4_house_5 (post : PO) : lk (T_X4_house post) 5 = o_getf 4 0 8 := rfl
theorem k_X4_house_8 (post : PO) : lk (T_X4_house post) 8 = o_callV 0 S_X0_hear 1 11 := rfl
theorem k_X4_house_11 (post : PO) : lk (T_X4_house post) 11 = o_istore 1 12 := rfl
theorem k_X4_house_12 (post : PO) : lk (T_X4_house post) 12 = o_iload 1 13 := rfl
theorem k_X4_house_13 (post : PO) : lk (T_X4_house post) 13 = o_if (fun x => 0 ≤ x) 18 16 := rfl
theorem k_X4_house_16 (post : PO) : lk (T_X4_house post) 16 = o_iload 1 17 := rfl
theorem k_X4_house_17 (post : PO) : lk (T_X4_house post) 17 = o_iret post := rfl
theorem k_X4_house_18 (post : PO) : lk (T_X4_house post) 18 = o_aload 0 19 := rfl
theorem k_X4_house_19 (post : PO) : lk (T_X4_house post) 19 = o_getf 4 1 22 := rfl
theorem k_X4_house_22 (post : PO) : lk (T_X4_house post) 22 = o_aload 0 23 := rfl
theorem k_X4_house_23 (post : PO) : lk (T_X4_house post) 23 = o_getf 4 2 26 := rfl
theorem k_X4_house_26 (post : PO) : lk (T_X4_house post) 26 = o_callV 0 S_X0_copyOf 1 29 := rfl
theorem k_X4_house_29 (post : PO) : lk (T_X4_house post) 29 = o_aload 0 30 := rfl
theorem k_X4_house_30 (post : PO) : lk (T_X4_house post) 30 = o_getf 4 3 33 := rfl
theorem k_X4_house_33 (post : PO) : lk (T_X4_house post) 33 = o_const 0 34 := rfl
theorem k_X4_house_34 (post : PO) : lk (T_X4_house post) 34 = o_putZ 1 8 37 := rfl
theorem k_X4_house_37 (post : PO) : lk (T_X4_house post) 37 = o_aload 0 38 := rfl
theorem k_X4_house_38 (post : PO) : lk (T_X4_house post) 38 = o_getf 4 4 41 := rfl
theorem k_X4_house_41 (post : PO) : lk (T_X4_house post) 41 = o_const 0 42 := rfl
theorem k_X4_house_42 (post : PO) : lk (T_X4_house post) 42 = o_putZ 1 8 45 := rfl
theorem k_X4_house_45 (post : PO) : lk (T_X4_house post) 45 = o_aload 0 46 := rfl
theorem k_X4_house_46 (post : PO) : lk (T_X4_house post) 46 = o_getf 4 0 49 := rfl
theorem k_X4_house_49 (post : PO) : lk (T_X4_house post) 49 = o_const 0 50 := rfl
theorem k_X4_house_50 (post : PO) : lk (T_X4_house post) 50 = o_putI 3 1 53 := rfl
theorem k_X4_house_53 (post : PO) : lk (T_X4_house post) 53 = o_iload 1 54 := rfl
theorem k_X4_house_54 (post : PO) : lk (T_X4_house post) 54 = o_iret post := rfl
set_option maxRecDepth 100000 in
theorem t_X4_house {p : Program} {l : Launch} {e : Env} {s : State} {m : MethodId} {args : Array Value} {below : List Frame} {meth : Method} {c : Code} {D : va_G} {dA : Nat → ClassId} {ad : Nat → Nat} (post : PO) (C : CX p s m args meth c cX4_house 2 yX4_house.cls D dA ad (AA ad s.heap.size)) (hr : meth.sig.returnType = (some .int)) : SndL (WW p l e ({ frames := 9, cells := 0, slots := 0, locals := 191 } : Room) s m args below meth c 0 0 (MQ below (CQ D dA ad post (AA ad s.heap.size)) args s 0 0 (AA ad s.heap.size)) 2 D dA ad (AA ad s.heap.size)) (T_X4_house post) := by
  refine snd_c (s_aload_n C rfl dX4_house_0) ?_
  refine snd_c (s_getf C (ci := 4) (j := 2) (T := TX4) rfl inX4 (by decide) fl_RX4_23 dX4_house_1) ?_
  refine snd_c (s_aload_n C rfl dX4_house_4) ?_
  refine snd_c (s_getf C (ci := 4) (j := 0) (T := TX4) rfl inX4 (by decide) fl_RX4_10 dX4_house_5) ?_
  refine snd_c (s_callV C (ci := 0) c_X0_hear rfl cw_RX4_59 ⟨rfl, rfl⟩ ⟨by decide +kernel, by decide +kernel, by decide +kernel⟩ ⟨by decide, by decide⟩ ⟨Nat.zero_le _, Nat.zero_le _⟩ dX4_house_8) ?_
  refine snd_c (s_istore_n C rfl (by decide) dX4_house_11) ?_
  refine snd_c (s_iload_n C rfl dX4_house_12) ?_
  refine snd_c (s_if_ge C dX4_house_13 (by decide)) ?_
  refine snd_c (s_iload_n C rfl dX4_house_16) ?_
  refine snd_c (s_iret C hr dX4_house_17) ?_
  refine snd_c (s_aload_n C rfl dX4_house_18) ?_
  refine snd_c (s_getf C (ci := 4) (j := 1) (T := TX4) rfl inX4 (by decide) fl_RX4_19 dX4_house_19) ?_
  refine snd_c (s_aload_n C rfl dX4_house_22) ?_
  refine snd_c (s_getf C (ci := 4) (j := 2) (T := TX4) rfl inX4 (by decide) fl_RX4_23 dX4_house_23) ?_
  refine snd_c (s_callV C (ci := 0) c_X0_copyOf rfl cw_RX4_63 ⟨rfl, rfl⟩ ⟨by decide +kernel, by decide +kernel, by decide +kernel⟩ ⟨by decide, by decide⟩ ⟨Nat.zero_le _, Nat.zero_le _⟩ dX4_house_26) ?_
  refine snd_c (s_aload_n C rfl dX4_house_29) ?_
  refine snd_c (s_getf C (ci := 4) (j := 3) (T := TX4) rfl inX4 (by decide) fl_RX4_29 dX4_house_30) ?_
  refine snd_c (s_iconst C dX4_house_33 rfl) ?_
  refine snd_c (s_putZ C (ci := 1) (j := 8) (T := TX1) tyX1 tyX1_ok nmX1 rfl inX1 (by decide) rfl rfl fl_RX4_67 dX4_house_34) ?_
  refine snd_c (s_aload_n C rfl dX4_house_37) ?_
  refine snd_c (s_getf C (ci := 4) (j := 4) (T := TX4) rfl inX4 (by decide) fl_RX4_33 dX4_house_38) ?_
  refine snd_c (s_iconst C dX4_house_41 rfl) ?_
  refine snd_c (s_putZ C (ci := 1) (j := 8) (T := TX1) tyX1 tyX1_ok nmX1 rfl inX1 (by decide) rfl rfl fl_RX4_67 dX4_house_42) ?_
  refine snd_c (s_aload_n C rfl dX4_house_45) ?_
  refine snd_c (s_getf C (ci := 4) (j := 0) (T := TX4) rfl inX4 (by decide) fl_RX4_10 dX4_house_46) ?_
  refine snd_c (s_iconst C dX4_house_49 rfl) ?_
  refine snd_c (s_putI C (ci := 3) (j := 1) (T := TX3) tyX3 tyX3_ok nmX3 rfl inX3 (by decide) rfl rfl fl_RX4_51 dX4_house_50) ?_
  refine snd_c (s_iload_n C rfl dX4_house_53) ?_
  refine snd_c (s_iret C hr dX4_house_54) ?_
  exact trivial
theorem cw_RX4_74 : ∀ w ∈ ([.methodLink RX4 74 yX1_has, .instanceMethod yX1_has, .selects yX1_has.cls yX1_has yX1_has, .initialized yX1_has.cls, .code yX1_has cX1_has 2 (some .boolean)] : List Cond), w ∈ tb := tb_all [381, 361, 362, 57, 363] (by decide +kernel) (by decide +kernel)
theorem cw_RX4_78 : ∀ w ∈ ([.methodLink RX4 78 yX4_isEither, .static yX4_isEither, .initialized yX4_isEither.cls, .code yX4_isEither cX4_isEither 1 (some .boolean)] : List Cond), w ∈ tb := tb_all [382, 383, 54, 384] (by decide +kernel) (by decide +kernel)
theorem fl_RX4_84 : Cond.fieldLink RX4 84 (TX1 1).1 (TX1 1).2.1 (TX1 1).2.2.1 ∈ tb := tb_of 118 (by decide +kernel) (by decide +kernel)
theorem dX4_key_0 : decode cX4_key 0 = .ok (.aload_n 0, 1) := by decide +kernel
theorem dX4_key_1 : decode cX4_key 1 = .ok (.getfield 19, 3) := by decide +kernel
theorem dX4_key_4 : decode cX4_key 4 = .ok (.getfield 71, 3) := by decide +kernel
theorem dX4_key_7 : decode cX4_key 7 = .ok (.iload_n 1, 1) := by decide +kernel
theorem dX4_key_8 : decode cX4_key 8 = .ok (.invokevirtual 74, 3) := by decide +kernel
theorem dX4_key_11 : decode cX4_key 11 = .ok (.ifCond .eq 10, 3) := by decide +kernel
theorem dX4_key_14 : decode cX4_key 14 = .ok (.iload_n 2, 1) := by decide +kernel
theorem dX4_key_15 : decode cX4_key 15 = .ok (.invokestatic 78, 3) := by decide +kernel
theorem dX4_key_18 : decode cX4_key 18 = .ok (.ifCond .ne 5, 3) := by decide +kernel
theorem dX4_key_21 : decode cX4_key 21 = .ok (.iconst (-1), 1) := by decide +kernel
theorem dX4_key_22 : decode cX4_key 22 = .ok (.ireturn, 1) := by decide +kernel
theorem dX4_key_23 : decode cX4_key 23 = .ok (.iload_n 2, 1) := by decide +kernel
theorem dX4_key_24 : decode cX4_key 24 = .ok (.ifCond .ne 18, 3) := by decide +kernel
theorem dX4_key_27 : decode cX4_key 27 = .ok (.aload_n 0, 1) := by decide +kernel
theorem dX4_key_28 : decode cX4_key 28 = .ok (.getfield 19, 3) := by decide +kernel
theorem dX4_key_31 : decode cX4_key 31 = .ok (.getfield 71, 3) := by decide +kernel
theorem dX4_key_34 : decode cX4_key 34 = .ok (.getfield 81, 3) := by decide +kernel
theorem dX4_key_37 : decode cX4_key 37 = .ok (.iload_n 1, 1) := by decide +kernel
theorem dX4_key_38 : decode cX4_key 38 = .ok (.iaload, 1) := by decide +kernel
theorem dX4_key_39 : decode cX4_key 39 = .ok (.goto 15, 3) := by decide +kernel
theorem dX4_key_42 : decode cX4_key 42 = .ok (.aload_n 0, 1) := by decide +kernel
theorem dX4_key_43 : decode cX4_key 43 = .ok (.getfield 19, 3) := by decide +kernel
theorem dX4_key_46 : decode cX4_key 46 = .ok (.getfield 71, 3) := by decide +kernel
theorem dX4_key_49 : decode cX4_key 49 = .ok (.getfield 84, 3) := by decide +kernel
theorem dX4_key_52 : decode cX4_key 52 = .ok (.iload_n 1, 1) := by decide +kernel
theorem dX4_key_53 : decode cX4_key 53 = .ok (.iaload, 1) := by decide +kernel
theorem dX4_key_54 : decode cX4_key 54 = .ok (.ireturn, 1) := by decide +kernel
def T_X4_key (post : PO) : List (Nat × OP) := [(0, o_aload 0 1), (1, o_getf 4 1 4), (4, o_getf 0 0 7), (7, o_iload 1 8), (8, o_callV 1 S_X1_has 1 11), (11, o_if (fun x => x = 0) 21 14), (14, o_iload 2 15), (15, o_callS S_X4_isEither 1 18), (18, o_if (fun x => x = 0) 21 23), (21, o_const (-1) 22), (22, o_iret post), (23, o_iload 2 24), (24, o_if (fun x => x = 0) 27 42), (27, o_aload 0 28), (28, o_getf 4 1 31), (31, o_getf 0 0 34), (34, o_getf 1 0 37), (37, o_iload 1 38), (38, o_ald 0 39), (39, o_goto 54), (42, o_aload 0 43), (43, o_getf 4 1 46), (46, o_getf 0 0 49), (49, o_getf 1 1 52), (52, o_iload 1 53), (53, o_ald 0 54), (54, o_iret post)]
theorem k_X4_key_0 (post : PO) : lk (T_X4_key post) 0 = o_aload 0 1 := rfl
theorem k_X4_key_1 (post : PO) : lk (T_X4_key post) 1 = o_getf 4 1 4 := rfl
theorem k_X4_key_4 (post : PO) : lk (T_X4_key post) 4 = o_getf 0 0 7 := rfl
theorem k_X4_key_7 (post : PO) : lk (T_X4_key post) 7 = o_iload 1 8 := rfl
theorem k_X4_key_8 (post : PO) : lk (T_X4_key post) 8 = o_callV 1 S_X1_has 1 11 := rfl
theorem k_X4_key_11 (post : PO) : lk (T_X4_key post) 11 = o_if (fun x => x = 0) 21 14 := rfl
theorem k_X4_key_14 (post : PO) : lk (T_X4_key post) 14 = o_iload 2 15 := rfl
theorem k_X4_key_15 (post : PO) : lk (T_X4_key post) 15 = o_callS S_X4_isEither 1 18 := rfl
theorem k_X4_key_18 (post : PO) : lk (T_X4_key post) 18 = o_if (fun x => x = 0) 21 23 := rfl
theorem k_X4_key_21 (post : PO) : lk (T_X4_key post) 21 = o_const (-1) 22 := rfl
theorem k_X4_key_22 (post : PO) : lk (T_X4_key post) 22 = o_iret post := rfl
theorem k_X4_key_23 (post : PO) : lk (T_X4_key post) 23 = o_iload 2 24 := rfl
theorem k_X4_key_24 (post : PO) : lk (T_X4_key post) 24 = o_if (fun x => x = 0) 27 42 := rfl
theorem k_X4_key_27 (post : PO) : lk (T_X4_key post) 27 = o_aload 0 28 := rfl
theorem k_X4_key_28 (post : PO) : lk (T_X4_key post) 28 = o_getf 4 1 31 := rfl
theorem k_X4_key_31 (post : PO) : lk (T_X4_key post) 31 = o_getf 0 0 34 := rfl
theorem k_X4_key_34 (post : PO) : lk (T_X4_key post) 34 = o_getf 1 0 37 := rfl
theorem k_X4_key_37 (post : PO) : lk (T_X4_key post) 37 = o_iload 1 38 := rfl
theorem k_X4_key_38 (post : PO) : lk (T_X4_key post) 38 = o_ald 0 39 := rfl
theorem k_X4_key_39 (post : PO) : lk (T_X4_key post) 39 = o_goto 54 := rfl
theorem k_X4_key_42 (post : PO) : lk (T_X4_key post) 42 = o_aload 0 43 := rfl
theorem k_X4_key_43 (post : PO) : lk (T_X4_key post) 43 = o_getf 4 1 46 := rfl
theorem k_X4_key_46 (post : PO) : lk (T_X4_key post) 46 = o_getf 0 0 49 := rfl
theorem k_X4_key_49 (post : PO) : lk (T_X4_key post) 49 = o_getf 1 1 52 := rfl
theorem k_X4_key_52 (post : PO) : lk (T_X4_key post) 52 = o_iload 1 53 := rfl
theorem k_X4_key_53 (post : PO) : lk (T_X4_key post) 53 = o_ald 0 54 := rfl
theorem k_X4_key_54 (post : PO) : lk (T_X4_key post) 54 = o_iret post := rfl
set_option maxRecDepth 100000 in
theorem t_X4_key {p : Program} {l : Launch} {e : Env} {s : State} {m : MethodId} {args : Array Value} {below : List Frame} {meth : Method} {c : Code} {D : va_G} {dA : Nat → ClassId} {ad : Nat → Nat} (post : PO) (C : CX p s m args meth c cX4_key 3 yX4_key.cls D dA ad (AA ad s.heap.size)) (hr : meth.sig.returnType = (some .int)) : SndL (WW p l e ({ frames := 1, cells := 0, slots := 0, locals := 21 } : Room) s m args below meth c 0 0 (MQ below (CQ D dA ad post (AA ad s.heap.size)) args s 0 0 (AA ad s.heap.size)) 3 D dA ad (AA ad s.heap.size)) (T_X4_key post) := by
  refine snd_c (s_aload_n C rfl dX4_key_0) ?_
  refine snd_c (s_getf C (ci := 4) (j := 1) (T := TX4) rfl inX4 (by decide) fl_RX4_19 dX4_key_1) ?_
  refine snd_c (s_getf C (ci := 0) (j := 0) (T := TX0) rfl inX0 (by decide) fl_RX4_71 dX4_key_4) ?_
  refine snd_c (s_iload_n C rfl dX4_key_7) ?_
  refine snd_c (s_callV C (ci := 1) c_X1_has rfl cw_RX4_74 ⟨rfl, rfl⟩ ⟨by decide +kernel, by decide +kernel, by decide +kernel⟩ ⟨by decide, by decide⟩ ⟨Nat.zero_le _, Nat.zero_le _⟩ dX4_key_8) ?_
  refine snd_c (s_if_eq C dX4_key_11 (by decide)) ?_
  refine snd_c (s_iload_n C rfl dX4_key_14) ?_
  refine snd_c (s_callS C c_X4_isEither cw_RX4_78 ⟨rfl, rfl⟩ ⟨by decide +kernel, by decide +kernel, by decide +kernel⟩ ⟨by decide, by decide⟩ ⟨Nat.zero_le _, Nat.zero_le _⟩ dX4_key_15) ?_
  refine snd_c (s_if_ne C dX4_key_18 (by decide)) ?_
  refine snd_c (s_iconst C dX4_key_21 rfl) ?_
  refine snd_c (s_iret C hr dX4_key_22) ?_
  refine snd_c (s_iload_n C rfl dX4_key_23) ?_
  refine snd_c (s_if_ne C dX4_key_24 (by decide)) ?_
  refine snd_c (s_aload_n C rfl dX4_key_27) ?_
  refine snd_c (s_getf C (ci := 4) (j := 1) (T := TX4) rfl inX4 (by decide) fl_RX4_19 dX4_key_28) ?_
  refine snd_c (s_getf C (ci := 0) (j := 0) (T := TX0) rfl inX0 (by decide) fl_RX4_71 dX4_key_31) ?_
  refine snd_c (s_getf C (ci := 1) (j := 0) (T := TX1) rfl inX1 (by decide) fl_RX4_81 dX4_key_34) ?_
  refine snd_c (s_iload_n C rfl dX4_key_37) ?_
  refine snd_c (s_iald C dX4_key_38) ?_
  refine snd_c (s_goto C dX4_key_39 (by decide)) ?_
  refine snd_c (s_aload_n C rfl dX4_key_42) ?_
  refine snd_c (s_getf C (ci := 4) (j := 1) (T := TX4) rfl inX4 (by decide) fl_RX4_19 dX4_key_43) ?_
  refine snd_c (s_getf C (ci := 0) (j := 0) (T := TX0) rfl inX0 (by decide) fl_RX4_71 dX4_key_46) ?_
  refine snd_c (s_getf C (ci := 1) (j := 1) (T := TX1) rfl inX1 (by decide) fl_RX4_84 dX4_key_49) ?_
  refine snd_c (s_iload_n C rfl dX4_key_52) ?_
  refine snd_c (s_iald C dX4_key_53) ?_
  refine snd_c (s_iret C hr dX4_key_54) ?_
  exact trivial
theorem cw_RX4_87 : ∀ w ∈ ([.methodLink RX4 87 yX0_hasLock, .instanceMethod yX0_hasLock, .selects yX0_hasLock.cls yX0_hasLock yX0_hasLock, .initialized yX0_hasLock.cls, .code yX0_hasLock cX0_hasLock 2 (some .boolean)] : List Cond), w ∈ tb := tb_all [389, 390, 391, 56, 392] (by decide +kernel) (by decide +kernel)
theorem dX4_lock_0 : decode cX4_lock 0 = .ok (.aload_n 0, 1) := by decide +kernel
theorem dX4_lock_1 : decode cX4_lock 1 = .ok (.getfield 19, 3) := by decide +kernel
theorem dX4_lock_4 : decode cX4_lock 4 = .ok (.iload_n 1, 1) := by decide +kernel
theorem dX4_lock_5 : decode cX4_lock 5 = .ok (.invokevirtual 87, 3) := by decide +kernel
theorem dX4_lock_8 : decode cX4_lock 8 = .ok (.ifCond .eq 15, 3) := by decide +kernel
theorem dX4_lock_11 : decode cX4_lock 11 = .ok (.aload_n 0, 1) := by decide +kernel
theorem dX4_lock_12 : decode cX4_lock 12 = .ok (.getfield 19, 3) := by decide +kernel
theorem dX4_lock_15 : decode cX4_lock 15 = .ok (.getfield 90, 3) := by decide +kernel
theorem dX4_lock_18 : decode cX4_lock 18 = .ok (.iload_n 1, 1) := by decide +kernel
theorem dX4_lock_19 : decode cX4_lock 19 = .ok (.iaload, 1) := by decide +kernel
theorem dX4_lock_20 : decode cX4_lock 20 = .ok (.goto 4, 3) := by decide +kernel
theorem dX4_lock_23 : decode cX4_lock 23 = .ok (.iconst (-1), 1) := by decide +kernel
theorem dX4_lock_24 : decode cX4_lock 24 = .ok (.ireturn, 1) := by decide +kernel
def T_X4_lock (post : PO) : List (Nat × OP) := [(0, o_aload 0 1), (1, o_getf 4 1 4), (4, o_iload 1 5), (5, o_callV 0 S_X0_hasLock 1 8), (8, o_if (fun x => x = 0) 23 11), (11, o_aload 0 12), (12, o_getf 4 1 15), (15, o_getf 0 1 18), (18, o_iload 1 19), (19, o_ald 0 20), (20, o_goto 24), (23, o_const (-1) 24), (24, o_iret post)]
theorem k_X4_lock_0 (post : PO) : lk (T_X4_lock post) 0 = o_aload 0 1 := rfl
theorem k_X4_lock_1 (post : PO) : lk (T_X4_lock post) 1 = o_getf 4 1 4 := rfl
theorem k_X4_lock_4 (post : PO) : lk (T_X4_lock post) 4 = o_iload 1 5 := rfl
theorem k_X4_lock_5 (post : PO) : lk (T_X4_lock post) 5 = o_callV 0 S_X0_hasLock 1 8 := rfl
theorem k_X4_lock_8 (post : PO) : lk (T_X4_lock post) 8 = o_if (fun x => x = 0) 23 11 := rfl
theorem k_X4_lock_11 (post : PO) : lk (T_X4_lock post) 11 = o_aload 0 12 := rfl
theorem k_X4_lock_12 (post : PO) : lk (T_X4_lock post) 12 = o_getf 4 1 15 := rfl
theorem k_X4_lock_15 (post : PO) : lk (T_X4_lock post) 15 = o_getf 0 1 18 := rfl
theorem k_X4_lock_18 (post : PO) : lk (T_X4_lock post) 18 = o_iload 1 19 := rfl
theorem k_X4_lock_19 (post : PO) : lk (T_X4_lock post) 19 = o_ald 0 20 := rfl
theorem k_X4_lock_20 (post : PO) : lk (T_X4_lock post) 20 = o_goto 24 := rfl
theorem k_X4_lock_23 (post : PO) : lk (T_X4_lock post) 23 = o_const (-1) 24 := rfl
theorem k_X4_lock_24 (post : PO) : lk (T_X4_lock post) 24 = o_iret post := rfl
set_option maxRecDepth 100000 in
theorem t_X4_lock {p : Program} {l : Launch} {e : Env} {s : State} {m : MethodId} {args : Array Value} {below : List Frame} {meth : Method} {c : Code} {D : va_G} {dA : Nat → ClassId} {ad : Nat → Nat} (post : PO) (C : CX p s m args meth c cX4_lock 2 yX4_lock.cls D dA ad (AA ad s.heap.size)) (hr : meth.sig.returnType = (some .int)) : SndL (WW p l e ({ frames := 1, cells := 0, slots := 0, locals := 21 } : Room) s m args below meth c 0 0 (MQ below (CQ D dA ad post (AA ad s.heap.size)) args s 0 0 (AA ad s.heap.size)) 2 D dA ad (AA ad s.heap.size)) (T_X4_lock post) := by
  refine snd_c (s_aload_n C rfl dX4_lock_0) ?_
  refine snd_c (s_getf C (ci := 4) (j := 1) (T := TX4) rfl inX4 (by decide) fl_RX4_19 dX4_lock_1) ?_
  refine snd_c (s_iload_n C rfl dX4_lock_4) ?_
  refine snd_c (s_callV C (ci := 0) c_X0_hasLock rfl cw_RX4_87 ⟨rfl, rfl⟩ ⟨by decide +kernel, by decide +kernel, by decide +kernel⟩ ⟨by decide, by decide⟩ ⟨Nat.zero_le _, Nat.zero_le _⟩ dX4_lock_5) ?_
  refine snd_c (s_if_eq C dX4_lock_8 (by decide)) ?_
  refine snd_c (s_aload_n C rfl dX4_lock_11) ?_
  refine snd_c (s_getf C (ci := 4) (j := 1) (T := TX4) rfl inX4 (by decide) fl_RX4_19 dX4_lock_12) ?_
  refine snd_c (s_getf C (ci := 0) (j := 1) (T := TX0) rfl inX0 (by decide) fl_RX4_90 dX4_lock_15) ?_
  refine snd_c (s_iload_n C rfl dX4_lock_18) ?_
  refine snd_c (s_iald C dX4_lock_19) ?_
  refine snd_c (s_goto C dX4_lock_20 (by decide)) ?_
  refine snd_c (s_iconst C dX4_lock_23 rfl) ?_
  refine snd_c (s_iret C hr dX4_lock_24) ?_
  exact trivial
theorem cw_RX4_97 : ∀ w ∈ ([.methodLink RX4 97 yX4_within, .static yX4_within, .initialized yX4_within.cls, .code yX4_within cX4_within 2 (some .boolean)] : List Cond), w ∈ tb := tb_all [405, 406, 54, 407] (by decide +kernel) (by decide +kernel)
theorem cw_RX4_101 : ∀ w ∈ ([.methodLink RX4 101 yX1_madeBy, .instanceMethod yX1_madeBy, .selects yX1_madeBy.cls yX1_madeBy yX1_madeBy, .initialized yX1_madeBy.cls, .code yX1_madeBy cX1_madeBy 4 (some .int)] : List Cond), w ∈ tb := tb_all [408, 409, 410, 57, 411] (by decide +kernel) (by decide +kernel)
theorem dX4_laid_0 : decode cX4_laid 0 = .ok (.iload_n 1, 1) := by decide +kernel
theorem dX4_laid_1 : decode cX4_laid 1 = .ok (.aload_n 0, 1) := by decide +kernel
theorem dX4_laid_2 : decode cX4_laid 2 = .ok (.getfield 19, 3) := by decide +kernel
theorem dX4_laid_5 : decode cX4_laid 5 = .ok (.getfield 71, 3) := by decide +kernel
theorem dX4_laid_8 : decode cX4_laid 8 = .ok (.invokevirtual 93, 3) := by decide +kernel
theorem dX4_laid_11 : decode cX4_laid 11 = .ok (.invokestatic 97, 3) := by decide +kernel
theorem dX4_laid_14 : decode cX4_laid 14 = .ok (.ifCond .eq 17, 3) := by decide +kernel
theorem dX4_laid_17 : decode cX4_laid 17 = .ok (.aload_n 0, 1) := by decide +kernel
theorem dX4_laid_18 : decode cX4_laid 18 = .ok (.getfield 19, 3) := by decide +kernel
theorem dX4_laid_21 : decode cX4_laid 21 = .ok (.getfield 71, 3) := by decide +kernel
theorem dX4_laid_24 : decode cX4_laid 24 = .ok (.iload_n 1, 1) := by decide +kernel
theorem dX4_laid_25 : decode cX4_laid 25 = .ok (.invokevirtual 101, 3) := by decide +kernel
theorem dX4_laid_28 : decode cX4_laid 28 = .ok (.goto 4, 3) := by decide +kernel
theorem dX4_laid_31 : decode cX4_laid 31 = .ok (.iconst (-1), 1) := by decide +kernel
theorem dX4_laid_32 : decode cX4_laid 32 = .ok (.ireturn, 1) := by decide +kernel
def T_X4_laid (post : PO) : List (Nat × OP) := [(0, o_iload 1 1), (1, o_aload 0 2), (2, o_getf 4 1 5), (5, o_getf 0 0 8), (8, o_callV 1 S_X1_usable 0 11), (11, o_callS S_X4_within 2 14), (14, o_if (fun x => x = 0) 31 17), (17, o_aload 0 18), (18, o_getf 4 1 21), (21, o_getf 0 0 24), (24, o_iload 1 25), (25, o_callV 1 S_X1_madeBy 1 28), (28, o_goto 32), (31, o_const (-1) 32), (32, o_iret post)]
theorem k_X4_laid_0 (post : PO) : lk (T_X4_laid post) 0 = o_iload 1 1 := rfl
theorem k_X4_laid_1 (post : PO) : lk (T_X4_laid post) 1 = o_aload 0 2 := rfl
theorem k_X4_laid_2 (post : PO) : lk (T_X4_laid post) 2 = o_getf 4 1 5 := rfl
theorem k_X4_laid_5 (post : PO) : lk (T_X4_laid post) 5 = o_getf 0 0 8 := rfl
theorem k_X4_laid_8 (post : PO) : lk (T_X4_laid post) 8 = o_callV 1 S_X1_usable 0 11 := rfl
theorem k_X4_laid_11 (post : PO) : lk (T_X4_laid post) 11 = o_callS S_X4_within 2 14 := rfl
theorem k_X4_laid_14 (post : PO) : lk (T_X4_laid post) 14 = o_if (fun x => x = 0) 31 17 := rfl
theorem k_X4_laid_17 (post : PO) : lk (T_X4_laid post) 17 = o_aload 0 18 := rfl
theorem k_X4_laid_18 (post : PO) : lk (T_X4_laid post) 18 = o_getf 4 1 21 := rfl
theorem k_X4_laid_21 (post : PO) : lk (T_X4_laid post) 21 = o_getf 0 0 24 := rfl
theorem k_X4_laid_24 (post : PO) : lk (T_X4_laid post) 24 = o_iload 1 25 := rfl
theorem k_X4_laid_25 (post : PO) : lk (T_X4_laid post) 25 = o_callV 1 S_X1_madeBy 1 28 := rfl
theorem k_X4_laid_28 (post : PO) : lk (T_X4_laid post) 28 = o_goto 32 := rfl
theorem k_X4_laid_31 (post : PO) : lk (T_X4_laid post) 31 = o_const (-1) 32 := rfl
theorem k_X4_laid_32 (post : PO) : lk (T_X4_laid post) 32 = o_iret post := rfl
set_option maxRecDepth 100000 in
theorem t_X4_laid {p : Program} {l : Launch} {e : Env} {s : State} {m : MethodId} {args : Array Value} {below : List Frame} {meth : Method} {c : Code} {D : va_G} {dA : Nat → ClassId} {ad : Nat → Nat} (post : PO) (C : CX p s m args meth c cX4_laid 2 yX4_laid.cls D dA ad (AA ad s.heap.size)) (hr : meth.sig.returnType = (some .int)) : SndL (WW p l e ({ frames := 2, cells := 0, slots := 0, locals := 43 } : Room) s m args below meth c 0 0 (MQ below (CQ D dA ad post (AA ad s.heap.size)) args s 0 0 (AA ad s.heap.size)) 2 D dA ad (AA ad s.heap.size)) (T_X4_laid post) := by
  refine snd_c (s_iload_n C rfl dX4_laid_0) ?_
  refine snd_c (s_aload_n C rfl dX4_laid_1) ?_
  refine snd_c (s_getf C (ci := 4) (j := 1) (T := TX4) rfl inX4 (by decide) fl_RX4_19 dX4_laid_2) ?_
  refine snd_c (s_getf C (ci := 0) (j := 0) (T := TX0) rfl inX0 (by decide) fl_RX4_71 dX4_laid_5) ?_
  refine snd_c (s_callV C (ci := 1) c_X1_usable rfl cw_RX4_93 ⟨rfl, rfl⟩ ⟨by decide +kernel, by decide +kernel, by decide +kernel⟩ ⟨by decide, by decide⟩ ⟨Nat.zero_le _, Nat.zero_le _⟩ dX4_laid_8) ?_
  refine snd_c (s_callS C c_X4_within cw_RX4_97 ⟨rfl, rfl⟩ ⟨by decide +kernel, by decide +kernel, by decide +kernel⟩ ⟨by decide, by decide⟩ ⟨Nat.zero_le _, Nat.zero_le _⟩ dX4_laid_11) ?_
  refine snd_c (s_if_eq C dX4_laid_14 (by decide)) ?_
  refine snd_c (s_aload_n C rfl dX4_laid_17) ?_
  refine snd_c (s_getf C (ci := 4) (j := 1) (T := TX4) rfl inX4 (by decide) fl_RX4_19 dX4_laid_18) ?_
  refine snd_c (s_getf C (ci := 0) (j := 0) (T := TX0) rfl inX0 (by decide) fl_RX4_71 dX4_laid_21) ?_
  refine snd_c (s_iload_n C rfl dX4_laid_24) ?_
  refine snd_c (s_callV C (ci := 1) c_X1_madeBy rfl cw_RX4_101 ⟨rfl, rfl⟩ ⟨by decide +kernel, by decide +kernel, by decide +kernel⟩ ⟨by decide, by decide⟩ ⟨Nat.zero_le _, Nat.zero_le _⟩ dX4_laid_25) ?_
  refine snd_c (s_goto C dX4_laid_28 (by decide)) ?_
  refine snd_c (s_iconst C dX4_laid_31 rfl) ?_
  refine snd_c (s_iret C hr dX4_laid_32) ?_
  exact trivial
set_option maxRecDepth 100000 in
theorem v_X4_clear : ∀ as M post, S_X4_clear as M post → wsum as ≤ 2 ∧ RUN (T_X4_clear post) 0 (entL 2 as) [] M := by
  rintro as M post ⟨rfl, h⟩
  refine ⟨by show 1 ≤ 2; omega, run_wp 40 ?_⟩
  dsimp only [k_X4_clear_0, k_X4_clear_1, k_X4_clear_4, k_X4_clear_7, k_X4_clear_8, k_X4_clear_9, k_X4_clear_12, k_X4_clear_13, k_X4_clear_16, k_X4_clear_17, wp1, wp_s, cutIn, kont, Nat.reduceSub, Nat.reduceAdd, nth, o_const, o_lconst, o_ref, o_iload, o_lload, o_aload, o_istore, o_lstore, o_astore, o_iinc, o_bin, o_div, o_un, o_lbin, o_lsh, o_lcmp, o_i2l, o_l2i, o_if, o_icmp, o_goto, o_dup, o_dup2, o_pop, fav, o_getf, o_putI, o_putZ, o_putL, o_ald, o_ast, o_alen, popn, rst, o_callV, o_callT, o_callS, swx, o_sw, o_ret, o_iret, o_zret, o_cret, o_lret, o_aret, lg, lput, lput2, ls1, isL, entL, wsum, rdI1, rdI2, rdA1, rdA21, rdA22, rdL1, rdL22, rdL21, upN_at, rep, sh_0, F_0_0, F_0_1, F_0_2, F_0_3, F_0_4, F_0_5, F_0_6, F_0_7, F_0_8, sh_1, F_1_0, F_1_1, F_1_2, F_1_3, F_1_4, F_1_5, sh_3, F_3_0, F_3_1, F_3_2, F_3_3, F_3_4, F_3_5, sh_5, F_5_0, F_5_1, F_5_2, F_5_3, F_5_4, F_5_5, F_5_6, F_5_7, F_5_8, sh_12, F_12_0, F_12_1, F_12_2, F_12_3, F_12_4, F_12_5, sh_14, F_14_0, F_14_1, F_14_2, F_14_3, F_14_4, F_14_5, F_14_6, F_14_7, F_14_8, sh_21, F_21_0, F_21_1, F_21_2, F_21_3, F_21_4, F_21_5, F_21_6, F_21_7, F_21_8, sh_28, F_28_0, F_28_1, F_28_2, F_28_3, F_28_4, F_28_5, F_28_6, F_28_7, F_28_8, sh_35, F_35_0, sh_39, F_39_0, F_39_1, F_39_2, F_39_3, F_39_4, F_39_5, F_39_6, F_39_7, F_39_8, F_39_9, F_39_10, F_39_11, F_39_12, F_39_13, A_2, A_4, A_6, A_7, A_8, A_9, A_10, A_11, A_13, A_15, A_16, A_17, A_18, A_19, A_20, A_22, A_23, A_24, A_25, A_26, A_27, A_29, A_30, A_31, A_32, A_33, A_34, A_36, A_37, A_38, A_40, A_41, A_42, A_43, A_44, A_45, A_46, A_47]
  exact h
set_option maxRecDepth 100000 in
theorem v_X4_key : ∀ as M post, S_X4_key as M post → wsum as ≤ 3 ∧ RUN (T_X4_key post) 0 (entL 3 as) [] M := by
  rintro as M post ⟨x, w, n, c, p, r, h0, lk, rfl, hX, h1, h2, h3⟩
  obtain ⟨hn, hn8, hc, hc6, hp, hp4, hr, hhk, hl⟩ := hX
  refine ⟨by show 3 ≤ 3; omega, run_wp 60 ?_⟩
  dsimp only [k_X4_key_0, k_X4_key_1, k_X4_key_4, k_X4_key_7, k_X4_key_8, k_X4_key_11, k_X4_key_14, k_X4_key_15, k_X4_key_18, k_X4_key_21, k_X4_key_22, k_X4_key_23, k_X4_key_24, k_X4_key_27, k_X4_key_28, k_X4_key_31, k_X4_key_34, k_X4_key_37, k_X4_key_38, k_X4_key_39, k_X4_key_42, k_X4_key_43, k_X4_key_46, k_X4_key_49, k_X4_key_52, k_X4_key_53, k_X4_key_54, wp1, wp_s, cutIn, kont, Nat.reduceSub, Nat.reduceAdd, nth, o_const, o_lconst, o_ref, o_iload, o_lload, o_aload, o_istore, o_lstore, o_astore, o_iinc, o_bin, o_div, o_un, o_lbin, o_lsh, o_lcmp, o_i2l, o_l2i, o_if, o_icmp, o_goto, o_dup, o_dup2, o_pop, fav, o_getf, o_putI, o_putZ, o_putL, o_ald, o_ast, o_alen, popn, rst, o_callV, o_callT, o_callS, swx, o_sw, o_ret, o_iret, o_zret, o_cret, o_lret, o_aret, lg, lput, lput2, ls1, isL, entL, wsum, rdI1, rdI2, rdA1, rdA21, rdA22, rdL1, rdL22, rdL21, upN_at, rep, sh_0, F_0_0, F_0_1, F_0_2, F_0_3, F_0_4, F_0_5, F_0_6, F_0_7, F_0_8, sh_1, F_1_0, F_1_1, F_1_2, F_1_3, F_1_4, F_1_5, sh_3, F_3_0, F_3_1, F_3_2, F_3_3, F_3_4, F_3_5, sh_5, F_5_0, F_5_1, F_5_2, F_5_3, F_5_4, F_5_5, F_5_6, F_5_7, F_5_8, sh_12, F_12_0, F_12_1, F_12_2, F_12_3, F_12_4, F_12_5, sh_14, F_14_0, F_14_1, F_14_2, F_14_3, F_14_4, F_14_5, F_14_6, F_14_7, F_14_8, sh_21, F_21_0, F_21_1, F_21_2, F_21_3, F_21_4, F_21_5, F_21_6, F_21_7, F_21_8, sh_28, F_28_0, F_28_1, F_28_2, F_28_3, F_28_4, F_28_5, F_28_6, F_28_7, F_28_8, sh_35, F_35_0, sh_39, F_39_0, F_39_1, F_39_2, F_39_3, F_39_4, F_39_5, F_39_6, F_39_7, F_39_8, F_39_9, F_39_10, F_39_11, F_39_12, F_39_13, A_2, A_4, A_6, A_7, A_8, A_9, A_10, A_11, A_13, A_15, A_16, A_17, A_18, A_19, A_20, A_22, A_23, A_24, A_25, A_26, A_27, A_29, A_30, A_31, A_32, A_33, A_34, A_36, A_37, A_38, A_40, A_41, A_42, A_43, A_44, A_45, A_46, A_47]
  refine ⟨5, x, rfl, Or.inl ⟨rfl, fun z => ?_, fun z => ?_⟩⟩
  · rw [hn] at z
    obtain ⟨k, rfl, hk⟩ := rg (by omega) z
    dsimp only [k_X4_key_0, k_X4_key_1, k_X4_key_4, k_X4_key_7, k_X4_key_8, k_X4_key_11, k_X4_key_14, k_X4_key_15, k_X4_key_18, k_X4_key_21, k_X4_key_22, k_X4_key_23, k_X4_key_24, k_X4_key_27, k_X4_key_28, k_X4_key_31, k_X4_key_34, k_X4_key_37, k_X4_key_38, k_X4_key_39, k_X4_key_42, k_X4_key_43, k_X4_key_46, k_X4_key_49, k_X4_key_52, k_X4_key_53, k_X4_key_54, wp1, wp_s, cutIn, kont, Nat.reduceSub, Nat.reduceAdd, nth, o_const, o_lconst, o_ref, o_iload, o_lload, o_aload, o_istore, o_lstore, o_astore, o_iinc, o_bin, o_div, o_un, o_lbin, o_lsh, o_lcmp, o_i2l, o_l2i, o_if, o_icmp, o_goto, o_dup, o_dup2, o_pop, fav, o_getf, o_putI, o_putZ, o_putL, o_ald, o_ast, o_alen, popn, rst, o_callV, o_callT, o_callS, swx, o_sw, o_ret, o_iret, o_zret, o_cret, o_lret, o_aret, lg, lput, lput2, ls1, isL, entL, wsum, rdI1, rdI2, rdA1, rdA21, rdA22, rdL1, rdL22, rdL21, upN_at, rep, sh_0, F_0_0, F_0_1, F_0_2, F_0_3, F_0_4, F_0_5, F_0_6, F_0_7, F_0_8, sh_1, F_1_0, F_1_1, F_1_2, F_1_3, F_1_4, F_1_5, sh_3, F_3_0, F_3_1, F_3_2, F_3_3, F_3_4, F_3_5, sh_5, F_5_0, F_5_1, F_5_2, F_5_3, F_5_4, F_5_5, F_5_6, F_5_7, F_5_8, sh_12, F_12_0, F_12_1, F_12_2, F_12_3, F_12_4, F_12_5, sh_14, F_14_0, F_14_1, F_14_2, F_14_3, F_14_4, F_14_5, F_14_6, F_14_7, F_14_8, sh_21, F_21_0, F_21_1, F_21_2, F_21_3, F_21_4, F_21_5, F_21_6, F_21_7, F_21_8, sh_28, F_28_0, F_28_1, F_28_2, F_28_3, F_28_4, F_28_5, F_28_6, F_28_7, F_28_8, sh_35, F_35_0, sh_39, F_39_0, F_39_1, F_39_2, F_39_3, F_39_4, F_39_5, F_39_6, F_39_7, F_39_8, F_39_9, F_39_10, F_39_11, F_39_12, F_39_13, A_2, A_4, A_6, A_7, A_8, A_9, A_10, A_11, A_13, A_15, A_16, A_17, A_18, A_19, A_20, A_22, A_23, A_24, A_25, A_26, A_27, A_29, A_30, A_31, A_32, A_33, A_34, A_36, A_37, A_38, A_40, A_41, A_42, A_43, A_44, A_45, A_46, A_47]
    refine ⟨fun q => absurd q (by decide), fun _ => ⟨w, rfl, fun z2 => ?_, fun z2 => ?_⟩⟩
    · dsimp only [k_X4_key_0, k_X4_key_1, k_X4_key_4, k_X4_key_7, k_X4_key_8, k_X4_key_11, k_X4_key_14, k_X4_key_15, k_X4_key_18, k_X4_key_21, k_X4_key_22, k_X4_key_23, k_X4_key_24, k_X4_key_27, k_X4_key_28, k_X4_key_31, k_X4_key_34, k_X4_key_37, k_X4_key_38, k_X4_key_39, k_X4_key_42, k_X4_key_43, k_X4_key_46, k_X4_key_49, k_X4_key_52, k_X4_key_53, k_X4_key_54, wp1, wp_s, cutIn, kont, Nat.reduceSub, Nat.reduceAdd, nth, o_const, o_lconst, o_ref, o_iload, o_lload, o_aload, o_istore, o_lstore, o_astore, o_iinc, o_bin, o_div, o_un, o_lbin, o_lsh, o_lcmp, o_i2l, o_l2i, o_if, o_icmp, o_goto, o_dup, o_dup2, o_pop, fav, o_getf, o_putI, o_putZ, o_putL, o_ald, o_ast, o_alen, popn, rst, o_callV, o_callT, o_callS, swx, o_sw, o_ret, o_iret, o_zret, o_cret, o_lret, o_aret, lg, lput, lput2, ls1, isL, entL, wsum, rdI1, rdI2, rdA1, rdA21, rdA22, rdL1, rdL22, rdL21, upN_at, rep, sh_0, F_0_0, F_0_1, F_0_2, F_0_3, F_0_4, F_0_5, F_0_6, F_0_7, F_0_8, sh_1, F_1_0, F_1_1, F_1_2, F_1_3, F_1_4, F_1_5, sh_3, F_3_0, F_3_1, F_3_2, F_3_3, F_3_4, F_3_5, sh_5, F_5_0, F_5_1, F_5_2, F_5_3, F_5_4, F_5_5, F_5_6, F_5_7, F_5_8, sh_12, F_12_0, F_12_1, F_12_2, F_12_3, F_12_4, F_12_5, sh_14, F_14_0, F_14_1, F_14_2, F_14_3, F_14_4, F_14_5, F_14_6, F_14_7, F_14_8, sh_21, F_21_0, F_21_1, F_21_2, F_21_3, F_21_4, F_21_5, F_21_6, F_21_7, F_21_8, sh_28, F_28_0, F_28_1, F_28_2, F_28_3, F_28_4, F_28_5, F_28_6, F_28_7, F_28_8, sh_35, F_35_0, sh_39, F_39_0, F_39_1, F_39_2, F_39_3, F_39_4, F_39_5, F_39_6, F_39_7, F_39_8, F_39_9, F_39_10, F_39_11, F_39_12, F_39_13, A_2, A_4, A_6, A_7, A_8, A_9, A_10, A_11, A_13, A_15, A_16, A_17, A_18, A_19, A_20, A_22, A_23, A_24, A_25, A_26, A_27, A_29, A_30, A_31, A_32, A_33, A_34, A_36, A_37, A_38, A_40, A_41, A_42, A_43, A_44, A_45, A_46, A_47]
      refine ⟨fun q => absurd q (by decide), fun _ => ⟨fun z3 => ⟨k, by omega, rfl, ?_⟩, fun z3 => ⟨k, by omega, rfl, ?_⟩⟩⟩
      · rw [(hr k hk).1]; exact h2 k rfl hk z3
      · rw [hhk k hk]; exact h3 k rfl hk (z2.elim (fun q => absurd q z3) id)
    · dsimp only [k_X4_key_0, k_X4_key_1, k_X4_key_4, k_X4_key_7, k_X4_key_8, k_X4_key_11, k_X4_key_14, k_X4_key_15, k_X4_key_18, k_X4_key_21, k_X4_key_22, k_X4_key_23, k_X4_key_24, k_X4_key_27, k_X4_key_28, k_X4_key_31, k_X4_key_34, k_X4_key_37, k_X4_key_38, k_X4_key_39, k_X4_key_42, k_X4_key_43, k_X4_key_46, k_X4_key_49, k_X4_key_52, k_X4_key_53, k_X4_key_54, wp1, wp_s, cutIn, kont, Nat.reduceSub, Nat.reduceAdd, nth, o_const, o_lconst, o_ref, o_iload, o_lload, o_aload, o_istore, o_lstore, o_astore, o_iinc, o_bin, o_div, o_un, o_lbin, o_lsh, o_lcmp, o_i2l, o_l2i, o_if, o_icmp, o_goto, o_dup, o_dup2, o_pop, fav, o_getf, o_putI, o_putZ, o_putL, o_ald, o_ast, o_alen, popn, rst, o_callV, o_callT, o_callS, swx, o_sw, o_ret, o_iret, o_zret, o_cret, o_lret, o_aret, lg, lput, lput2, ls1, isL, entL, wsum, rdI1, rdI2, rdA1, rdA21, rdA22, rdL1, rdL22, rdL21, upN_at, rep, sh_0, F_0_0, F_0_1, F_0_2, F_0_3, F_0_4, F_0_5, F_0_6, F_0_7, F_0_8, sh_1, F_1_0, F_1_1, F_1_2, F_1_3, F_1_4, F_1_5, sh_3, F_3_0, F_3_1, F_3_2, F_3_3, F_3_4, F_3_5, sh_5, F_5_0, F_5_1, F_5_2, F_5_3, F_5_4, F_5_5, F_5_6, F_5_7, F_5_8, sh_12, F_12_0, F_12_1, F_12_2, F_12_3, F_12_4, F_12_5, sh_14, F_14_0, F_14_1, F_14_2, F_14_3, F_14_4, F_14_5, F_14_6, F_14_7, F_14_8, sh_21, F_21_0, F_21_1, F_21_2, F_21_3, F_21_4, F_21_5, F_21_6, F_21_7, F_21_8, sh_28, F_28_0, F_28_1, F_28_2, F_28_3, F_28_4, F_28_5, F_28_6, F_28_7, F_28_8, sh_35, F_35_0, sh_39, F_39_0, F_39_1, F_39_2, F_39_3, F_39_4, F_39_5, F_39_6, F_39_7, F_39_8, F_39_9, F_39_10, F_39_11, F_39_12, F_39_13, A_2, A_4, A_6, A_7, A_8, A_9, A_10, A_11, A_13, A_15, A_16, A_17, A_18, A_19, A_20, A_22, A_23, A_24, A_25, A_26, A_27, A_29, A_30, A_31, A_32, A_33, A_34, A_36, A_37, A_38, A_40, A_41, A_42, A_43, A_44, A_45, A_46, A_47]
      exact ⟨fun _ => h1 fun q => z2 q.2, fun q => absurd rfl q⟩
  · rw [hn] at z
    dsimp only [k_X4_key_0, k_X4_key_1, k_X4_key_4, k_X4_key_7, k_X4_key_8, k_X4_key_11, k_X4_key_14, k_X4_key_15, k_X4_key_18, k_X4_key_21, k_X4_key_22, k_X4_key_23, k_X4_key_24, k_X4_key_27, k_X4_key_28, k_X4_key_31, k_X4_key_34, k_X4_key_37, k_X4_key_38, k_X4_key_39, k_X4_key_42, k_X4_key_43, k_X4_key_46, k_X4_key_49, k_X4_key_52, k_X4_key_53, k_X4_key_54, wp1, wp_s, cutIn, kont, Nat.reduceSub, Nat.reduceAdd, nth, o_const, o_lconst, o_ref, o_iload, o_lload, o_aload, o_istore, o_lstore, o_astore, o_iinc, o_bin, o_div, o_un, o_lbin, o_lsh, o_lcmp, o_i2l, o_l2i, o_if, o_icmp, o_goto, o_dup, o_dup2, o_pop, fav, o_getf, o_putI, o_putZ, o_putL, o_ald, o_ast, o_alen, popn, rst, o_callV, o_callT, o_callS, swx, o_sw, o_ret, o_iret, o_zret, o_cret, o_lret, o_aret, lg, lput, lput2, ls1, isL, entL, wsum, rdI1, rdI2, rdA1, rdA21, rdA22, rdL1, rdL22, rdL21, upN_at, rep, sh_0, F_0_0, F_0_1, F_0_2, F_0_3, F_0_4, F_0_5, F_0_6, F_0_7, F_0_8, sh_1, F_1_0, F_1_1, F_1_2, F_1_3, F_1_4, F_1_5, sh_3, F_3_0, F_3_1, F_3_2, F_3_3, F_3_4, F_3_5, sh_5, F_5_0, F_5_1, F_5_2, F_5_3, F_5_4, F_5_5, F_5_6, F_5_7, F_5_8, sh_12, F_12_0, F_12_1, F_12_2, F_12_3, F_12_4, F_12_5, sh_14, F_14_0, F_14_1, F_14_2, F_14_3, F_14_4, F_14_5, F_14_6, F_14_7, F_14_8, sh_21, F_21_0, F_21_1, F_21_2, F_21_3, F_21_4, F_21_5, F_21_6, F_21_7, F_21_8, sh_28, F_28_0, F_28_1, F_28_2, F_28_3, F_28_4, F_28_5, F_28_6, F_28_7, F_28_8, sh_35, F_35_0, sh_39, F_39_0, F_39_1, F_39_2, F_39_3, F_39_4, F_39_5, F_39_6, F_39_7, F_39_8, F_39_9, F_39_10, F_39_11, F_39_12, F_39_13, A_2, A_4, A_6, A_7, A_8, A_9, A_10, A_11, A_13, A_15, A_16, A_17, A_18, A_19, A_20, A_22, A_23, A_24, A_25, A_26, A_27, A_29, A_30, A_31, A_32, A_33, A_34, A_36, A_37, A_38, A_40, A_41, A_42, A_43, A_44, A_45, A_46, A_47]
    exact ⟨fun _ => h1 fun q => z q.1, fun q => absurd rfl q⟩
set_option maxRecDepth 100000 in
theorem v_X4_lock : ∀ as M post, S_X4_lock as M post → wsum as ≤ 2 ∧ RUN (T_X4_lock post) 0 (entL 2 as) [] M := by
  rintro as M post ⟨x, n, c, p, r, h0, lk, rfl, hX, h1, h2⟩
  obtain ⟨hn, hn8, hc, hc6, hp, hp4, hr, hhk, hl⟩ := hX
  refine ⟨by show 2 ≤ 2; omega, run_wp 60 ?_⟩
  dsimp only [k_X4_lock_0, k_X4_lock_1, k_X4_lock_4, k_X4_lock_5, k_X4_lock_8, k_X4_lock_11, k_X4_lock_12, k_X4_lock_15, k_X4_lock_18, k_X4_lock_19, k_X4_lock_20, k_X4_lock_23, k_X4_lock_24, wp1, wp_s, cutIn, kont, Nat.reduceSub, Nat.reduceAdd, nth, o_const, o_lconst, o_ref, o_iload, o_lload, o_aload, o_istore, o_lstore, o_astore, o_iinc, o_bin, o_div, o_un, o_lbin, o_lsh, o_lcmp, o_i2l, o_l2i, o_if, o_icmp, o_goto, o_dup, o_dup2, o_pop, fav, o_getf, o_putI, o_putZ, o_putL, o_ald, o_ast, o_alen, popn, rst, o_callV, o_callT, o_callS, swx, o_sw, o_ret, o_iret, o_zret, o_cret, o_lret, o_aret, lg, lput, lput2, ls1, isL, entL, wsum, rdI1, rdI2, rdA1, rdA21, rdA22, rdL1, rdL22, rdL21, upN_at, rep, sh_0, F_0_0, F_0_1, F_0_2, F_0_3, F_0_4, F_0_5, F_0_6, F_0_7, F_0_8, sh_1, F_1_0, F_1_1, F_1_2, F_1_3, F_1_4, F_1_5, sh_3, F_3_0, F_3_1, F_3_2, F_3_3, F_3_4, F_3_5, sh_5, F_5_0, F_5_1, F_5_2, F_5_3, F_5_4, F_5_5, F_5_6, F_5_7, F_5_8, sh_12, F_12_0, F_12_1, F_12_2, F_12_3, F_12_4, F_12_5, sh_14, F_14_0, F_14_1, F_14_2, F_14_3, F_14_4, F_14_5, F_14_6, F_14_7, F_14_8, sh_21, F_21_0, F_21_1, F_21_2, F_21_3, F_21_4, F_21_5, F_21_6, F_21_7, F_21_8, sh_28, F_28_0, F_28_1, F_28_2, F_28_3, F_28_4, F_28_5, F_28_6, F_28_7, F_28_8, sh_35, F_35_0, sh_39, F_39_0, F_39_1, F_39_2, F_39_3, F_39_4, F_39_5, F_39_6, F_39_7, F_39_8, F_39_9, F_39_10, F_39_11, F_39_12, F_39_13, A_2, A_4, A_6, A_7, A_8, A_9, A_10, A_11, A_13, A_15, A_16, A_17, A_18, A_19, A_20, A_22, A_23, A_24, A_25, A_26, A_27, A_29, A_30, A_31, A_32, A_33, A_34, A_36, A_37, A_38, A_40, A_41, A_42, A_43, A_44, A_45, A_46, A_47]
  refine ⟨x, rfl, fun z => ?_, fun z => ?_⟩
  · rw [hc] at z
    obtain ⟨k, rfl, hk⟩ := rg (by omega) z
    dsimp only [k_X4_lock_0, k_X4_lock_1, k_X4_lock_4, k_X4_lock_5, k_X4_lock_8, k_X4_lock_11, k_X4_lock_12, k_X4_lock_15, k_X4_lock_18, k_X4_lock_19, k_X4_lock_20, k_X4_lock_23, k_X4_lock_24, wp1, wp_s, cutIn, kont, Nat.reduceSub, Nat.reduceAdd, nth, o_const, o_lconst, o_ref, o_iload, o_lload, o_aload, o_istore, o_lstore, o_astore, o_iinc, o_bin, o_div, o_un, o_lbin, o_lsh, o_lcmp, o_i2l, o_l2i, o_if, o_icmp, o_goto, o_dup, o_dup2, o_pop, fav, o_getf, o_putI, o_putZ, o_putL, o_ald, o_ast, o_alen, popn, rst, o_callV, o_callT, o_callS, swx, o_sw, o_ret, o_iret, o_zret, o_cret, o_lret, o_aret, lg, lput, lput2, ls1, isL, entL, wsum, rdI1, rdI2, rdA1, rdA21, rdA22, rdL1, rdL22, rdL21, upN_at, rep, sh_0, F_0_0, F_0_1, F_0_2, F_0_3, F_0_4, F_0_5, F_0_6, F_0_7, F_0_8, sh_1, F_1_0, F_1_1, F_1_2, F_1_3, F_1_4, F_1_5, sh_3, F_3_0, F_3_1, F_3_2, F_3_3, F_3_4, F_3_5, sh_5, F_5_0, F_5_1, F_5_2, F_5_3, F_5_4, F_5_5, F_5_6, F_5_7, F_5_8, sh_12, F_12_0, F_12_1, F_12_2, F_12_3, F_12_4, F_12_5, sh_14, F_14_0, F_14_1, F_14_2, F_14_3, F_14_4, F_14_5, F_14_6, F_14_7, F_14_8, sh_21, F_21_0, F_21_1, F_21_2, F_21_3, F_21_4, F_21_5, F_21_6, F_21_7, F_21_8, sh_28, F_28_0, F_28_1, F_28_2, F_28_3, F_28_4, F_28_5, F_28_6, F_28_7, F_28_8, sh_35, F_35_0, sh_39, F_39_0, F_39_1, F_39_2, F_39_3, F_39_4, F_39_5, F_39_6, F_39_7, F_39_8, F_39_9, F_39_10, F_39_11, F_39_12, F_39_13, A_2, A_4, A_6, A_7, A_8, A_9, A_10, A_11, A_13, A_15, A_16, A_17, A_18, A_19, A_20, A_22, A_23, A_24, A_25, A_26, A_27, A_29, A_30, A_31, A_32, A_33, A_34, A_36, A_37, A_38, A_40, A_41, A_42, A_43, A_44, A_45, A_46, A_47]
    refine ⟨fun q => absurd q (by decide), fun _ => ⟨k, by omega, rfl, ?_⟩⟩
    rw [(hl k hk).1]; exact h2 k rfl hk
  · rw [hc] at z
    dsimp only [k_X4_lock_0, k_X4_lock_1, k_X4_lock_4, k_X4_lock_5, k_X4_lock_8, k_X4_lock_11, k_X4_lock_12, k_X4_lock_15, k_X4_lock_18, k_X4_lock_19, k_X4_lock_20, k_X4_lock_23, k_X4_lock_24, wp1, wp_s, cutIn, kont, Nat.reduceSub, Nat.reduceAdd, nth, o_const, o_lconst, o_ref, o_iload, o_lload, o_aload, o_istore, o_lstore, o_astore, o_iinc, o_bin, o_div, o_un, o_lbin, o_lsh, o_lcmp, o_i2l, o_l2i, o_if, o_icmp, o_goto, o_dup, o_dup2, o_pop, fav, o_getf, o_putI, o_putZ, o_putL, o_ald, o_ast, o_alen, popn, rst, o_callV, o_callT, o_callS, swx, o_sw, o_ret, o_iret, o_zret, o_cret, o_lret, o_aret, lg, lput, lput2, ls1, isL, entL, wsum, rdI1, rdI2, rdA1, rdA21, rdA22, rdL1, rdL22, rdL21, upN_at, rep, sh_0, F_0_0, F_0_1, F_0_2, F_0_3, F_0_4, F_0_5, F_0_6, F_0_7, F_0_8, sh_1, F_1_0, F_1_1, F_1_2, F_1_3, F_1_4, F_1_5, sh_3, F_3_0, F_3_1, F_3_2, F_3_3, F_3_4, F_3_5, sh_5, F_5_0, F_5_1, F_5_2, F_5_3, F_5_4, F_5_5, F_5_6, F_5_7, F_5_8, sh_12, F_12_0, F_12_1, F_12_2, F_12_3, F_12_4, F_12_5, sh_14, F_14_0, F_14_1, F_14_2, F_14_3, F_14_4, F_14_5, F_14_6, F_14_7, F_14_8, sh_21, F_21_0, F_21_1, F_21_2, F_21_3, F_21_4, F_21_5, F_21_6, F_21_7, F_21_8, sh_28, F_28_0, F_28_1, F_28_2, F_28_3, F_28_4, F_28_5, F_28_6, F_28_7, F_28_8, sh_35, F_35_0, sh_39, F_39_0, F_39_1, F_39_2, F_39_3, F_39_4, F_39_5, F_39_6, F_39_7, F_39_8, F_39_9, F_39_10, F_39_11, F_39_12, F_39_13, A_2, A_4, A_6, A_7, A_8, A_9, A_10, A_11, A_13, A_15, A_16, A_17, A_18, A_19, A_20, A_22, A_23, A_24, A_25, A_26, A_27, A_29, A_30, A_31, A_32, A_33, A_34, A_36, A_37, A_38, A_40, A_41, A_42, A_43, A_44, A_45, A_46, A_47]
    exact ⟨fun _ => h1 z, fun q => absurd rfl q⟩
set_option maxRecDepth 100000 in
theorem v_X4_laid : ∀ as M post, S_X4_laid as M post → wsum as ≤ 2 ∧ RUN (T_X4_laid post) 0 (entL 2 as) [] M := by
  rintro as M post ⟨x, n, c, p, r, h0, lk, rfl, hX, h1, h2⟩
  obtain ⟨hn, hn8, hc, hc6, hp, hp4, hr, hhk, hl⟩ := hX
  have hul := us_lt h0 hn8
  refine ⟨by show 2 ≤ 2; omega, run_wp 60 ?_⟩
  dsimp only [k_X4_laid_0, k_X4_laid_1, k_X4_laid_2, k_X4_laid_5, k_X4_laid_8, k_X4_laid_11, k_X4_laid_14, k_X4_laid_17, k_X4_laid_18, k_X4_laid_21, k_X4_laid_24, k_X4_laid_25, k_X4_laid_28, k_X4_laid_31, k_X4_laid_32, wp1, wp_s, cutIn, kont, Nat.reduceSub, Nat.reduceAdd, nth, o_const, o_lconst, o_ref, o_iload, o_lload, o_aload, o_istore, o_lstore, o_astore, o_iinc, o_bin, o_div, o_un, o_lbin, o_lsh, o_lcmp, o_i2l, o_l2i, o_if, o_icmp, o_goto, o_dup, o_dup2, o_pop, fav, o_getf, o_putI, o_putZ, o_putL, o_ald, o_ast, o_alen, popn, rst, o_callV, o_callT, o_callS, swx, o_sw, o_ret, o_iret, o_zret, o_cret, o_lret, o_aret, lg, lput, lput2, ls1, isL, entL, wsum, rdI1, rdI2, rdA1, rdA21, rdA22, rdL1, rdL22, rdL21, upN_at, rep, sh_0, F_0_0, F_0_1, F_0_2, F_0_3, F_0_4, F_0_5, F_0_6, F_0_7, F_0_8, sh_1, F_1_0, F_1_1, F_1_2, F_1_3, F_1_4, F_1_5, sh_3, F_3_0, F_3_1, F_3_2, F_3_3, F_3_4, F_3_5, sh_5, F_5_0, F_5_1, F_5_2, F_5_3, F_5_4, F_5_5, F_5_6, F_5_7, F_5_8, sh_12, F_12_0, F_12_1, F_12_2, F_12_3, F_12_4, F_12_5, sh_14, F_14_0, F_14_1, F_14_2, F_14_3, F_14_4, F_14_5, F_14_6, F_14_7, F_14_8, sh_21, F_21_0, F_21_1, F_21_2, F_21_3, F_21_4, F_21_5, F_21_6, F_21_7, F_21_8, sh_28, F_28_0, F_28_1, F_28_2, F_28_3, F_28_4, F_28_5, F_28_6, F_28_7, F_28_8, sh_35, F_35_0, sh_39, F_39_0, F_39_1, F_39_2, F_39_3, F_39_4, F_39_5, F_39_6, F_39_7, F_39_8, F_39_9, F_39_10, F_39_11, F_39_12, F_39_13, A_2, A_4, A_6, A_7, A_8, A_9, A_10, A_11, A_13, A_15, A_16, A_17, A_18, A_19, A_20, A_22, A_23, A_24, A_25, A_26, A_27, A_29, A_30, A_31, A_32, A_33, A_34, A_36, A_37, A_38, A_40, A_41, A_42, A_43, A_44, A_45, A_46, A_47]
  refine ⟨n, rfl, hn, hn8, ?_⟩
  rw [show mk (fun k => !(M.2.2 3 k == -3)) n = us h0 n from us_congr hhk]
  dsimp only [k_X4_laid_0, k_X4_laid_1, k_X4_laid_2, k_X4_laid_5, k_X4_laid_8, k_X4_laid_11, k_X4_laid_14, k_X4_laid_17, k_X4_laid_18, k_X4_laid_21, k_X4_laid_24, k_X4_laid_25, k_X4_laid_28, k_X4_laid_31, k_X4_laid_32, wp1, wp_s, cutIn, kont, Nat.reduceSub, Nat.reduceAdd, nth, o_const, o_lconst, o_ref, o_iload, o_lload, o_aload, o_istore, o_lstore, o_astore, o_iinc, o_bin, o_div, o_un, o_lbin, o_lsh, o_lcmp, o_i2l, o_l2i, o_if, o_icmp, o_goto, o_dup, o_dup2, o_pop, fav, o_getf, o_putI, o_putZ, o_putL, o_ald, o_ast, o_alen, popn, rst, o_callV, o_callT, o_callS, swx, o_sw, o_ret, o_iret, o_zret, o_cret, o_lret, o_aret, lg, lput, lput2, ls1, isL, entL, wsum, rdI1, rdI2, rdA1, rdA21, rdA22, rdL1, rdL22, rdL21, upN_at, rep, sh_0, F_0_0, F_0_1, F_0_2, F_0_3, F_0_4, F_0_5, F_0_6, F_0_7, F_0_8, sh_1, F_1_0, F_1_1, F_1_2, F_1_3, F_1_4, F_1_5, sh_3, F_3_0, F_3_1, F_3_2, F_3_3, F_3_4, F_3_5, sh_5, F_5_0, F_5_1, F_5_2, F_5_3, F_5_4, F_5_5, F_5_6, F_5_7, F_5_8, sh_12, F_12_0, F_12_1, F_12_2, F_12_3, F_12_4, F_12_5, sh_14, F_14_0, F_14_1, F_14_2, F_14_3, F_14_4, F_14_5, F_14_6, F_14_7, F_14_8, sh_21, F_21_0, F_21_1, F_21_2, F_21_3, F_21_4, F_21_5, F_21_6, F_21_7, F_21_8, sh_28, F_28_0, F_28_1, F_28_2, F_28_3, F_28_4, F_28_5, F_28_6, F_28_7, F_28_8, sh_35, F_35_0, sh_39, F_39_0, F_39_1, F_39_2, F_39_3, F_39_4, F_39_5, F_39_6, F_39_7, F_39_8, F_39_9, F_39_10, F_39_11, F_39_12, F_39_13, A_2, A_4, A_6, A_7, A_8, A_9, A_10, A_11, A_13, A_15, A_16, A_17, A_18, A_19, A_20, A_22, A_23, A_24, A_25, A_26, A_27, A_29, A_30, A_31, A_32, A_33, A_34, A_36, A_37, A_38, A_40, A_41, A_42, A_43, A_44, A_45, A_46, A_47]
  refine ⟨x, us h0 n, rfl, fun z => ?_, fun z => ?_⟩
  · obtain ⟨T, rfl, hT, hTl⟩ := In_at (by omega) z
    dsimp only [k_X4_laid_0, k_X4_laid_1, k_X4_laid_2, k_X4_laid_5, k_X4_laid_8, k_X4_laid_11, k_X4_laid_14, k_X4_laid_17, k_X4_laid_18, k_X4_laid_21, k_X4_laid_24, k_X4_laid_25, k_X4_laid_28, k_X4_laid_31, k_X4_laid_32, wp1, wp_s, cutIn, kont, Nat.reduceSub, Nat.reduceAdd, nth, o_const, o_lconst, o_ref, o_iload, o_lload, o_aload, o_istore, o_lstore, o_astore, o_iinc, o_bin, o_div, o_un, o_lbin, o_lsh, o_lcmp, o_i2l, o_l2i, o_if, o_icmp, o_goto, o_dup, o_dup2, o_pop, fav, o_getf, o_putI, o_putZ, o_putL, o_ald, o_ast, o_alen, popn, rst, o_callV, o_callT, o_callS, swx, o_sw, o_ret, o_iret, o_zret, o_cret, o_lret, o_aret, lg, lput, lput2, ls1, isL, entL, wsum, rdI1, rdI2, rdA1, rdA21, rdA22, rdL1, rdL22, rdL21, upN_at, rep, sh_0, F_0_0, F_0_1, F_0_2, F_0_3, F_0_4, F_0_5, F_0_6, F_0_7, F_0_8, sh_1, F_1_0, F_1_1, F_1_2, F_1_3, F_1_4, F_1_5, sh_3, F_3_0, F_3_1, F_3_2, F_3_3, F_3_4, F_3_5, sh_5, F_5_0, F_5_1, F_5_2, F_5_3, F_5_4, F_5_5, F_5_6, F_5_7, F_5_8, sh_12, F_12_0, F_12_1, F_12_2, F_12_3, F_12_4, F_12_5, sh_14, F_14_0, F_14_1, F_14_2, F_14_3, F_14_4, F_14_5, F_14_6, F_14_7, F_14_8, sh_21, F_21_0, F_21_1, F_21_2, F_21_3, F_21_4, F_21_5, F_21_6, F_21_7, F_21_8, sh_28, F_28_0, F_28_1, F_28_2, F_28_3, F_28_4, F_28_5, F_28_6, F_28_7, F_28_8, sh_35, F_35_0, sh_39, F_39_0, F_39_1, F_39_2, F_39_3, F_39_4, F_39_5, F_39_6, F_39_7, F_39_8, F_39_9, F_39_10, F_39_11, F_39_12, F_39_13, A_2, A_4, A_6, A_7, A_8, A_9, A_10, A_11, A_13, A_15, A_16, A_17, A_18, A_19, A_20, A_22, A_23, A_24, A_25, A_26, A_27, A_29, A_30, A_31, A_32, A_33, A_34, A_36, A_37, A_38, A_40, A_41, A_42, A_43, A_44, A_45, A_46, A_47]
    refine ⟨fun q => absurd q (by decide), fun _ => ⟨T, n, rfl, by omega, hn, hn8, ?_⟩⟩
    dsimp only [k_X4_laid_0, k_X4_laid_1, k_X4_laid_2, k_X4_laid_5, k_X4_laid_8, k_X4_laid_11, k_X4_laid_14, k_X4_laid_17, k_X4_laid_18, k_X4_laid_21, k_X4_laid_24, k_X4_laid_25, k_X4_laid_28, k_X4_laid_31, k_X4_laid_32, wp1, wp_s, cutIn, kont, Nat.reduceSub, Nat.reduceAdd, nth, o_const, o_lconst, o_ref, o_iload, o_lload, o_aload, o_istore, o_lstore, o_astore, o_iinc, o_bin, o_div, o_un, o_lbin, o_lsh, o_lcmp, o_i2l, o_l2i, o_if, o_icmp, o_goto, o_dup, o_dup2, o_pop, fav, o_getf, o_putI, o_putZ, o_putL, o_ald, o_ast, o_alen, popn, rst, o_callV, o_callT, o_callS, swx, o_sw, o_ret, o_iret, o_zret, o_cret, o_lret, o_aret, lg, lput, lput2, ls1, isL, entL, wsum, rdI1, rdI2, rdA1, rdA21, rdA22, rdL1, rdL22, rdL21, upN_at, rep, sh_0, F_0_0, F_0_1, F_0_2, F_0_3, F_0_4, F_0_5, F_0_6, F_0_7, F_0_8, sh_1, F_1_0, F_1_1, F_1_2, F_1_3, F_1_4, F_1_5, sh_3, F_3_0, F_3_1, F_3_2, F_3_3, F_3_4, F_3_5, sh_5, F_5_0, F_5_1, F_5_2, F_5_3, F_5_4, F_5_5, F_5_6, F_5_7, F_5_8, sh_12, F_12_0, F_12_1, F_12_2, F_12_3, F_12_4, F_12_5, sh_14, F_14_0, F_14_1, F_14_2, F_14_3, F_14_4, F_14_5, F_14_6, F_14_7, F_14_8, sh_21, F_21_0, F_21_1, F_21_2, F_21_3, F_21_4, F_21_5, F_21_6, F_21_7, F_21_8, sh_28, F_28_0, F_28_1, F_28_2, F_28_3, F_28_4, F_28_5, F_28_6, F_28_7, F_28_8, sh_35, F_35_0, sh_39, F_39_0, F_39_1, F_39_2, F_39_3, F_39_4, F_39_5, F_39_6, F_39_7, F_39_8, F_39_9, F_39_10, F_39_11, F_39_12, F_39_13, A_2, A_4, A_6, A_7, A_8, A_9, A_10, A_11, A_13, A_15, A_16, A_17, A_18, A_19, A_20, A_22, A_23, A_24, A_25, A_26, A_27, A_29, A_30, A_31, A_32, A_33, A_34, A_36, A_37, A_38, A_40, A_41, A_42, A_43, A_44, A_45, A_46, A_47]
    exact h2 T rfl hT
  · dsimp only [k_X4_laid_0, k_X4_laid_1, k_X4_laid_2, k_X4_laid_5, k_X4_laid_8, k_X4_laid_11, k_X4_laid_14, k_X4_laid_17, k_X4_laid_18, k_X4_laid_21, k_X4_laid_24, k_X4_laid_25, k_X4_laid_28, k_X4_laid_31, k_X4_laid_32, wp1, wp_s, cutIn, kont, Nat.reduceSub, Nat.reduceAdd, nth, o_const, o_lconst, o_ref, o_iload, o_lload, o_aload, o_istore, o_lstore, o_astore, o_iinc, o_bin, o_div, o_un, o_lbin, o_lsh, o_lcmp, o_i2l, o_l2i, o_if, o_icmp, o_goto, o_dup, o_dup2, o_pop, fav, o_getf, o_putI, o_putZ, o_putL, o_ald, o_ast, o_alen, popn, rst, o_callV, o_callT, o_callS, swx, o_sw, o_ret, o_iret, o_zret, o_cret, o_lret, o_aret, lg, lput, lput2, ls1, isL, entL, wsum, rdI1, rdI2, rdA1, rdA21, rdA22, rdL1, rdL22, rdL21, upN_at, rep, sh_0, F_0_0, F_0_1, F_0_2, F_0_3, F_0_4, F_0_5, F_0_6, F_0_7, F_0_8, sh_1, F_1_0, F_1_1, F_1_2, F_1_3, F_1_4, F_1_5, sh_3, F_3_0, F_3_1, F_3_2, F_3_3, F_3_4, F_3_5, sh_5, F_5_0, F_5_1, F_5_2, F_5_3, F_5_4, F_5_5, F_5_6, F_5_7, F_5_8, sh_12, F_12_0, F_12_1, F_12_2, F_12_3, F_12_4, F_12_5, sh_14, F_14_0, F_14_1, F_14_2, F_14_3, F_14_4, F_14_5, F_14_6, F_14_7, F_14_8, sh_21, F_21_0, F_21_1, F_21_2, F_21_3, F_21_4, F_21_5, F_21_6, F_21_7, F_21_8, sh_28, F_28_0, F_28_1, F_28_2, F_28_3, F_28_4, F_28_5, F_28_6, F_28_7, F_28_8, sh_35, F_35_0, sh_39, F_39_0, F_39_1, F_39_2, F_39_3, F_39_4, F_39_5, F_39_6, F_39_7, F_39_8, F_39_9, F_39_10, F_39_11, F_39_12, F_39_13, A_2, A_4, A_6, A_7, A_8, A_9, A_10, A_11, A_13, A_15, A_16, A_17, A_18, A_19, A_20, A_22, A_23, A_24, A_25, A_26, A_27, A_29, A_30, A_31, A_32, A_33, A_34, A_36, A_37, A_38, A_40, A_41, A_42, A_43, A_44, A_45, A_46, A_47]
    exact ⟨fun _ => h1 z, fun q => absurd rfl q⟩
theorem c_X4_clear : Ctr yX4_clear cX4_clear 2 (some .int) ({ frames := 0, cells := 0, slots := 0, locals := 0 } : Room) S_X4_clear := ctr_of (T := T_X4_clear) (by decide +kernel) (fun post C hr => t_X4_clear post C hr) v_X4_clear
theorem c_X4_key : Ctr yX4_key cX4_key 3 (some .int) ({ frames := 1, cells := 0, slots := 0, locals := 21 } : Room) S_X4_key := ctr_of (T := T_X4_key) (by decide +kernel) (fun post C hr => t_X4_key post C hr) v_X4_key
theorem c_X4_lock : Ctr yX4_lock cX4_lock 2 (some .int) ({ frames := 1, cells := 0, slots := 0, locals := 21 } : Room) S_X4_lock := ctr_of (T := T_X4_lock) (by decide +kernel) (fun post C hr => t_X4_lock post C hr) v_X4_lock
theorem c_X4_laid : Ctr yX4_laid cX4_laid 2 (some .int) ({ frames := 2, cells := 0, slots := 0, locals := 43 } : Room) S_X4_laid := ctr_of (T := T_X4_laid) (by decide +kernel) (fun post C hr => t_X4_laid post C hr) v_X4_laid
set_option maxRecDepth 100000 in
theorem v_X4_type : ∀ as M post, S_X4_type as M post → wsum as ≤ 5 ∧ RUN (T_X4_type post) 0 (entL 5 as) [] M := by
  rintro as M post ⟨v, x, L, rfl, hL, hL3, h1, h2, h3⟩
  by_cases hx : x < 1 ∨ 8 < x
  · refine ⟨by show 4 ≤ 5; omega, run_wp 60 ?_⟩
    dsimp only [k_X4_type_0, k_X4_type_1, k_X4_type_2, k_X4_type_5, k_X4_type_6, k_X4_type_8, k_X4_type_11, k_X4_type_12, k_X4_type_13, k_X4_type_14, k_X4_type_17, k_X4_type_20, k_X4_type_21, k_X4_type_22, k_X4_type_25, k_X4_type_28, k_X4_type_30, k_X4_type_31, k_X4_type_32, k_X4_type_33, k_X4_type_34, k_X4_type_36, k_X4_type_38, k_X4_type_41, k_X4_type_42, k_X4_type_45, k_X4_type_46, k_X4_type_48, k_X4_type_50, k_X4_type_51, k_X4_type_52, k_X4_type_53, k_X4_type_54, k_X4_type_57, k_X4_type_60, k_X4_type_63, k_X4_type_64, k_X4_type_67, k_X4_type_70, wp1, wp_s, cutIn, kont, Nat.reduceSub, Nat.reduceAdd, nth, o_const, o_lconst, o_ref, o_iload, o_lload, o_aload, o_istore, o_lstore, o_astore, o_iinc, o_bin, o_div, o_un, o_lbin, o_lsh, o_lcmp, o_i2l, o_l2i, o_if, o_icmp, o_goto, o_dup, o_dup2, o_pop, fav, o_getf, o_putI, o_putZ, o_putL, o_ald, o_ast, o_alen, popn, rst, o_callV, o_callT, o_callS, swx, o_sw, o_ret, o_iret, o_zret, o_cret, o_lret, o_aret, lg, lput, lput2, ls1, isL, entL, wsum, rdI1, rdI2, rdA1, rdA21, rdA22, rdL1, rdL22, rdL21, upN_at, rep, sh_0, F_0_0, F_0_1, F_0_2, F_0_3, F_0_4, F_0_5, F_0_6, F_0_7, F_0_8, sh_1, F_1_0, F_1_1, F_1_2, F_1_3, F_1_4, F_1_5, sh_3, F_3_0, F_3_1, F_3_2, F_3_3, F_3_4, F_3_5, sh_5, F_5_0, F_5_1, F_5_2, F_5_3, F_5_4, F_5_5, F_5_6, F_5_7, F_5_8, sh_12, F_12_0, F_12_1, F_12_2, F_12_3, F_12_4, F_12_5, sh_14, F_14_0, F_14_1, F_14_2, F_14_3, F_14_4, F_14_5, F_14_6, F_14_7, F_14_8, sh_21, F_21_0, F_21_1, F_21_2, F_21_3, F_21_4, F_21_5, F_21_6, F_21_7, F_21_8, sh_28, F_28_0, F_28_1, F_28_2, F_28_3, F_28_4, F_28_5, F_28_6, F_28_7, F_28_8, sh_35, F_35_0, sh_39, F_39_0, F_39_1, F_39_2, F_39_3, F_39_4, F_39_5, F_39_6, F_39_7, F_39_8, F_39_9, F_39_10, F_39_11, F_39_12, F_39_13, A_2, A_4, A_6, A_7, A_8, A_9, A_10, A_11, A_13, A_15, A_16, A_17, A_18, A_19, A_20, A_22, A_23, A_24, A_25, A_26, A_27, A_29, A_30, A_31, A_32, A_33, A_34, A_36, A_37, A_38, A_40, A_41, A_42, A_43, A_44, A_45, A_46, A_47]
    rcases hx with z | z
    · exact ⟨fun _ => h1 (Or.inl z), fun q => absurd z q⟩
    · refine ⟨fun _ => h1 (Or.inr z), fun _ => ⟨fun q => ?_, fun _ => h1 (Or.inr z)⟩⟩
      exact absurd z (Int32.not_lt.mpr q)
  · have hx1 : ¬ x < 1 := fun z => hx (Or.inl z)
    have hx8 : ¬ 8 < x := fun z => hx (Or.inr z)
    obtain ⟨n, rfl, hn1, hn8⟩ : ∃ n, x = nI n ∧ 1 ≤ n ∧ n ≤ 8 := by
      obtain ⟨k, hk, rfl⟩ := nI_of (x := x) (fun z => hx1 (by rw [Int32.lt_iff_toInt_lt] at z ⊢; simp at z ⊢; omega))
      rw [show (1 : Int32) = nI 1 from rfl, nI_ltI hk (by omega)] at hx1
      rw [show (8 : Int32) = nI 8 from rfl, nI_ltI (by omega) hk] at hx8
      exact ⟨k, rfl, by omega, by omega⟩
    have s1 : ∀ m, m ≤ n → m ≥ 1 → nI m - 1 = nI (m - 1) := fun m _ h => pk_sub (a := m) (b := 1) h
    refine ⟨by show 4 ≤ 5; omega, run_of [36] (fun μ pc lv st M' => st = [] ∧ pc = 36 ∧ L + n ≤ 300 ∧ ∃ i, i ≤ n ∧ M' = sI 0 (nI (L + i)) (sA 0 (tyM v n L (M.2.2 0) i) M) ∧ 100 - i = μ ∧ lv = [some (VR 0), some (VL v), none, some (VI (nI n)), some (VI (nI (n - i) - 1))]) 80 200 ?_ ?_⟩
    · rintro μ pc lv st M' ⟨rfl, rfl, hLn, i, hi, rfl, rfl, rfl⟩
      rcases Nat.eq_or_lt_of_le hi with e | e
      · subst e
        dsimp only [k_X4_type_0, k_X4_type_1, k_X4_type_2, k_X4_type_5, k_X4_type_6, k_X4_type_8, k_X4_type_11, k_X4_type_12, k_X4_type_13, k_X4_type_14, k_X4_type_17, k_X4_type_20, k_X4_type_21, k_X4_type_22, k_X4_type_25, k_X4_type_28, k_X4_type_30, k_X4_type_31, k_X4_type_32, k_X4_type_33, k_X4_type_34, k_X4_type_36, k_X4_type_38, k_X4_type_41, k_X4_type_42, k_X4_type_45, k_X4_type_46, k_X4_type_48, k_X4_type_50, k_X4_type_51, k_X4_type_52, k_X4_type_53, k_X4_type_54, k_X4_type_57, k_X4_type_60, k_X4_type_63, k_X4_type_64, k_X4_type_67, k_X4_type_70, wp1, wp_s, cutIn, kont, Nat.reduceSub, Nat.reduceAdd, nth, o_const, o_lconst, o_ref, o_iload, o_lload, o_aload, o_istore, o_lstore, o_astore, o_iinc, o_bin, o_div, o_un, o_lbin, o_lsh, o_lcmp, o_i2l, o_l2i, o_if, o_icmp, o_goto, o_dup, o_dup2, o_pop, fav, o_getf, o_putI, o_putZ, o_putL, o_ald, o_ast, o_alen, popn, rst, o_callV, o_callT, o_callS, swx, o_sw, o_ret, o_iret, o_zret, o_cret, o_lret, o_aret, lg, lput, lput2, ls1, isL, entL, wsum, rdI1, rdI2, rdA1, rdA21, rdA22, rdL1, rdL22, rdL21, upN_at, rep, sh_0, F_0_0, F_0_1, F_0_2, F_0_3, F_0_4, F_0_5, F_0_6, F_0_7, F_0_8, sh_1, F_1_0, F_1_1, F_1_2, F_1_3, F_1_4, F_1_5, sh_3, F_3_0, F_3_1, F_3_2, F_3_3, F_3_4, F_3_5, sh_5, F_5_0, F_5_1, F_5_2, F_5_3, F_5_4, F_5_5, F_5_6, F_5_7, F_5_8, sh_12, F_12_0, F_12_1, F_12_2, F_12_3, F_12_4, F_12_5, sh_14, F_14_0, F_14_1, F_14_2, F_14_3, F_14_4, F_14_5, F_14_6, F_14_7, F_14_8, sh_21, F_21_0, F_21_1, F_21_2, F_21_3, F_21_4, F_21_5, F_21_6, F_21_7, F_21_8, sh_28, F_28_0, F_28_1, F_28_2, F_28_3, F_28_4, F_28_5, F_28_6, F_28_7, F_28_8, sh_35, F_35_0, sh_39, F_39_0, F_39_1, F_39_2, F_39_3, F_39_4, F_39_5, F_39_6, F_39_7, F_39_8, F_39_9, F_39_10, F_39_11, F_39_12, F_39_13, A_2, A_4, A_6, A_7, A_8, A_9, A_10, A_11, A_13, A_15, A_16, A_17, A_18, A_19, A_20, A_22, A_23, A_24, A_25, A_26, A_27, A_29, A_30, A_31, A_32, A_33, A_34, A_36, A_37, A_38, A_40, A_41, A_42, A_43, A_44, A_45, A_46, A_47]
        rw [Nat.sub_self]
        exact ⟨fun _ => h3 i rfl hn1 hn8 hLn, fun q => absurd cnt0 q⟩
      · rw [s1 (n - i) (by omega) (by omega)]
        dsimp only [k_X4_type_0, k_X4_type_1, k_X4_type_2, k_X4_type_5, k_X4_type_6, k_X4_type_8, k_X4_type_11, k_X4_type_12, k_X4_type_13, k_X4_type_14, k_X4_type_17, k_X4_type_20, k_X4_type_21, k_X4_type_22, k_X4_type_25, k_X4_type_28, k_X4_type_30, k_X4_type_31, k_X4_type_32, k_X4_type_33, k_X4_type_34, k_X4_type_36, k_X4_type_38, k_X4_type_41, k_X4_type_42, k_X4_type_45, k_X4_type_46, k_X4_type_48, k_X4_type_50, k_X4_type_51, k_X4_type_52, k_X4_type_53, k_X4_type_54, k_X4_type_57, k_X4_type_60, k_X4_type_63, k_X4_type_64, k_X4_type_67, k_X4_type_70, wp1, wp_s, cutIn, kont, Nat.reduceSub, Nat.reduceAdd, nth, o_const, o_lconst, o_ref, o_iload, o_lload, o_aload, o_istore, o_lstore, o_astore, o_iinc, o_bin, o_div, o_un, o_lbin, o_lsh, o_lcmp, o_i2l, o_l2i, o_if, o_icmp, o_goto, o_dup, o_dup2, o_pop, fav, o_getf, o_putI, o_putZ, o_putL, o_ald, o_ast, o_alen, popn, rst, o_callV, o_callT, o_callS, swx, o_sw, o_ret, o_iret, o_zret, o_cret, o_lret, o_aret, lg, lput, lput2, ls1, isL, entL, wsum, rdI1, rdI2, rdA1, rdA21, rdA22, rdL1, rdL22, rdL21, upN_at, rep, sh_0, F_0_0, F_0_1, F_0_2, F_0_3, F_0_4, F_0_5, F_0_6, F_0_7, F_0_8, sh_1, F_1_0, F_1_1, F_1_2, F_1_3, F_1_4, F_1_5, sh_3, F_3_0, F_3_1, F_3_2, F_3_3, F_3_4, F_3_5, sh_5, F_5_0, F_5_1, F_5_2, F_5_3, F_5_4, F_5_5, F_5_6, F_5_7, F_5_8, sh_12, F_12_0, F_12_1, F_12_2, F_12_3, F_12_4, F_12_5, sh_14, F_14_0, F_14_1, F_14_2, F_14_3, F_14_4, F_14_5, F_14_6, F_14_7, F_14_8, sh_21, F_21_0, F_21_1, F_21_2, F_21_3, F_21_4, F_21_5, F_21_6, F_21_7, F_21_8, sh_28, F_28_0, F_28_1, F_28_2, F_28_3, F_28_4, F_28_5, F_28_6, F_28_7, F_28_8, sh_35, F_35_0, sh_39, F_39_0, F_39_1, F_39_2, F_39_3, F_39_4, F_39_5, F_39_6, F_39_7, F_39_8, F_39_9, F_39_10, F_39_11, F_39_12, F_39_13, A_2, A_4, A_6, A_7, A_8, A_9, A_10, A_11, A_13, A_15, A_16, A_17, A_18, A_19, A_20, A_22, A_23, A_24, A_25, A_26, A_27, A_29, A_30, A_31, A_32, A_33, A_34, A_36, A_37, A_38, A_40, A_41, A_42, A_43, A_44, A_45, A_46, A_47]
        refine ⟨fun q => absurd q (nI_pos (by omega)), fun _ => ⟨_, L + i, rfl, rfl, by omega, ?_⟩⟩
        dsimp only [k_X4_type_0, k_X4_type_1, k_X4_type_2, k_X4_type_5, k_X4_type_6, k_X4_type_8, k_X4_type_11, k_X4_type_12, k_X4_type_13, k_X4_type_14, k_X4_type_17, k_X4_type_20, k_X4_type_21, k_X4_type_22, k_X4_type_25, k_X4_type_28, k_X4_type_30, k_X4_type_31, k_X4_type_32, k_X4_type_33, k_X4_type_34, k_X4_type_36, k_X4_type_38, k_X4_type_41, k_X4_type_42, k_X4_type_45, k_X4_type_46, k_X4_type_48, k_X4_type_50, k_X4_type_51, k_X4_type_52, k_X4_type_53, k_X4_type_54, k_X4_type_57, k_X4_type_60, k_X4_type_63, k_X4_type_64, k_X4_type_67, k_X4_type_70, wp1, wp_s, cutIn, kont, Nat.reduceSub, Nat.reduceAdd, nth, o_const, o_lconst, o_ref, o_iload, o_lload, o_aload, o_istore, o_lstore, o_astore, o_iinc, o_bin, o_div, o_un, o_lbin, o_lsh, o_lcmp, o_i2l, o_l2i, o_if, o_icmp, o_goto, o_dup, o_dup2, o_pop, fav, o_getf, o_putI, o_putZ, o_putL, o_ald, o_ast, o_alen, popn, rst, o_callV, o_callT, o_callS, swx, o_sw, o_ret, o_iret, o_zret, o_cret, o_lret, o_aret, lg, lput, lput2, ls1, isL, entL, wsum, rdI1, rdI2, rdA1, rdA21, rdA22, rdL1, rdL22, rdL21, upN_at, rep, sh_0, F_0_0, F_0_1, F_0_2, F_0_3, F_0_4, F_0_5, F_0_6, F_0_7, F_0_8, sh_1, F_1_0, F_1_1, F_1_2, F_1_3, F_1_4, F_1_5, sh_3, F_3_0, F_3_1, F_3_2, F_3_3, F_3_4, F_3_5, sh_5, F_5_0, F_5_1, F_5_2, F_5_3, F_5_4, F_5_5, F_5_6, F_5_7, F_5_8, sh_12, F_12_0, F_12_1, F_12_2, F_12_3, F_12_4, F_12_5, sh_14, F_14_0, F_14_1, F_14_2, F_14_3, F_14_4, F_14_5, F_14_6, F_14_7, F_14_8, sh_21, F_21_0, F_21_1, F_21_2, F_21_3, F_21_4, F_21_5, F_21_6, F_21_7, F_21_8, sh_28, F_28_0, F_28_1, F_28_2, F_28_3, F_28_4, F_28_5, F_28_6, F_28_7, F_28_8, sh_35, F_35_0, sh_39, F_39_0, F_39_1, F_39_2, F_39_3, F_39_4, F_39_5, F_39_6, F_39_7, F_39_8, F_39_9, F_39_10, F_39_11, F_39_12, F_39_13, A_2, A_4, A_6, A_7, A_8, A_9, A_10, A_11, A_13, A_15, A_16, A_17, A_18, A_19, A_20, A_22, A_23, A_24, A_25, A_26, A_27, A_29, A_30, A_31, A_32, A_33, A_34, A_36, A_37, A_38, A_40, A_41, A_42, A_43, A_44, A_45, A_46, A_47]
        refine cut _ _ ⟨rfl, rfl, hLn, i + 1, by omega, ?_, rfl, rfl⟩ (by omega) ⟨rfl, rfl, rfl, vi_eq ?_, trivial⟩
        · rw [show tyM v n L (M.2.2 0) (i + 1) = upd (tyM v n L (M.2.2 0) i) (L + i) (vp_nar .byte (tyf v (nI (n - 1 - i)))) from rfl]
          unfold tyf
          simp only [sA_sA, sA_cm, sI_sA, sI_sI, sI_cm, sL_sA, sL_sI, sL_sL, sL_cm, Nat.reduceLT]
          rw [show n - i - 1 = n - 1 - i by omega]
          rfl
        · rw [m1, show n - (i + 1) = n - i - 1 by omega]
    · dsimp only [k_X4_type_0, k_X4_type_1, k_X4_type_2, k_X4_type_5, k_X4_type_6, k_X4_type_8, k_X4_type_11, k_X4_type_12, k_X4_type_13, k_X4_type_14, k_X4_type_17, k_X4_type_20, k_X4_type_21, k_X4_type_22, k_X4_type_25, k_X4_type_28, k_X4_type_30, k_X4_type_31, k_X4_type_32, k_X4_type_33, k_X4_type_34, k_X4_type_36, k_X4_type_38, k_X4_type_41, k_X4_type_42, k_X4_type_45, k_X4_type_46, k_X4_type_48, k_X4_type_50, k_X4_type_51, k_X4_type_52, k_X4_type_53, k_X4_type_54, k_X4_type_57, k_X4_type_60, k_X4_type_63, k_X4_type_64, k_X4_type_67, k_X4_type_70, wp1, wp_s, cutIn, kont, Nat.reduceSub, Nat.reduceAdd, nth, o_const, o_lconst, o_ref, o_iload, o_lload, o_aload, o_istore, o_lstore, o_astore, o_iinc, o_bin, o_div, o_un, o_lbin, o_lsh, o_lcmp, o_i2l, o_l2i, o_if, o_icmp, o_goto, o_dup, o_dup2, o_pop, fav, o_getf, o_putI, o_putZ, o_putL, o_ald, o_ast, o_alen, popn, rst, o_callV, o_callT, o_callS, swx, o_sw, o_ret, o_iret, o_zret, o_cret, o_lret, o_aret, lg, lput, lput2, ls1, isL, entL, wsum, rdI1, rdI2, rdA1, rdA21, rdA22, rdL1, rdL22, rdL21, upN_at, rep, sh_0, F_0_0, F_0_1, F_0_2, F_0_3, F_0_4, F_0_5, F_0_6, F_0_7, F_0_8, sh_1, F_1_0, F_1_1, F_1_2, F_1_3, F_1_4, F_1_5, sh_3, F_3_0, F_3_1, F_3_2, F_3_3, F_3_4, F_3_5, sh_5, F_5_0, F_5_1, F_5_2, F_5_3, F_5_4, F_5_5, F_5_6, F_5_7, F_5_8, sh_12, F_12_0, F_12_1, F_12_2, F_12_3, F_12_4, F_12_5, sh_14, F_14_0, F_14_1, F_14_2, F_14_3, F_14_4, F_14_5, F_14_6, F_14_7, F_14_8, sh_21, F_21_0, F_21_1, F_21_2, F_21_3, F_21_4, F_21_5, F_21_6, F_21_7, F_21_8, sh_28, F_28_0, F_28_1, F_28_2, F_28_3, F_28_4, F_28_5, F_28_6, F_28_7, F_28_8, sh_35, F_35_0, sh_39, F_39_0, F_39_1, F_39_2, F_39_3, F_39_4, F_39_5, F_39_6, F_39_7, F_39_8, F_39_9, F_39_10, F_39_11, F_39_12, F_39_13, A_2, A_4, A_6, A_7, A_8, A_9, A_10, A_11, A_13, A_15, A_16, A_17, A_18, A_19, A_20, A_22, A_23, A_24, A_25, A_26, A_27, A_29, A_30, A_31, A_32, A_33, A_34, A_36, A_37, A_38, A_40, A_41, A_42, A_43, A_44, A_45, A_46, A_47]
      rw [hL, show (1 : Int32) = nI 1 from rfl, show (8 : Int32) = nI 8 from rfl, show (300 : Int32) = nI 300 from rfl]
      simp (disch := omega) only [nI_leI, nI_ltI, nI_eq, nI_1, nI_add, one_shl, nI_or, nI_xor, nI_and, bit_0, bit_1, true_or, or_true, true_and, and_true, eq_self, not_true_eq_false, not_false_eq_true, forall_const]
      refine ⟨fun q => absurd q (by omega), fun _ => ⟨fun _ => ⟨fun q => cut _ _ ⟨rfl, rfl, q, 0, by omega, ?_, rfl, rfl⟩ (by omega) ⟨rfl, rfl, rfl, rfl, trivial⟩, fun q => h2 n rfl hn1 hn8 (by omega)⟩, fun q => absurd hn8 q⟩⟩
      rw [show tyM v n L (M.2.2 0) 0 = M.2.2 0 from rfl, sA_self]
      exact (sI_id hL).symm
theorem c_X4_type : Ctr yX4_type cX4_type 5 (some .int) ({ frames := 1, cells := 0, slots := 0, locals := 21 } : Room) S_X4_type := ctr_of (T := T_X4_type) (by decide +kernel) (fun post C hr => t_X4_type post C hr) v_X4_type
theorem prs_le (t : Nat → Nat) (L : Nat) : ∀ f p w q d s, p ≤ L → prs t L f p w q d = .inl s → s ≤ L := by
  intro f
  induction f with
  | zero => intro p w q d s hp h; cases h; exact Nat.zero_le _
  | succ f ih =>
    intro p w q d s hp h
    have hS := tkS_ge t hp
    rw [prs] at h
    split at h
    · split at h
      · cases h
      · cases h; exact hS.2
    · split at h
      · cases h; exact hS.2
      · exact ih _ _ _ _ _ (tkP_ge t hp).2 h
theorem upd2n {d : Nat → Int32} {k : Nat} {x : Int32} (h : k ≠ 2) : upd d k x 2 = d 2 := upd_n _ _ (Ne.symm h)
theorem prs_it (t : Nat → Nat) (L : Nat) : ∀ f p w q d d' i, d 2 = nI i → prs t L f p w q d = .inr d' → ∃ j : Nat, j ≤ i + f ∧ d' 2 = nI j := by
  intro f
  induction f with
  | zero => intro p w q d d' i _ h; cases h
  | succ f ih =>
    intro p w q d d' i hi h
    rw [prs] at h
    split at h
    · split at h
      · cases h; exact ⟨i, by omega, hi⟩
      · cases h
    · split at h
      · cases h
      · rename_i x hx
        have e := stp_2 hx
        split at h
        · obtain ⟨j, h1, h2⟩ := ih _ _ _ _ d' (i + 1) (by rw [upd_s, e, hi, nI_1]) h
          exact ⟨j, by omega, h2⟩
        · obtain ⟨j, h1, h2⟩ := ih _ _ _ _ d' i (by rw [e, hi]) h
          exact ⟨j, by omega, h2⟩
theorem neg10 : ∀ s, s < 301 → ¬ (0 : Int32) ≤ -10 - nI s := by decide +kernel
set_option maxRecDepth 100000 in
theorem v_X4_house : ∀ as M post, S_X4_house as M post → wsum as ≤ 2 ∧ RUN (T_X4_house post) 0 (entL 2 as) [] M := by
  rintro as M post ⟨L, t, rfl, hT, h1, h2⟩
  have hT2 := hT.2.1
  refine ⟨by show 1 ≤ 2; omega, run_wp 60 ?_⟩
  dsimp only [k_X4_house_0, k_X4_house_1, k_X4_house_4, k_X4_house_5, k_X4_house_8, k_X4_house_11, k_X4_house_12, k_X4_house_13, k_X4_house_16, k_X4_house_17, k_X4_house_18, k_X4_house_19, k_X4_house_22, k_X4_house_23, k_X4_house_26, k_X4_house_29, k_X4_house_30, k_X4_house_33, k_X4_house_34, k_X4_house_37, k_X4_house_38, k_X4_house_41, k_X4_house_42, k_X4_house_45, k_X4_house_46, k_X4_house_49, k_X4_house_50, k_X4_house_53, k_X4_house_54, wp1, wp_s, cutIn, kont, Nat.reduceSub, Nat.reduceAdd, nth, o_const, o_lconst, o_ref, o_iload, o_lload, o_aload, o_istore, o_lstore, o_astore, o_iinc, o_bin, o_div, o_un, o_lbin, o_lsh, o_lcmp, o_i2l, o_l2i, o_if, o_icmp, o_goto, o_dup, o_dup2, o_pop, fav, o_getf, o_putI, o_putZ, o_putL, o_ald, o_ast, o_alen, popn, rst, o_callV, o_callT, o_callS, swx, o_sw, o_ret, o_iret, o_zret, o_cret, o_lret, o_aret, lg, lput, lput2, ls1, isL, entL, wsum, rdI1, rdI2, rdA1, rdA21, rdA22, rdL1, rdL22, rdL21, upN_at, rep, sh_0, F_0_0, F_0_1, F_0_2, F_0_3, F_0_4, F_0_5, F_0_6, F_0_7, F_0_8, sh_1, F_1_0, F_1_1, F_1_2, F_1_3, F_1_4, F_1_5, sh_3, F_3_0, F_3_1, F_3_2, F_3_3, F_3_4, F_3_5, sh_5, F_5_0, F_5_1, F_5_2, F_5_3, F_5_4, F_5_5, F_5_6, F_5_7, F_5_8, sh_12, F_12_0, F_12_1, F_12_2, F_12_3, F_12_4, F_12_5, sh_14, F_14_0, F_14_1, F_14_2, F_14_3, F_14_4, F_14_5, F_14_6, F_14_7, F_14_8, sh_21, F_21_0, F_21_1, F_21_2, F_21_3, F_21_4, F_21_5, F_21_6, F_21_7, F_21_8, sh_28, F_28_0, F_28_1, F_28_2, F_28_3, F_28_4, F_28_5, F_28_6, F_28_7, F_28_8, sh_35, F_35_0, sh_39, F_39_0, F_39_1, F_39_2, F_39_3, F_39_4, F_39_5, F_39_6, F_39_7, F_39_8, F_39_9, F_39_10, F_39_11, F_39_12, F_39_13, A_2, A_4, A_6, A_7, A_8, A_9, A_10, A_11, A_13, A_15, A_16, A_17, A_18, A_19, A_20, A_22, A_23, A_24, A_25, A_26, A_27, A_29, A_30, A_31, A_32, A_33, A_34, A_36, A_37, A_38, A_40, A_41, A_42, A_43, A_44, A_45, A_46, A_47]
  refine ⟨L, t, rfl, hT, fun s hs M' hf => ?_, fun d hd M' hf hD hk => ?_⟩
  · have hsl := prs_le t L 301 0 0 0 d0 s (Nat.zero_le _) hs
    dsimp only [k_X4_house_0, k_X4_house_1, k_X4_house_4, k_X4_house_5, k_X4_house_8, k_X4_house_11, k_X4_house_12, k_X4_house_13, k_X4_house_16, k_X4_house_17, k_X4_house_18, k_X4_house_19, k_X4_house_22, k_X4_house_23, k_X4_house_26, k_X4_house_29, k_X4_house_30, k_X4_house_33, k_X4_house_34, k_X4_house_37, k_X4_house_38, k_X4_house_41, k_X4_house_42, k_X4_house_45, k_X4_house_46, k_X4_house_49, k_X4_house_50, k_X4_house_53, k_X4_house_54, wp1, wp_s, cutIn, kont, Nat.reduceSub, Nat.reduceAdd, nth, o_const, o_lconst, o_ref, o_iload, o_lload, o_aload, o_istore, o_lstore, o_astore, o_iinc, o_bin, o_div, o_un, o_lbin, o_lsh, o_lcmp, o_i2l, o_l2i, o_if, o_icmp, o_goto, o_dup, o_dup2, o_pop, fav, o_getf, o_putI, o_putZ, o_putL, o_ald, o_ast, o_alen, popn, rst, o_callV, o_callT, o_callS, swx, o_sw, o_ret, o_iret, o_zret, o_cret, o_lret, o_aret, lg, lput, lput2, ls1, isL, entL, wsum, rdI1, rdI2, rdA1, rdA21, rdA22, rdL1, rdL22, rdL21, upN_at, rep, sh_0, F_0_0, F_0_1, F_0_2, F_0_3, F_0_4, F_0_5, F_0_6, F_0_7, F_0_8, sh_1, F_1_0, F_1_1, F_1_2, F_1_3, F_1_4, F_1_5, sh_3, F_3_0, F_3_1, F_3_2, F_3_3, F_3_4, F_3_5, sh_5, F_5_0, F_5_1, F_5_2, F_5_3, F_5_4, F_5_5, F_5_6, F_5_7, F_5_8, sh_12, F_12_0, F_12_1, F_12_2, F_12_3, F_12_4, F_12_5, sh_14, F_14_0, F_14_1, F_14_2, F_14_3, F_14_4, F_14_5, F_14_6, F_14_7, F_14_8, sh_21, F_21_0, F_21_1, F_21_2, F_21_3, F_21_4, F_21_5, F_21_6, F_21_7, F_21_8, sh_28, F_28_0, F_28_1, F_28_2, F_28_3, F_28_4, F_28_5, F_28_6, F_28_7, F_28_8, sh_35, F_35_0, sh_39, F_39_0, F_39_1, F_39_2, F_39_3, F_39_4, F_39_5, F_39_6, F_39_7, F_39_8, F_39_9, F_39_10, F_39_11, F_39_12, F_39_13, A_2, A_4, A_6, A_7, A_8, A_9, A_10, A_11, A_13, A_15, A_16, A_17, A_18, A_19, A_20, A_22, A_23, A_24, A_25, A_26, A_27, A_29, A_30, A_31, A_32, A_33, A_34, A_36, A_37, A_38, A_40, A_41, A_42, A_43, A_44, A_45, A_46, A_47]
    exact ⟨fun q => absurd q (neg10 s (by omega)), fun _ => h1 s hs (by omega) M' hf⟩
  · obtain ⟨i, hi, hi2⟩ := prs_it t L 301 0 0 0 d0 d 0 rfl hd
    dsimp only [k_X4_house_0, k_X4_house_1, k_X4_house_4, k_X4_house_5, k_X4_house_8, k_X4_house_11, k_X4_house_12, k_X4_house_13, k_X4_house_16, k_X4_house_17, k_X4_house_18, k_X4_house_19, k_X4_house_22, k_X4_house_23, k_X4_house_26, k_X4_house_29, k_X4_house_30, k_X4_house_33, k_X4_house_34, k_X4_house_37, k_X4_house_38, k_X4_house_41, k_X4_house_42, k_X4_house_45, k_X4_house_46, k_X4_house_49, k_X4_house_50, k_X4_house_53, k_X4_house_54, wp1, wp_s, cutIn, kont, Nat.reduceSub, Nat.reduceAdd, nth, o_const, o_lconst, o_ref, o_iload, o_lload, o_aload, o_istore, o_lstore, o_astore, o_iinc, o_bin, o_div, o_un, o_lbin, o_lsh, o_lcmp, o_i2l, o_l2i, o_if, o_icmp, o_goto, o_dup, o_dup2, o_pop, fav, o_getf, o_putI, o_putZ, o_putL, o_ald, o_ast, o_alen, popn, rst, o_callV, o_callT, o_callS, swx, o_sw, o_ret, o_iret, o_zret, o_cret, o_lret, o_aret, lg, lput, lput2, ls1, isL, entL, wsum, rdI1, rdI2, rdA1, rdA21, rdA22, rdL1, rdL22, rdL21, upN_at, rep, sh_0, F_0_0, F_0_1, F_0_2, F_0_3, F_0_4, F_0_5, F_0_6, F_0_7, F_0_8, sh_1, F_1_0, F_1_1, F_1_2, F_1_3, F_1_4, F_1_5, sh_3, F_3_0, F_3_1, F_3_2, F_3_3, F_3_4, F_3_5, sh_5, F_5_0, F_5_1, F_5_2, F_5_3, F_5_4, F_5_5, F_5_6, F_5_7, F_5_8, sh_12, F_12_0, F_12_1, F_12_2, F_12_3, F_12_4, F_12_5, sh_14, F_14_0, F_14_1, F_14_2, F_14_3, F_14_4, F_14_5, F_14_6, F_14_7, F_14_8, sh_21, F_21_0, F_21_1, F_21_2, F_21_3, F_21_4, F_21_5, F_21_6, F_21_7, F_21_8, sh_28, F_28_0, F_28_1, F_28_2, F_28_3, F_28_4, F_28_5, F_28_6, F_28_7, F_28_8, sh_35, F_35_0, sh_39, F_39_0, F_39_1, F_39_2, F_39_3, F_39_4, F_39_5, F_39_6, F_39_7, F_39_8, F_39_9, F_39_10, F_39_11, F_39_12, F_39_13, A_2, A_4, A_6, A_7, A_8, A_9, A_10, A_11, A_13, A_15, A_16, A_17, A_18, A_19, A_20, A_22, A_23, A_24, A_25, A_26, A_27, A_29, A_30, A_31, A_32, A_33, A_34, A_36, A_37, A_38, A_40, A_41, A_42, A_43, A_44, A_45, A_46, A_47]
    rw [hi2]
    refine ⟨fun _ => ⟨rfl, ?_⟩, fun q => absurd (nI_pos' (by omega)) q⟩
    dsimp only [k_X4_house_0, k_X4_house_1, k_X4_house_4, k_X4_house_5, k_X4_house_8, k_X4_house_11, k_X4_house_12, k_X4_house_13, k_X4_house_16, k_X4_house_17, k_X4_house_18, k_X4_house_19, k_X4_house_22, k_X4_house_23, k_X4_house_26, k_X4_house_29, k_X4_house_30, k_X4_house_33, k_X4_house_34, k_X4_house_37, k_X4_house_38, k_X4_house_41, k_X4_house_42, k_X4_house_45, k_X4_house_46, k_X4_house_49, k_X4_house_50, k_X4_house_53, k_X4_house_54, wp1, wp_s, cutIn, kont, Nat.reduceSub, Nat.reduceAdd, nth, o_const, o_lconst, o_ref, o_iload, o_lload, o_aload, o_istore, o_lstore, o_astore, o_iinc, o_bin, o_div, o_un, o_lbin, o_lsh, o_lcmp, o_i2l, o_l2i, o_if, o_icmp, o_goto, o_dup, o_dup2, o_pop, fav, o_getf, o_putI, o_putZ, o_putL, o_ald, o_ast, o_alen, popn, rst, o_callV, o_callT, o_callS, swx, o_sw, o_ret, o_iret, o_zret, o_cret, o_lret, o_aret, lg, lput, lput2, ls1, isL, entL, wsum, rdI1, rdI2, rdA1, rdA21, rdA22, rdL1, rdL22, rdL21, upN_at, rep, sh_0, F_0_0, F_0_1, F_0_2, F_0_3, F_0_4, F_0_5, F_0_6, F_0_7, F_0_8, sh_1, F_1_0, F_1_1, F_1_2, F_1_3, F_1_4, F_1_5, sh_3, F_3_0, F_3_1, F_3_2, F_3_3, F_3_4, F_3_5, sh_5, F_5_0, F_5_1, F_5_2, F_5_3, F_5_4, F_5_5, F_5_6, F_5_7, F_5_8, sh_12, F_12_0, F_12_1, F_12_2, F_12_3, F_12_4, F_12_5, sh_14, F_14_0, F_14_1, F_14_2, F_14_3, F_14_4, F_14_5, F_14_6, F_14_7, F_14_8, sh_21, F_21_0, F_21_1, F_21_2, F_21_3, F_21_4, F_21_5, F_21_6, F_21_7, F_21_8, sh_28, F_28_0, F_28_1, F_28_2, F_28_3, F_28_4, F_28_5, F_28_6, F_28_7, F_28_8, sh_35, F_35_0, sh_39, F_39_0, F_39_1, F_39_2, F_39_3, F_39_4, F_39_5, F_39_6, F_39_7, F_39_8, F_39_9, F_39_10, F_39_11, F_39_12, F_39_13, A_2, A_4, A_6, A_7, A_8, A_9, A_10, A_11, A_13, A_15, A_16, A_17, A_18, A_19, A_20, A_22, A_23, A_24, A_25, A_26, A_27, A_29, A_30, A_31, A_32, A_33, A_34, A_36, A_37, A_38, A_40, A_41, A_42, A_43, A_44, A_45, A_46, A_47]
    simp only [true_or, true_and]
    have h := h2 d hd M' hf hD hk ⟨i, by omega, hi2⟩
    rw [hi2] at h
    exact h
theorem c_X4_house : Ctr yX4_house cX4_house 2 (some .int) ({ frames := 9, cells := 0, slots := 0, locals := 191 } : Room) S_X4_house := ctr_of (T := T_X4_house) (by decide +kernel) (fun post C hr => t_X4_house post C hr) v_X4_house
