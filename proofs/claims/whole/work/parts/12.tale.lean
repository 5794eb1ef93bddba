/-! The class's text. -/
/-- the text: L bytes t -/
def TX (M : AM) (L : Nat) (t : Nat → Nat) : Prop := M.1 0 = nI L ∧ L ≤ 300 ∧ ∀ j, j < L → M.2.2 0 j &&& 255 = nI (t j) ∧ t j < 256
def bAt (t : Nat → Nat) (L i : Nat) : Int32 := if i < L then nI (t i) else -1
/-- on, while P holds; at most n bytes -/
def sk (P : Nat → Bool) (t : Nat → Nat) : Nat → Nat → Nat
  | 0, i => i
  | n + 1, i => if P (t i) = true then sk P t n (i + 1) else i
def isD (c : Nat) : Bool := decide (48 ≤ c) && decide (c ≤ 57)
def isW (c : Nat) : Bool := decide (97 ≤ c) && decide (c ≤ 122)
def isS (c : Nat) : Bool := decide (c = 32)
theorem sk_ge (P : Nat → Bool) (t : Nat → Nat) : ∀ n i, i ≤ sk P t n i ∧ sk P t n i ≤ i + n := by
  intro n
  induction n with
  | zero => intro i; exact ⟨Nat.le_refl _, Nat.le_refl _⟩
  | succ n ih =>
    intro i
    rw [sk]
    split
    · have := ih (i + 1); omega
    · omega
theorem sk_s {P : Nat → Bool} {t : Nat → Nat} {L i : Nat} (hi : i < L) (h : P (t i) = true) : sk P t (L - i) i = sk P t (L - (i + 1)) (i + 1) := by
  rw [show L - i = (L - (i + 1)) + 1 by omega, sk, if_pos h]
theorem sk_e {P : Nat → Bool} {t : Nat → Nat} {L i : Nat} (h : i < L → P (t i) = false) : sk P t (L - i) i = i := by
  cases hk : L - i with
  | zero => rfl
  | succ k => rw [sk, if_neg (by rw [h (by omega)]; decide)]
def S_X3_append : SP := fun as M post => ∃ x L, as = [VR 1, VI x] ∧ M.1 0 = nI L ∧ L < 300 ∧ post none (sI 0 (nI (L + 1)) (sA 0 (upd (M.2.2 0) L (vp_nar .byte x)) M))
def S_X3_byteAt : SP := fun as M post => ∃ L t i, as = [VR 1, VI (nI i)] ∧ TX M L t ∧ i < 1000 ∧ post (some (VI (bAt t L i))) M
def S_X3_isDigit : SP := fun as M post => ∃ x, as = [VI x] ∧ pz (48 ≤ x ∧ x ≤ 57) post M
def S_X3_isLetter : SP := fun as M post => ∃ x, as = [VI x] ∧ pz (97 ≤ x ∧ x ≤ 122) post M
theorem fl_RX3_15 : Cond.fieldLink RX3 15 (TX3 1).1 (TX3 1).2.1 (TX3 1).2.2.1 ∈ tb := tb_of 80 (by decide +kernel) (by decide +kernel)
theorem fl_RX3_9 : Cond.fieldLink RX3 9 (TX3 0).1 (TX3 0).2.1 (TX3 0).2.2.1 ∈ tb := tb_of 79 (by decide +kernel) (by decide +kernel)
theorem dX3_append_0 : decode cX3_append 0 = .ok (.aload_n 0, 1) := by decide +kernel
theorem dX3_append_1 : decode cX3_append 1 = .ok (.getfield 15, 3) := by decide +kernel
theorem dX3_append_4 : decode cX3_append 4 = .ok (.ifCond .lt 35, 3) := by decide +kernel
theorem dX3_append_7 : decode cX3_append 7 = .ok (.aload_n 0, 1) := by decide +kernel
theorem dX3_append_8 : decode cX3_append 8 = .ok (.getfield 15, 3) := by decide +kernel
theorem dX3_append_11 : decode cX3_append 11 = .ok (.aload_n 0, 1) := by decide +kernel
theorem dX3_append_12 : decode cX3_append 12 = .ok (.getfield 9, 3) := by decide +kernel
theorem dX3_append_15 : decode cX3_append 15 = .ok (.arraylength, 1) := by decide +kernel
theorem dX3_append_16 : decode cX3_append 16 = .ok (.if_icmp .ge 23, 3) := by decide +kernel
theorem dX3_append_19 : decode cX3_append 19 = .ok (.aload_n 0, 1) := by decide +kernel
theorem dX3_append_20 : decode cX3_append 20 = .ok (.getfield 9, 3) := by decide +kernel
theorem dX3_append_23 : decode cX3_append 23 = .ok (.aload_n 0, 1) := by decide +kernel
theorem dX3_append_24 : decode cX3_append 24 = .ok (.getfield 15, 3) := by decide +kernel
theorem dX3_append_27 : decode cX3_append 27 = .ok (.iload_n 1, 1) := by decide +kernel
theorem dX3_append_28 : decode cX3_append 28 = .ok (.bastore, 1) := by decide +kernel
theorem dX3_append_29 : decode cX3_append 29 = .ok (.aload_n 0, 1) := by decide +kernel
theorem dX3_append_30 : decode cX3_append 30 = .ok (.dup, 1) := by decide +kernel
theorem dX3_append_31 : decode cX3_append 31 = .ok (.getfield 15, 3) := by decide +kernel
theorem dX3_append_34 : decode cX3_append 34 = .ok (.iconst 1, 1) := by decide +kernel
theorem dX3_append_35 : decode cX3_append 35 = .ok (.iadd, 1) := by decide +kernel
theorem dX3_append_36 : decode cX3_append 36 = .ok (.putfield 15, 3) := by decide +kernel
theorem dX3_append_39 : decode cX3_append 39 = .ok (.return_, 1) := by decide +kernel
def T_X3_append (post : PO) : List (Nat × OP) := [(0, o_aload 0 1), (1, o_getf 3 1 4), (4, o_if (fun x => x < 0) 39 7), (7, o_aload 0 8), (8, o_getf 3 1 11), (11, o_aload 0 12), (12, o_getf 3 0 15), (15, o_alen 1 16), (16, o_icmp (fun x y => y ≤ x) 39 19), (19, o_aload 0 20), (20, o_getf 3 0 23), (23, o_aload 0 24), (24, o_getf 3 1 27), (27, o_iload 1 28), (28, o_ast 1 (vp_nar .byte) 29), (29, o_aload 0 30), (30, o_dup 31), (31, o_getf 3 1 34), (34, o_const 1 35), (35, o_bin (fun x y => x + y) 36), (36, o_putI 3 1 39), (39, o_ret post)]
theorem k_X3_append_0 (post : PO) : lk (T_X3_append post) 0 = o_aload 0 1 := rfl
theorem k_X3_append_1 (post : PO) : lk (T_X3_append post) 1 = o_getf 3 1 4 := rfl
theorem k_X3_append_4 (post : PO) : lk (T_X3_append post) 4 = o_if (fun x => x < 0) 39 7 := rfl
theorem k_X3_append_7 (post : PO) : lk (T_X3_append post) 7 = o_aload 0 8 := rfl
theorem k_X3_append_8 (post : PO) : lk (T_X3_append post) 8 = o_getf 3 1 11 := rfl
theorem k_X3_append_11 (post : PO) : lk (T_X3_append post) 11 = o_aload 0 12 := rfl
theorem k_X3_append_12 (post : PO) : lk (T_X3_append post) 12 = o_getf 3 0 15 := rfl
theorem k_X3_append_15 (post : PO) : lk (T_X3_append post) 15 = o_alen 1 16 := rfl
theorem k_X3_append_16 (post : PO) : lk (T_X3_append post) 16 = o_icmp (fun x y => y ≤ x) 39 19 := rfl
theorem k_X3_append_19 (post : PO) : lk (T_X3_append post) 19 = o_aload 0 20 := rfl
theorem k_X3_append_20 (post : PO) : lk (T_X3_append post) 20 = o_getf 3 0 23 := rfl
theorem k_X3_append_23 (post : PO) : lk (T_X3_append post) 23 = o_aload 0 24 := rfl
theorem k_X3_append_24 (post : PO) : lk (T_X3_append post) 24 = o_getf 3 1 27 := rfl
theorem k_X3_append_27 (post : PO) : lk (T_X3_append post) 27 = o_iload 1 28 := rfl
theorem k_X3_append_28 (post : PO) : lk (T_X3_append post) 28 = o_ast 1 (vp_nar .byte) 29 := rfl
theorem k_X3_append_29 (post : PO) : lk (T_X3_append post) 29 = o_aload 0 30 := rfl
theorem k_X3_append_30 (post : PO) : lk (T_X3_append post) 30 = o_dup 31 := rfl
theorem k_X3_append_31 (post : PO) : lk (T_X3_append post) 31 = o_getf 3 1 34 := rfl
theorem k_X3_append_34 (post : PO) : lk (T_X3_append post) 34 = o_const 1 35 := rfl
theorem k_X3_append_35 (post : PO) : lk (T_X3_append post) 35 = o_bin (fun x y => x + y) 36 := rfl
theorem k_X3_append_36 (post : PO) : lk (T_X3_append post) 36 = o_putI 3 1 39 := rfl
theorem k_X3_append_39 (post : PO) : lk (T_X3_append post) 39 = o_ret post := rfl
set_option maxRecDepth 100000 in
theorem t_X3_append {p : Program} {l : Launch} {e : Env} {s : State} {m : MethodId} {args : Array Value} {below : List Frame} {meth : Method} {c : Code} {D : va_G} {dA : Nat → ClassId} {ad : Nat → Nat} (post : PO) (C : CX p s m args meth c cX3_append 2 yX3_append.cls D dA ad (AA ad s.heap.size)) (hr : meth.sig.returnType = none) : SndL (WW p l e ({ frames := 0, cells := 0, slots := 0, locals := 0 } : Room) s m args below meth c 0 0 (MQ below (CQ D dA ad post (AA ad s.heap.size)) args s 0 0 (AA ad s.heap.size)) 2 D dA ad (AA ad s.heap.size)) (T_X3_append post) := by
  refine snd_c (s_aload_n C rfl dX3_append_0) ?_
  refine snd_c (s_getf C (ci := 3) (j := 1) (T := TX3) rfl inX3 (by decide) fl_RX3_15 dX3_append_1) ?_
  refine snd_c (s_if_lt C dX3_append_4 (by decide)) ?_
  refine snd_c (s_aload_n C rfl dX3_append_7) ?_
  refine snd_c (s_getf C (ci := 3) (j := 1) (T := TX3) rfl inX3 (by decide) fl_RX3_15 dX3_append_8) ?_
  refine snd_c (s_aload_n C rfl dX3_append_11) ?_
  refine snd_c (s_getf C (ci := 3) (j := 0) (T := TX3) rfl inX3 (by decide) fl_RX3_9 dX3_append_12) ?_
  refine snd_c (s_alen C (t := 1) rfl dX3_append_15) ?_
  refine snd_c (s_icmp_ge C dX3_append_16 (by decide)) ?_
  refine snd_c (s_aload_n C rfl dX3_append_19) ?_
  refine snd_c (s_getf C (ci := 3) (j := 0) (T := TX3) rfl inX3 (by decide) fl_RX3_9 dX3_append_20) ?_
  refine snd_c (s_aload_n C rfl dX3_append_23) ?_
  refine snd_c (s_getf C (ci := 3) (j := 1) (T := TX3) rfl inX3 (by decide) fl_RX3_15 dX3_append_24) ?_
  refine snd_c (s_iload_n C rfl dX3_append_27) ?_
  refine snd_c (s_bast1 C dX3_append_28) ?_
  refine snd_c (s_aload_n C rfl dX3_append_29) ?_
  refine snd_c (s_dup C dX3_append_30) ?_
  refine snd_c (s_getf C (ci := 3) (j := 1) (T := TX3) rfl inX3 (by decide) fl_RX3_15 dX3_append_31) ?_
  refine snd_c (s_iconst C dX3_append_34 rfl) ?_
  refine snd_c (s_iadd C dX3_append_35) ?_
  refine snd_c (s_putI C (ci := 3) (j := 1) (T := TX3) tyX3 tyX3_ok nmX3 rfl inX3 (by decide) rfl rfl fl_RX3_15 dX3_append_36) ?_
  refine snd_c (s_ret C hr dX3_append_39) ?_
  exact trivial
theorem dX3_byteAt_0 : decode cX3_byteAt 0 = .ok (.iload_n 1, 1) := by decide +kernel
theorem dX3_byteAt_1 : decode cX3_byteAt 1 = .ok (.ifCond .lt 33, 3) := by decide +kernel
theorem dX3_byteAt_4 : decode cX3_byteAt 4 = .ok (.iload_n 1, 1) := by decide +kernel
theorem dX3_byteAt_5 : decode cX3_byteAt 5 = .ok (.aload_n 0, 1) := by decide +kernel
theorem dX3_byteAt_6 : decode cX3_byteAt 6 = .ok (.getfield 15, 3) := by decide +kernel
theorem dX3_byteAt_9 : decode cX3_byteAt 9 = .ok (.if_icmp .ge 25, 3) := by decide +kernel
theorem dX3_byteAt_12 : decode cX3_byteAt 12 = .ok (.iload_n 1, 1) := by decide +kernel
theorem dX3_byteAt_13 : decode cX3_byteAt 13 = .ok (.aload_n 0, 1) := by decide +kernel
theorem dX3_byteAt_14 : decode cX3_byteAt 14 = .ok (.getfield 9, 3) := by decide +kernel
theorem dX3_byteAt_17 : decode cX3_byteAt 17 = .ok (.arraylength, 1) := by decide +kernel
theorem dX3_byteAt_18 : decode cX3_byteAt 18 = .ok (.if_icmp .ge 16, 3) := by decide +kernel
theorem dX3_byteAt_21 : decode cX3_byteAt 21 = .ok (.aload_n 0, 1) := by decide +kernel
theorem dX3_byteAt_22 : decode cX3_byteAt 22 = .ok (.getfield 9, 3) := by decide +kernel
theorem dX3_byteAt_25 : decode cX3_byteAt 25 = .ok (.iload_n 1, 1) := by decide +kernel
theorem dX3_byteAt_26 : decode cX3_byteAt 26 = .ok (.baload, 1) := by decide +kernel
theorem dX3_byteAt_27 : decode cX3_byteAt 27 = .ok (.sipush 255, 3) := by decide +kernel
theorem dX3_byteAt_30 : decode cX3_byteAt 30 = .ok (.iand, 1) := by decide +kernel
theorem dX3_byteAt_31 : decode cX3_byteAt 31 = .ok (.goto 4, 3) := by decide +kernel
theorem dX3_byteAt_34 : decode cX3_byteAt 34 = .ok (.iconst (-1), 1) := by decide +kernel
theorem dX3_byteAt_35 : decode cX3_byteAt 35 = .ok (.ireturn, 1) := by decide +kernel
def T_X3_byteAt (post : PO) : List (Nat × OP) := [(0, o_iload 1 1), (1, o_if (fun x => x < 0) 34 4), (4, o_iload 1 5), (5, o_aload 0 6), (6, o_getf 3 1 9), (9, o_icmp (fun x y => y ≤ x) 34 12), (12, o_iload 1 13), (13, o_aload 0 14), (14, o_getf 3 0 17), (17, o_alen 1 18), (18, o_icmp (fun x y => y ≤ x) 34 21), (21, o_aload 0 22), (22, o_getf 3 0 25), (25, o_iload 1 26), (26, o_ald 1 27), (27, o_const 255 30), (30, o_bin (fun x y => x &&& y) 31), (31, o_goto 35), (34, o_const (-1) 35), (35, o_iret post)]
theorem k_X3_byteAt_0 (post : PO) : lk (T_X3_byteAt post) 0 = o_iload 1 1 := rfl
theorem k_X3_byteAt_1 (post : PO) : lk (T_X3_byteAt post) 1 = o_if (fun x => x < 0) 34 4 := rfl
theorem k_X3_byteAt_4 (post : PO) : lk (T_X3_byteAt post) 4 = o_iload 1 5 := rfl
theorem k_X3_byteAt_5 (post : PO) : lk (T_X3_byteAt post) 5 = o_aload 0 6 := rfl
theorem k_X3_byteAt_6 (post : PO) : lk (T_X3_byteAt post) 6 = o_getf 3 1 9 := rfl
theorem k_X3_byteAt_9 (post : PO) : lk (T_X3_byteAt post) 9 = o_icmp (fun x y => y ≤ x) 34 12 := rfl
theorem k_X3_byteAt_12 (post : PO) : lk (T_X3_byteAt post) 12 = o_iload 1 13 := rfl
theorem k_X3_byteAt_13 (post : PO) : lk (T_X3_byteAt post) 13 = o_aload 0 14 := rfl
theorem k_X3_byteAt_14 (post : PO) : lk (T_X3_byteAt post) 14 = o_getf 3 0 17 := rfl
theorem k_X3_byteAt_17 (post : PO) : lk (T_X3_byteAt post) 17 = o_alen 1 18 := rfl
theorem k_X3_byteAt_18 (post : PO) : lk (T_X3_byteAt post) 18 = o_icmp (fun x y => y ≤ x) 34 21 := rfl
theorem k_X3_byteAt_21 (post : PO) : lk (T_X3_byteAt post) 21 = o_aload 0 22 := rfl
theorem k_X3_byteAt_22 (post : PO) : lk (T_X3_byteAt post) 22 = o_getf 3 0 25 := rfl
theorem k_X3_byteAt_25 (post : PO) : lk (T_X3_byteAt post) 25 = o_iload 1 26 := rfl
theorem k_X3_byteAt_26 (post : PO) : lk (T_X3_byteAt post) 26 = o_ald 1 27 := rfl
theorem k_X3_byteAt_27 (post : PO) : lk (T_X3_byteAt post) 27 = o_const 255 30 := rfl
theorem k_X3_byteAt_30 (post : PO) : lk (T_X3_byteAt post) 30 = o_bin (fun x y => x &&& y) 31 := rfl
theorem k_X3_byteAt_31 (post : PO) : lk (T_X3_byteAt post) 31 = o_goto 35 := rfl
theorem k_X3_byteAt_34 (post : PO) : lk (T_X3_byteAt post) 34 = o_const (-1) 35 := rfl
theorem k_X3_byteAt_35 (post : PO) : lk (T_X3_byteAt post) 35 = o_iret post := rfl
set_option maxRecDepth 100000 in
theorem t_X3_byteAt {p : Program} {l : Launch} {e : Env} {s : State} {m : MethodId} {args : Array Value} {below : List Frame} {meth : Method} {c : Code} {D : va_G} {dA : Nat → ClassId} {ad : Nat → Nat} (post : PO) (C : CX p s m args meth c cX3_byteAt 2 yX3_byteAt.cls D dA ad (AA ad s.heap.size)) (hr : meth.sig.returnType = (some .int)) : SndL (WW p l e ({ frames := 0, cells := 0, slots := 0, locals := 0 } : Room) s m args below meth c 0 0 (MQ below (CQ D dA ad post (AA ad s.heap.size)) args s 0 0 (AA ad s.heap.size)) 2 D dA ad (AA ad s.heap.size)) (T_X3_byteAt post) := by
  refine snd_c (s_iload_n C rfl dX3_byteAt_0) ?_
  refine snd_c (s_if_lt C dX3_byteAt_1 (by decide)) ?_
  refine snd_c (s_iload_n C rfl dX3_byteAt_4) ?_
  refine snd_c (s_aload_n C rfl dX3_byteAt_5) ?_
  refine snd_c (s_getf C (ci := 3) (j := 1) (T := TX3) rfl inX3 (by decide) fl_RX3_15 dX3_byteAt_6) ?_
  refine snd_c (s_icmp_ge C dX3_byteAt_9 (by decide)) ?_
  refine snd_c (s_iload_n C rfl dX3_byteAt_12) ?_
  refine snd_c (s_aload_n C rfl dX3_byteAt_13) ?_
  refine snd_c (s_getf C (ci := 3) (j := 0) (T := TX3) rfl inX3 (by decide) fl_RX3_9 dX3_byteAt_14) ?_
  refine snd_c (s_alen C (t := 1) rfl dX3_byteAt_17) ?_
  refine snd_c (s_icmp_ge C dX3_byteAt_18 (by decide)) ?_
  refine snd_c (s_aload_n C rfl dX3_byteAt_21) ?_
  refine snd_c (s_getf C (ci := 3) (j := 0) (T := TX3) rfl inX3 (by decide) fl_RX3_9 dX3_byteAt_22) ?_
  refine snd_c (s_iload_n C rfl dX3_byteAt_25) ?_
  refine snd_c (s_bald1 C dX3_byteAt_26) ?_
  refine snd_c (s_sipush C dX3_byteAt_27 rfl) ?_
  refine snd_c (s_iand C dX3_byteAt_30) ?_
  refine snd_c (s_goto C dX3_byteAt_31 (by decide)) ?_
  refine snd_c (s_iconst C dX3_byteAt_34 rfl) ?_
  refine snd_c (s_iret C hr dX3_byteAt_35) ?_
  exact trivial
theorem dX3_isDigit_0 : decode cX3_isDigit 0 = .ok (.iload_n 0, 1) := by decide +kernel
theorem dX3_isDigit_1 : decode cX3_isDigit 1 = .ok (.bipush 48, 2) := by decide +kernel
theorem dX3_isDigit_3 : decode cX3_isDigit 3 = .ok (.if_icmp .lt 13, 3) := by decide +kernel
theorem dX3_isDigit_6 : decode cX3_isDigit 6 = .ok (.iload_n 0, 1) := by decide +kernel
theorem dX3_isDigit_7 : decode cX3_isDigit 7 = .ok (.bipush 57, 2) := by decide +kernel
theorem dX3_isDigit_9 : decode cX3_isDigit 9 = .ok (.if_icmp .gt 7, 3) := by decide +kernel
theorem dX3_isDigit_12 : decode cX3_isDigit 12 = .ok (.iconst 1, 1) := by decide +kernel
theorem dX3_isDigit_13 : decode cX3_isDigit 13 = .ok (.goto 4, 3) := by decide +kernel
theorem dX3_isDigit_16 : decode cX3_isDigit 16 = .ok (.iconst 0, 1) := by decide +kernel
theorem dX3_isDigit_17 : decode cX3_isDigit 17 = .ok (.ireturn, 1) := by decide +kernel
def T_X3_isDigit (post : PO) : List (Nat × OP) := [(0, o_iload 0 1), (1, o_const 48 3), (3, o_icmp (fun x y => x < y) 16 6), (6, o_iload 0 7), (7, o_const 57 9), (9, o_icmp (fun x y => y < x) 16 12), (12, o_const 1 13), (13, o_goto 17), (16, o_const 0 17), (17, o_zret post)]
theorem k_X3_isDigit_0 (post : PO) : lk (T_X3_isDigit post) 0 = o_iload 0 1 := rfl
theorem k_X3_isDigit_1 (post : PO) : lk (T_X3_isDigit post) 1 = o_const 48 3 := rfl
theorem k_X3_isDigit_3 (post : PO) : lk (T_X3_isDigit post) 3 = o_icmp (fun x y => x < y) 16 6 := rfl
theorem k_X3_isDigit_6 (post : PO) : lk (T_X3_isDigit post) 6 = o_iload 0 7 := rfl
theorem k_X3_isDigit_7 (post : PO) : lk (T_X3_isDigit post) 7 = o_const 57 9 := rfl
theorem k_X3_isDigit_9 (post : PO) : lk (T_X3_isDigit post) 9 = o_icmp (fun x y => y < x) 16 12 := rfl
theorem k_X3_isDigit_12 (post : PO) : lk (T_X3_isDigit post) 12 = o_const 1 13 := rfl
theorem k_X3_isDigit_13 (post : PO) : lk (T_X3_isDigit post) 13 = o_goto 17 := rfl
theorem k_X3_isDigit_16 (post : PO) : lk (T_X3_isDigit post) 16 = o_const 0 17 := rfl
theorem k_X3_isDigit_17 (post : PO) : lk (T_X3_isDigit post) 17 = o_zret post := rfl
set_option maxRecDepth 100000 in
theorem t_X3_isDigit {p : Program} {l : Launch} {e : Env} {s : State} {m : MethodId} {args : Array Value} {below : List Frame} {meth : Method} {c : Code} {D : va_G} {dA : Nat → ClassId} {ad : Nat → Nat} (post : PO) (C : CX p s m args meth c cX3_isDigit 1 yX3_isDigit.cls D dA ad (AA ad s.heap.size)) (hr : meth.sig.returnType = (some .boolean)) : SndL (WW p l e ({ frames := 0, cells := 0, slots := 0, locals := 0 } : Room) s m args below meth c 0 0 (MQ below (CQ D dA ad post (AA ad s.heap.size)) args s 0 0 (AA ad s.heap.size)) 1 D dA ad (AA ad s.heap.size)) (T_X3_isDigit post) := by
  refine snd_c (s_iload_n C rfl dX3_isDigit_0) ?_
  refine snd_c (s_bipush C dX3_isDigit_1 rfl) ?_
  refine snd_c (s_icmp_lt C dX3_isDigit_3 (by decide)) ?_
  refine snd_c (s_iload_n C rfl dX3_isDigit_6) ?_
  refine snd_c (s_bipush C dX3_isDigit_7 rfl) ?_
  refine snd_c (s_icmp_gt C dX3_isDigit_9 (by decide)) ?_
  refine snd_c (s_iconst C dX3_isDigit_12 rfl) ?_
  refine snd_c (s_goto C dX3_isDigit_13 (by decide)) ?_
  refine snd_c (s_iconst C dX3_isDigit_16 rfl) ?_
  refine snd_c (s_zret C hr ⟨rfl, rfl⟩ dX3_isDigit_17) ?_
  exact trivial
theorem dX3_isLetter_0 : decode cX3_isLetter 0 = .ok (.iload_n 0, 1) := by decide +kernel
theorem dX3_isLetter_1 : decode cX3_isLetter 1 = .ok (.bipush 97, 2) := by decide +kernel
theorem dX3_isLetter_3 : decode cX3_isLetter 3 = .ok (.if_icmp .lt 13, 3) := by decide +kernel
theorem dX3_isLetter_6 : decode cX3_isLetter 6 = .ok (.iload_n 0, 1) := by decide +kernel
theorem dX3_isLetter_7 : decode cX3_isLetter 7 = .ok (.bipush 122, 2) := by decide +kernel
theorem dX3_isLetter_9 : decode cX3_isLetter 9 = .ok (.if_icmp .gt 7, 3) := by decide +kernel
theorem dX3_isLetter_12 : decode cX3_isLetter 12 = .ok (.iconst 1, 1) := by decide +kernel
theorem dX3_isLetter_13 : decode cX3_isLetter 13 = .ok (.goto 4, 3) := by decide +kernel
theorem dX3_isLetter_16 : decode cX3_isLetter 16 = .ok (.iconst 0, 1) := by decide +kernel
theorem dX3_isLetter_17 : decode cX3_isLetter 17 = .ok (.ireturn, 1) := by decide +kernel
def T_X3_isLetter (post : PO) : List (Nat × OP) := [(0, o_iload 0 1), (1, o_const 97 3), (3, o_icmp (fun x y => x < y) 16 6), (6, o_iload 0 7), (7, o_const 122 9), (9, o_icmp (fun x y => y < x) 16 12), (12, o_const 1 13), (13, o_goto 17), (16, o_const 0 17), (17, o_zret post)]
theorem k_X3_isLetter_0 (post : PO) : lk (T_X3_isLetter post) 0 = o_iload 0 1 := rfl
theorem k_X3_isLetter_1 (post : PO) : lk (T_X3_isLetter post) 1 = o_const 97 3 := rfl
theorem k_X3_isLetter_3 (post : PO) : lk (T_X3_isLetter post) 3 = o_icmp (fun x y => x < y) 16 6 := rfl
theorem k_X3_isLetter_6 (post : PO) : lk (T_X3_isLetter post) 6 = o_iload 0 7 := rfl
theorem k_X3_isLetter_7 (post : PO) : lk (T_X3_isLetter post) 7 = o_const 122 9 := rfl
theorem k_X3_isLetter_9 (post : PO) : lk (T_X3_isLetter post) 9 = o_icmp (fun x y => y < x) 16 12 := rfl
theorem k_X3_isLetter_12 (post : PO) : lk (T_X3_isLetter post) 12 = o_const 1 13 := rfl
theorem k_X3_isLetter_13 (post : PO) : lk (T_X3_isLetter post) 13 = o_goto 17 := rfl
theorem k_X3_isLetter_16 (post : PO) : lk (T_X3_isLetter post) 16 = o_const 0 17 := rfl
theorem k_X3_isLetter_17 (post : PO) : lk (T_X3_isLetter post) 17 = o_zret post := rfl
set_option maxRecDepth 100000 in
theorem t_X3_isLetter {p : Program} {l : Launch} {e : Env} {s : State} {m : MethodId} {args : Array Value} {below : List Frame} {meth : Method} {c : Code} {D : va_G} {dA : Nat → ClassId} {ad : Nat → Nat} (post : PO) (C : CX p s m args meth c cX3_isLetter 1 yX3_isLetter.cls D dA ad (AA ad s.heap.size)) (hr : meth.sig.returnType = (some .boolean)) : SndL (WW p l e ({ frames := 0, cells := 0, slots := 0, locals := 0 } : Room) s m args below meth c 0 0 (MQ below (CQ D dA ad post (AA ad s.heap.size)) args s 0 0 (AA ad s.heap.size)) 1 D dA ad (AA ad s.heap.size)) (T_X3_isLetter post) := by
  refine snd_c (s_iload_n C rfl dX3_isLetter_0) ?_
  refine snd_c (s_bipush C dX3_isLetter_1 rfl) ?_
  refine snd_c (s_icmp_lt C dX3_isLetter_3 (by decide)) ?_
  refine snd_c (s_iload_n C rfl dX3_isLetter_6) ?_
  refine snd_c (s_bipush C dX3_isLetter_7 rfl) ?_
  refine snd_c (s_icmp_gt C dX3_isLetter_9 (by decide)) ?_
  refine snd_c (s_iconst C dX3_isLetter_12 rfl) ?_
  refine snd_c (s_goto C dX3_isLetter_13 (by decide)) ?_
  refine snd_c (s_iconst C dX3_isLetter_16 rfl) ?_
  refine snd_c (s_zret C hr ⟨rfl, rfl⟩ dX3_isLetter_17) ?_
  exact trivial
set_option maxRecDepth 100000 in
theorem v_X3_append : ∀ as M post, S_X3_append as M post → wsum as ≤ 2 ∧ RUN (T_X3_append post) 0 (entL 2 as) [] M := by
  rintro as M post ⟨x, L, rfl, hL, hL3, h⟩
  refine ⟨Nat.le_refl 2, run_wp 40 ?_⟩
  dsimp only [k_X3_append_0, k_X3_append_1, k_X3_append_4, k_X3_append_7, k_X3_append_8, k_X3_append_11, k_X3_append_12, k_X3_append_15, k_X3_append_16, k_X3_append_19, k_X3_append_20, k_X3_append_23, k_X3_append_24, k_X3_append_27, k_X3_append_28, k_X3_append_29, k_X3_append_30, k_X3_append_31, k_X3_append_34, k_X3_append_35, k_X3_append_36, k_X3_append_39, wp1, wp_s, cutIn, kont, Nat.reduceSub, Nat.reduceAdd, nth, o_const, o_lconst, o_ref, o_iload, o_lload, o_aload, o_istore, o_lstore, o_astore, o_iinc, o_bin, o_div, o_un, o_lbin, o_lsh, o_lcmp, o_i2l, o_l2i, o_if, o_icmp, o_goto, o_dup, o_dup2, o_pop, fav, o_getf, o_putI, o_putZ, o_putL, o_ald, o_ast, o_alen, popn, rst, o_callV, o_callT, o_callS, swx, o_sw, o_ret, o_iret, o_zret, o_cret, o_lret, o_aret, lg, lput, lput2, ls1, isL, entL, wsum, rdI1, rdI2, rdA1, rdA21, rdA22, rdL1, rdL22, rdL21, upN_at, rep, sh_0, F_0_0, F_0_1, F_0_2, F_0_3, F_0_4, F_0_5, F_0_6, F_0_7, F_0_8, sh_1, F_1_0, F_1_1, F_1_2, F_1_3, F_1_4, F_1_5, sh_3, F_3_0, F_3_1, F_3_2, F_3_3, F_3_4, F_3_5, sh_5, F_5_0, F_5_1, F_5_2, F_5_3, F_5_4, F_5_5, F_5_6, F_5_7, F_5_8, sh_12, F_12_0, F_12_1, F_12_2, F_12_3, F_12_4, F_12_5, sh_14, F_14_0, F_14_1, F_14_2, F_14_3, F_14_4, F_14_5, F_14_6, F_14_7, F_14_8, sh_21, F_21_0, F_21_1, F_21_2, F_21_3, F_21_4, F_21_5, F_21_6, F_21_7, F_21_8, sh_28, F_28_0, F_28_1, F_28_2, F_28_3, F_28_4, F_28_5, F_28_6, F_28_7, F_28_8, sh_35, F_35_0, sh_39, F_39_0, F_39_1, F_39_2, F_39_3, F_39_4, F_39_5, F_39_6, F_39_7, F_39_8, F_39_9, F_39_10, F_39_11, F_39_12, F_39_13, A_2, A_4, A_6, A_7, A_8, A_9, A_10, A_11, A_13, A_15, A_16, A_17, A_18, A_19, A_20, A_22, A_23, A_24, A_25, A_26, A_27, A_29, A_30, A_31, A_32, A_33, A_34, A_36, A_37, A_38, A_40, A_41, A_42, A_43, A_44, A_45, A_46, A_47]
  rw [hL]
  simp (disch := omega) only [nI_leI, nI_ltI, nI_eq, nI_1, nI_add, one_shl, nI_or, nI_xor, nI_and, bit_0, bit_1, true_or, or_true, true_and, and_true, eq_self, not_true_eq_false, not_false_eq_true, forall_const]
  exact ⟨fun z => absurd z (nI_pos (by omega)), fun _ => ⟨fun z => absurd hL3 (by omega), fun _ => ⟨L, hL3, rfl, h⟩⟩⟩
set_option maxRecDepth 100000 in
theorem v_X3_byteAt : ∀ as M post, S_X3_byteAt as M post → wsum as ≤ 2 ∧ RUN (T_X3_byteAt post) 0 (entL 2 as) [] M := by
  rintro as M post ⟨L, t, i, rfl, ⟨hL, hL3, hb⟩, hi, h⟩
  refine ⟨Nat.le_refl 2, run_wp 40 ?_⟩
  dsimp only [k_X3_byteAt_0, k_X3_byteAt_1, k_X3_byteAt_4, k_X3_byteAt_5, k_X3_byteAt_6, k_X3_byteAt_9, k_X3_byteAt_12, k_X3_byteAt_13, k_X3_byteAt_14, k_X3_byteAt_17, k_X3_byteAt_18, k_X3_byteAt_21, k_X3_byteAt_22, k_X3_byteAt_25, k_X3_byteAt_26, k_X3_byteAt_27, k_X3_byteAt_30, k_X3_byteAt_31, k_X3_byteAt_34, k_X3_byteAt_35, wp1, wp_s, cutIn, kont, Nat.reduceSub, Nat.reduceAdd, nth, o_const, o_lconst, o_ref, o_iload, o_lload, o_aload, o_istore, o_lstore, o_astore, o_iinc, o_bin, o_div, o_un, o_lbin, o_lsh, o_lcmp, o_i2l, o_l2i, o_if, o_icmp, o_goto, o_dup, o_dup2, o_pop, fav, o_getf, o_putI, o_putZ, o_putL, o_ald, o_ast, o_alen, popn, rst, o_callV, o_callT, o_callS, swx, o_sw, o_ret, o_iret, o_zret, o_cret, o_lret, o_aret, lg, lput, lput2, ls1, isL, entL, wsum, rdI1, rdI2, rdA1, rdA21, rdA22, rdL1, rdL22, rdL21, upN_at, rep, sh_0, F_0_0, F_0_1, F_0_2, F_0_3, F_0_4, F_0_5, F_0_6, F_0_7, F_0_8, sh_1, F_1_0, F_1_1, F_1_2, F_1_3, F_1_4, F_1_5, sh_3, F_3_0, F_3_1, F_3_2, F_3_3, F_3_4, F_3_5, sh_5, F_5_0, F_5_1, F_5_2, F_5_3, F_5_4, F_5_5, F_5_6, F_5_7, F_5_8, sh_12, F_12_0, F_12_1, F_12_2, F_12_3, F_12_4, F_12_5, sh_14, F_14_0, F_14_1, F_14_2, F_14_3, F_14_4, F_14_5, F_14_6, F_14_7, F_14_8, sh_21, F_21_0, F_21_1, F_21_2, F_21_3, F_21_4, F_21_5, F_21_6, F_21_7, F_21_8, sh_28, F_28_0, F_28_1, F_28_2, F_28_3, F_28_4, F_28_5, F_28_6, F_28_7, F_28_8, sh_35, F_35_0, sh_39, F_39_0, F_39_1, F_39_2, F_39_3, F_39_4, F_39_5, F_39_6, F_39_7, F_39_8, F_39_9, F_39_10, F_39_11, F_39_12, F_39_13, A_2, A_4, A_6, A_7, A_8, A_9, A_10, A_11, A_13, A_15, A_16, A_17, A_18, A_19, A_20, A_22, A_23, A_24, A_25, A_26, A_27, A_29, A_30, A_31, A_32, A_33, A_34, A_36, A_37, A_38, A_40, A_41, A_42, A_43, A_44, A_45, A_46, A_47]
  rw [hL]
  simp (disch := omega) only [nI_leI, nI_ltI, nI_eq, nI_1, nI_add, one_shl, nI_or, nI_xor, nI_and, bit_0, bit_1, true_or, or_true, true_and, and_true, eq_self, not_true_eq_false, not_false_eq_true, forall_const]
  unfold bAt at h
  refine ⟨fun z => absurd z (nI_pos (by omega)), fun _ => ⟨fun z => ?_, fun z => ⟨fun z2 => absurd z2 (by omega), fun _ => ⟨i, by omega, rfl, ?_⟩⟩⟩⟩
  · rw [if_neg (by omega)] at h; exact h
  · rw [if_pos (by omega)] at h
    rw [(hb i (by omega)).1]; exact h
set_option maxRecDepth 100000 in
theorem v_X3_isDigit : ∀ as M post, S_X3_isDigit as M post → wsum as ≤ 1 ∧ RUN (T_X3_isDigit post) 0 (entL 1 as) [] M := by
  rintro as M post ⟨x, rfl, h⟩
  refine ⟨Nat.le_refl 1, run_wp 40 ?_⟩
  dsimp only [k_X3_isDigit_0, k_X3_isDigit_1, k_X3_isDigit_3, k_X3_isDigit_6, k_X3_isDigit_7, k_X3_isDigit_9, k_X3_isDigit_12, k_X3_isDigit_13, k_X3_isDigit_16, k_X3_isDigit_17, wp1, wp_s, cutIn, kont, Nat.reduceSub, Nat.reduceAdd, nth, o_const, o_lconst, o_ref, o_iload, o_lload, o_aload, o_istore, o_lstore, o_astore, o_iinc, o_bin, o_div, o_un, o_lbin, o_lsh, o_lcmp, o_i2l, o_l2i, o_if, o_icmp, o_goto, o_dup, o_dup2, o_pop, fav, o_getf, o_putI, o_putZ, o_putL, o_ald, o_ast, o_alen, popn, rst, o_callV, o_callT, o_callS, swx, o_sw, o_ret, o_iret, o_zret, o_cret, o_lret, o_aret, lg, lput, lput2, ls1, isL, entL, wsum, rdI1, rdI2, rdA1, rdA21, rdA22, rdL1, rdL22, rdL21, upN_at, rep, sh_0, F_0_0, F_0_1, F_0_2, F_0_3, F_0_4, F_0_5, F_0_6, F_0_7, F_0_8, sh_1, F_1_0, F_1_1, F_1_2, F_1_3, F_1_4, F_1_5, sh_3, F_3_0, F_3_1, F_3_2, F_3_3, F_3_4, F_3_5, sh_5, F_5_0, F_5_1, F_5_2, F_5_3, F_5_4, F_5_5, F_5_6, F_5_7, F_5_8, sh_12, F_12_0, F_12_1, F_12_2, F_12_3, F_12_4, F_12_5, sh_14, F_14_0, F_14_1, F_14_2, F_14_3, F_14_4, F_14_5, F_14_6, F_14_7, F_14_8, sh_21, F_21_0, F_21_1, F_21_2, F_21_3, F_21_4, F_21_5, F_21_6, F_21_7, F_21_8, sh_28, F_28_0, F_28_1, F_28_2, F_28_3, F_28_4, F_28_5, F_28_6, F_28_7, F_28_8, sh_35, F_35_0, sh_39, F_39_0, F_39_1, F_39_2, F_39_3, F_39_4, F_39_5, F_39_6, F_39_7, F_39_8, F_39_9, F_39_10, F_39_11, F_39_12, F_39_13, A_2, A_4, A_6, A_7, A_8, A_9, A_10, A_11, A_13, A_15, A_16, A_17, A_18, A_19, A_20, A_22, A_23, A_24, A_25, A_26, A_27, A_29, A_30, A_31, A_32, A_33, A_34, A_36, A_37, A_38, A_40, A_41, A_42, A_43, A_44, A_45, A_46, A_47]
  simp only [pz, Int32.lt_iff_toInt_lt, Int32.le_iff_toInt_le, true_or, or_true, true_and] at h ⊢
  exact ⟨fun h1 => h.2 (by omega), fun h1 => ⟨fun h2 => h.2 (by omega), fun h2 => h.1 (by omega)⟩⟩
set_option maxRecDepth 100000 in
theorem v_X3_isLetter : ∀ as M post, S_X3_isLetter as M post → wsum as ≤ 1 ∧ RUN (T_X3_isLetter post) 0 (entL 1 as) [] M := by
  rintro as M post ⟨x, rfl, h⟩
  refine ⟨Nat.le_refl 1, run_wp 40 ?_⟩
  dsimp only [k_X3_isLetter_0, k_X3_isLetter_1, k_X3_isLetter_3, k_X3_isLetter_6, k_X3_isLetter_7, k_X3_isLetter_9, k_X3_isLetter_12, k_X3_isLetter_13, k_X3_isLetter_16, k_X3_isLetter_17, wp1, wp_s, cutIn, kont, Nat.reduceSub, Nat.reduceAdd, nth, o_const, o_lconst, o_ref, o_iload, o_lload, o_aload, o_istore, o_lstore, o_astore, o_iinc, o_bin, o_div, o_un, o_lbin, o_lsh, o_lcmp, o_i2l, o_l2i, o_if, o_icmp, o_goto, o_dup, o_dup2, o_pop, fav, o_getf, o_putI, o_putZ, o_putL, o_ald, o_ast, o_alen, popn, rst, o_callV, o_callT, o_callS, swx, o_sw, o_ret, o_iret, o_zret, o_cret, o_lret, o_aret, lg, lput, lput2, ls1, isL, entL, wsum, rdI1, rdI2, rdA1, rdA21, rdA22, rdL1, rdL22, rdL21, upN_at, rep, sh_0, F_0_0, F_0_1, F_0_2, F_0_3, F_0_4, F_0_5, F_0_6, F_0_7, F_0_8, sh_1, F_1_0, F_1_1, F_1_2, F_1_3, F_1_4, F_1_5, sh_3, F_3_0, F_3_1, F_3_2, F_3_3, F_3_4, F_3_5, sh_5, F_5_0, F_5_1, F_5_2, F_5_3, F_5_4, F_5_5, F_5_6, F_5_7, F_5_8, sh_12, F_12_0, F_12_1, F_12_2, F_12_3, F_12_4, F_12_5, sh_14, F_14_0, F_14_1, F_14_2, F_14_3, F_14_4, F_14_5, F_14_6, F_14_7, F_14_8, sh_21, F_21_0, F_21_1, F_21_2, F_21_3, F_21_4, F_21_5, F_21_6, F_21_7, F_21_8, sh_28, F_28_0, F_28_1, F_28_2, F_28_3, F_28_4, F_28_5, F_28_6, F_28_7, F_28_8, sh_35, F_35_0, sh_39, F_39_0, F_39_1, F_39_2, F_39_3, F_39_4, F_39_5, F_39_6, F_39_7, F_39_8, F_39_9, F_39_10, F_39_11, F_39_12, F_39_13, A_2, A_4, A_6, A_7, A_8, A_9, A_10, A_11, A_13, A_15, A_16, A_17, A_18, A_19, A_20, A_22, A_23, A_24, A_25, A_26, A_27, A_29, A_30, A_31, A_32, A_33, A_34, A_36, A_37, A_38, A_40, A_41, A_42, A_43, A_44, A_45, A_46, A_47]
  simp only [pz, Int32.lt_iff_toInt_lt, Int32.le_iff_toInt_le, true_or, or_true, true_and] at h ⊢
  exact ⟨fun h1 => h.2 (by omega), fun h1 => ⟨fun h2 => h.2 (by omega), fun h2 => h.1 (by omega)⟩⟩
theorem c_X3_append : Ctr yX3_append cX3_append 2 none ({ frames := 0, cells := 0, slots := 0, locals := 0 } : Room) S_X3_append := ctr_of (T := T_X3_append) (by decide +kernel) (fun post C hr => t_X3_append post C hr) v_X3_append
theorem c_X3_byteAt : Ctr yX3_byteAt cX3_byteAt 2 (some .int) ({ frames := 0, cells := 0, slots := 0, locals := 0 } : Room) S_X3_byteAt := ctr_of (T := T_X3_byteAt) (by decide +kernel) (fun post C hr => t_X3_byteAt post C hr) v_X3_byteAt
theorem c_X3_isDigit : Ctr yX3_isDigit cX3_isDigit 1 (some .boolean) ({ frames := 0, cells := 0, slots := 0, locals := 0 } : Room) S_X3_isDigit := ctr_of (T := T_X3_isDigit) (by decide +kernel) (fun post C hr => t_X3_isDigit post C hr) v_X3_isDigit
theorem c_X3_isLetter : Ctr yX3_isLetter cX3_isLetter 1 (some .boolean) ({ frames := 0, cells := 0, slots := 0, locals := 0 } : Room) S_X3_isLetter := ctr_of (T := T_X3_isLetter) (by decide +kernel) (fun post C hr => t_X3_isLetter post C hr) v_X3_isLetter
/-- the word at hand is the i-th of the four -/
abbrev WQ (t : Nat → Nat) (s p i : Nat) : Prop := p - s = lenS.getD i 0 ∧ ∀ q, q < lenS.getD i 0 → nI (t (s + q)) = (bytS.getD i []).getD q 0
/-- the row at hand -/
abbrev RQ (t : Nat → Nat) (s p : Nat) : Prop := p - s = 9 ∧ ∀ n, n < 9 → t (s + n) = 120 ∨ t (s + n) = 111
def S_X3_isWord : SP := fun as M post => ∃ L t s p i, as = [VR 1, VR (100 + i)] ∧ i < 4 ∧ TX M L t ∧ M.1 1 = nI p ∧ M.1 2 = nI s ∧ s ≤ p ∧ p ≤ L ∧ pz (WQ t s p i) post M
def S_X3_rowAtHand : SP := fun as M post => ∃ L t s p, as = [VR 1] ∧ TX M L t ∧ M.1 1 = nI p ∧ M.1 2 = nI s ∧ s ≤ p ∧ p ≤ L ∧ (¬ RQ t s p → post (some (VI (-1))) M) ∧ (RQ t s p → post (some (VI (nI (mk (fun n => t (s + n) == 120) 9)))) M)
theorem fl_RX3_19 : Cond.fieldLink RX3 19 (TX3 2).1 (TX3 2).2.1 (TX3 2).2.2.1 ∈ tb := tb_of 82 (by decide +kernel) (by decide +kernel)
theorem fl_RX3_29 : Cond.fieldLink RX3 29 (TX3 3).1 (TX3 3).2.1 (TX3 3).2.2.1 ∈ tb := tb_of 83 (by decide +kernel) (by decide +kernel)
theorem cw_RX3_67 : ∀ w ∈ ([.methodLink RX3 67 yJ0_length_8abf5, .instanceMethod yJ0_length_8abf5, .selects yJ0_length_8abf5.cls yJ0_length_8abf5 yJ0_length_8abf5, .initialized yJ0_length_8abf5.cls, .code yJ0_length_8abf5 cJ0_length_8abf5 1 (some .int)] : List Cond), w ∈ tb := tb_all [269, 270, 271, 60, 272] (by decide +kernel) (by decide +kernel)
theorem cw_RX3_25 : ∀ w ∈ ([.methodLink RX3 25 yX3_byteAt, .instanceMethod yX3_byteAt, .selects yX3_byteAt.cls yX3_byteAt yX3_byteAt, .initialized yX3_byteAt.cls, .code yX3_byteAt cX3_byteAt 2 (some .int)] : List Cond), w ∈ tb := tb_all [246, 248, 0, 55, 249] (by decide +kernel) (by decide +kernel)
theorem cw_RX3_71 : ∀ w ∈ ([.methodLink RX3 71 yJ0_charAt_5068e, .instanceMethod yJ0_charAt_5068e, .selects yJ0_charAt_5068e.cls yJ0_charAt_5068e yJ0_charAt_5068e, .initialized yJ0_charAt_5068e.cls, .code yJ0_charAt_5068e cJ0_charAt_5068e 2 (some .char)] : List Cond), w ∈ tb := tb_all [279, 280, 281, 60, 282] (by decide +kernel) (by decide +kernel)
theorem dX3_isWord_0 : decode cX3_isWord 0 = .ok (.aload_n 0, 1) := by decide +kernel
theorem dX3_isWord_1 : decode cX3_isWord 1 = .ok (.getfield 19, 3) := by decide +kernel
theorem dX3_isWord_4 : decode cX3_isWord 4 = .ok (.aload_n 0, 1) := by decide +kernel
theorem dX3_isWord_5 : decode cX3_isWord 5 = .ok (.getfield 29, 3) := by decide +kernel
theorem dX3_isWord_8 : decode cX3_isWord 8 = .ok (.isub, 1) := by decide +kernel
theorem dX3_isWord_9 : decode cX3_isWord 9 = .ok (.aload_n 1, 1) := by decide +kernel
theorem dX3_isWord_10 : decode cX3_isWord 10 = .ok (.invokevirtual 67, 3) := by decide +kernel
theorem dX3_isWord_13 : decode cX3_isWord 13 = .ok (.if_icmp .eq 5, 3) := by decide +kernel
theorem dX3_isWord_16 : decode cX3_isWord 16 = .ok (.iconst 0, 1) := by decide +kernel
theorem dX3_isWord_17 : decode cX3_isWord 17 = .ok (.ireturn, 1) := by decide +kernel
theorem dX3_isWord_18 : decode cX3_isWord 18 = .ok (.iconst 0, 1) := by decide +kernel
theorem dX3_isWord_19 : decode cX3_isWord 19 = .ok (.istore_n 2, 1) := by decide +kernel
theorem dX3_isWord_20 : decode cX3_isWord 20 = .ok (.iload_n 2, 1) := by decide +kernel
theorem dX3_isWord_21 : decode cX3_isWord 21 = .ok (.aload_n 1, 1) := by decide +kernel
theorem dX3_isWord_22 : decode cX3_isWord 22 = .ok (.invokevirtual 67, 3) := by decide +kernel
theorem dX3_isWord_25 : decode cX3_isWord 25 = .ok (.if_icmp .ge 29, 3) := by decide +kernel
theorem dX3_isWord_28 : decode cX3_isWord 28 = .ok (.aload_n 0, 1) := by decide +kernel
theorem dX3_isWord_29 : decode cX3_isWord 29 = .ok (.aload_n 0, 1) := by decide +kernel
theorem dX3_isWord_30 : decode cX3_isWord 30 = .ok (.getfield 29, 3) := by decide +kernel
theorem dX3_isWord_33 : decode cX3_isWord 33 = .ok (.iload_n 2, 1) := by decide +kernel
theorem dX3_isWord_34 : decode cX3_isWord 34 = .ok (.iadd, 1) := by decide +kernel
theorem dX3_isWord_35 : decode cX3_isWord 35 = .ok (.invokevirtual 25, 3) := by decide +kernel
theorem dX3_isWord_38 : decode cX3_isWord 38 = .ok (.aload_n 1, 1) := by decide +kernel
theorem dX3_isWord_39 : decode cX3_isWord 39 = .ok (.iload_n 2, 1) := by decide +kernel
theorem dX3_isWord_40 : decode cX3_isWord 40 = .ok (.invokevirtual 71, 3) := by decide +kernel
theorem dX3_isWord_43 : decode cX3_isWord 43 = .ok (.if_icmp .eq 5, 3) := by decide +kernel
theorem dX3_isWord_46 : decode cX3_isWord 46 = .ok (.iconst 0, 1) := by decide +kernel
theorem dX3_isWord_47 : decode cX3_isWord 47 = .ok (.ireturn, 1) := by decide +kernel
theorem dX3_isWord_48 : decode cX3_isWord 48 = .ok (.iinc 2 1, 3) := by decide +kernel
theorem dX3_isWord_51 : decode cX3_isWord 51 = .ok (.goto (-31), 3) := by decide +kernel
theorem dX3_isWord_54 : decode cX3_isWord 54 = .ok (.iconst 1, 1) := by decide +kernel
theorem dX3_isWord_55 : decode cX3_isWord 55 = .ok (.ireturn, 1) := by decide +kernel
def T_X3_isWord (post : PO) : List (Nat × OP) := [(0, o_aload 0 1), (1, o_getf 3 2 4), (4, o_aload 0 5), (5, o_getf 3 3 8), (8, o_bin (fun x y => x - y) 9), (9, o_aload 1 10), (10, o_callT S_J0_length_8abf5 0 13), (13, o_icmp (fun x y => x = y) 18 16), (16, o_const 0 17), (17, o_zret post), (18, o_const 0 19), (19, o_istore 2 20), (20, o_iload 2 21), (21, o_aload 1 22), (22, o_callT S_J0_length_8abf5 0 25), (25, o_icmp (fun x y => y ≤ x) 54 28), (28, o_aload 0 29), (29, o_aload 0 30), (30, o_getf 3 3 33), (33, o_iload 2 34), (34, o_bin (fun x y => x + y) 35), (35, o_callV 3 S_X3_byteAt 1 38), (38, o_aload 1 39), (39, o_iload 2 40), (40, o_callT S_J0_charAt_5068e 1 43), (43, o_icmp (fun x y => x = y) 48 46), (46, o_const 0 47), (47, o_zret post), (48, o_iinc 2 1 51), (51, o_goto 20), (54, o_const 1 55), (55, o_zret post)]
theorem k_X3_isWord_0 (post : PO) : lk (T_X3_isWord post) 0 = o_aload 0 1 := rfl
theorem k_X3_isWord_1 (post : PO) : lk (T_X3_isWord post) 1 = o_getf 3 2 4 := rfl
theorem k_X3_isWord_4 (post : PO) : lk (T_X3_isWord post) 4 = o_aload 0 5 := rfl
theorem k_X3_isWord_5 (post : PO) : lk (T_X3_isWord post) 5 = o_getf 3 3 8 := rfl
theorem k_X3_isWord_8 (post : PO) : lk (T_X3_isWord post) 8 = o_bin (fun x y => x - y) 9 := rfl
theorem k_X3_isWord_9 (post : PO) : lk (T_X3_isWord post) 9 = o_aload 1 10 := rfl
theorem k_X3_isWord_10 (post : PO) : lk (T_X3_isWord post) 10 = o_callT S_J0_length_8abf5 0 13 := rfl
theorem k_X3_isWord_13 (post : PO) : lk (T_X3_isWord post) 13 = o_icmp (fun x y => x = y) 18 16 := rfl
theorem k_X3_isWord_16 (post : PO) : lk (T_X3_isWord post) 16 = o_const 0 17 := rfl
theorem k_X3_isWord_17 (post : PO) : lk (T_X3_isWord post) 17 = o_zret post := rfl
theorem k_X3_isWord_18 (post : PO) : lk (T_X3_isWord post) 18 = o_const 0 19 := rfl
theorem k_X3_isWord_19 (post : PO) : lk (T_X3_isWord post) 19 = o_istore 2 20 := rfl
theorem k_X3_isWord_20 (post : PO) : lk (T_X3_isWord post) 20 = o_iload 2 21 := rfl
theorem k_X3_isWord_21 (post : PO) : lk (T_X3_isWord post) 21 = o_aload 1 22 := rfl
theorem k_X3_isWord_22 (post : PO) : lk (T_X3_isWord post) 22 = o_callT S_J0_length_8abf5 0 25 := rfl
theorem k_X3_isWord_25 (post : PO) : lk (T_X3_isWord post) 25 = o_icmp (fun x y => y ≤ x) 54 28 := rfl
theorem k_X3_isWord_28 (post : PO) : lk (T_X3_isWord post) 28 = o_aload 0 29 := rfl
theorem k_X3_isWord_29 (post : PO) : lk (T_X3_isWord post) 29 = o_aload 0 30 := rfl
theorem k_X3_isWord_30 (post : PO) : lk (T_X3_isWord post) 30 = o_getf 3 3 33 := rfl
theorem k_X3_isWord_33 (post : PO) : lk (T_X3_isWord post) 33 = o_iload 2 34 := rfl
theorem k_X3_isWord_34 (post : PO) : lk (T_X3_isWord post) 34 = o_bin (fun x y => x + y) 35 := rfl
theorem k_X3_isWord_35 (post : PO) : lk (T_X3_isWord post) 35 = o_callV 3 S_X3_byteAt 1 38 := rfl
theorem k_X3_isWord_38 (post : PO) : lk (T_X3_isWord post) 38 = o_aload 1 39 := rfl
theorem k_X3_isWord_39 (post : PO) : lk (T_X3_isWord post) 39 = o_iload 2 40 := rfl
theorem k_X3_isWord_40 (post : PO) : lk (T_X3_isWord post) 40 = o_callT S_J0_charAt_5068e 1 43 := rfl
theorem k_X3_isWord_43 (post : PO) : lk (T_X3_isWord post) 43 = o_icmp (fun x y => x = y) 48 46 := rfl
theorem k_X3_isWord_46 (post : PO) : lk (T_X3_isWord post) 46 = o_const 0 47 := rfl
theorem k_X3_isWord_47 (post : PO) : lk (T_X3_isWord post) 47 = o_zret post := rfl
theorem k_X3_isWord_48 (post : PO) : lk (T_X3_isWord post) 48 = o_iinc 2 1 51 := rfl
theorem k_X3_isWord_51 (post : PO) : lk (T_X3_isWord post) 51 = o_goto 20 := rfl
theorem k_X3_isWord_54 (post : PO) : lk (T_X3_isWord post) 54 = o_const 1 55 := rfl
theorem k_X3_isWord_55 (post : PO) : lk (T_X3_isWord post) 55 = o_zret post := rfl
set_option maxRecDepth 100000 in
theorem t_X3_isWord {p : Program} {l : Launch} {e : Env} {s : State} {m : MethodId} {args : Array Value} {below : List Frame} {meth : Method} {c : Code} {D : va_G} {dA : Nat → ClassId} {ad : Nat → Nat} (post : PO) (C : CX p s m args meth c cX3_isWord 3 yX3_isWord.cls D dA ad (AA ad s.heap.size)) (hr : meth.sig.returnType = (some .boolean)) : SndL (WW p l e ({ frames := 4, cells := 0, slots := 0, locals := 85 } : Room) s m args below meth c 0 0 (MQ below (CQ D dA ad post (AA ad s.heap.size)) args s 0 0 (AA ad s.heap.size)) 3 D dA ad (AA ad s.heap.size)) (T_X3_isWord post) := by
  refine snd_c (s_aload_n C rfl dX3_isWord_0) ?_
  refine snd_c (s_getf C (ci := 3) (j := 2) (T := TX3) rfl inX3 (by decide) fl_RX3_19 dX3_isWord_1) ?_
  refine snd_c (s_aload_n C rfl dX3_isWord_4) ?_
  refine snd_c (s_getf C (ci := 3) (j := 3) (T := TX3) rfl inX3 (by decide) fl_RX3_29 dX3_isWord_5) ?_
  refine snd_c (s_isub C dX3_isWord_8) ?_
  refine snd_c (s_aload_n C rfl dX3_isWord_9) ?_
  refine snd_c (s_callT C c_J0_length_8abf5 rfl cw_RX3_67 ⟨rfl, rfl⟩ ⟨by decide +kernel, by decide +kernel, by decide +kernel⟩ ⟨by decide, by decide⟩ ⟨Nat.zero_le _, Nat.zero_le _⟩ dX3_isWord_10) ?_
  refine snd_c (s_icmp_eq C dX3_isWord_13 (by decide)) ?_
  refine snd_c (s_iconst C dX3_isWord_16 rfl) ?_
  refine snd_c (s_zret C hr ⟨rfl, rfl⟩ dX3_isWord_17) ?_
  refine snd_c (s_iconst C dX3_isWord_18 rfl) ?_
  refine snd_c (s_istore_n C rfl (by decide) dX3_isWord_19) ?_
  refine snd_c (s_iload_n C rfl dX3_isWord_20) ?_
  refine snd_c (s_aload_n C rfl dX3_isWord_21) ?_
  refine snd_c (s_callT C c_J0_length_8abf5 rfl cw_RX3_67 ⟨rfl, rfl⟩ ⟨by decide +kernel, by decide +kernel, by decide +kernel⟩ ⟨by decide, by decide⟩ ⟨Nat.zero_le _, Nat.zero_le _⟩ dX3_isWord_22) ?_
  refine snd_c (s_icmp_ge C dX3_isWord_25 (by decide)) ?_
  refine snd_c (s_aload_n C rfl dX3_isWord_28) ?_
  refine snd_c (s_aload_n C rfl dX3_isWord_29) ?_
  refine snd_c (s_getf C (ci := 3) (j := 3) (T := TX3) rfl inX3 (by decide) fl_RX3_29 dX3_isWord_30) ?_
  refine snd_c (s_iload_n C rfl dX3_isWord_33) ?_
  refine snd_c (s_iadd C dX3_isWord_34) ?_
  refine snd_c (s_callV C (ci := 3) c_X3_byteAt rfl cw_RX3_25 ⟨rfl, rfl⟩ ⟨by decide +kernel, by decide +kernel, by decide +kernel⟩ ⟨by decide, by decide⟩ ⟨Nat.zero_le _, Nat.zero_le _⟩ dX3_isWord_35) ?_
  refine snd_c (s_aload_n C rfl dX3_isWord_38) ?_
  refine snd_c (s_iload_n C rfl dX3_isWord_39) ?_
  refine snd_c (s_callT C c_J0_charAt_5068e rfl cw_RX3_71 ⟨rfl, rfl⟩ ⟨by decide +kernel, by decide +kernel, by decide +kernel⟩ ⟨by decide, by decide⟩ ⟨Nat.zero_le _, Nat.zero_le _⟩ dX3_isWord_40) ?_
  refine snd_c (s_icmp_eq C dX3_isWord_43 (by decide)) ?_
  refine snd_c (s_iconst C dX3_isWord_46 rfl) ?_
  refine snd_c (s_zret C hr ⟨rfl, rfl⟩ dX3_isWord_47) ?_
  refine snd_c (s_iinc C (by decide) rfl dX3_isWord_48) ?_
  refine snd_c (s_goto C dX3_isWord_51 (by decide)) ?_
  refine snd_c (s_iconst C dX3_isWord_54 rfl) ?_
  refine snd_c (s_zret C hr ⟨rfl, rfl⟩ dX3_isWord_55) ?_
  exact trivial
theorem dX3_rowAtHand_0 : decode cX3_rowAtHand 0 = .ok (.aload_n 0, 1) := by decide +kernel
theorem dX3_rowAtHand_1 : decode cX3_rowAtHand 1 = .ok (.getfield 19, 3) := by decide +kernel
theorem dX3_rowAtHand_4 : decode cX3_rowAtHand 4 = .ok (.aload_n 0, 1) := by decide +kernel
theorem dX3_rowAtHand_5 : decode cX3_rowAtHand 5 = .ok (.getfield 29, 3) := by decide +kernel
theorem dX3_rowAtHand_8 : decode cX3_rowAtHand 8 = .ok (.isub, 1) := by decide +kernel
theorem dX3_rowAtHand_9 : decode cX3_rowAtHand 9 = .ok (.bipush 9, 2) := by decide +kernel
theorem dX3_rowAtHand_11 : decode cX3_rowAtHand 11 = .ok (.if_icmp .eq 5, 3) := by decide +kernel
theorem dX3_rowAtHand_14 : decode cX3_rowAtHand 14 = .ok (.iconst (-1), 1) := by decide +kernel
theorem dX3_rowAtHand_15 : decode cX3_rowAtHand 15 = .ok (.ireturn, 1) := by decide +kernel
theorem dX3_rowAtHand_16 : decode cX3_rowAtHand 16 = .ok (.iconst 0, 1) := by decide +kernel
theorem dX3_rowAtHand_17 : decode cX3_rowAtHand 17 = .ok (.istore_n 1, 1) := by decide +kernel
theorem dX3_rowAtHand_18 : decode cX3_rowAtHand 18 = .ok (.iconst 0, 1) := by decide +kernel
theorem dX3_rowAtHand_19 : decode cX3_rowAtHand 19 = .ok (.istore_n 2, 1) := by decide +kernel
theorem dX3_rowAtHand_20 : decode cX3_rowAtHand 20 = .ok (.iload_n 2, 1) := by decide +kernel
theorem dX3_rowAtHand_21 : decode cX3_rowAtHand 21 = .ok (.bipush 9, 2) := by decide +kernel
theorem dX3_rowAtHand_23 : decode cX3_rowAtHand 23 = .ok (.if_icmp .ge 43, 3) := by decide +kernel
theorem dX3_rowAtHand_26 : decode cX3_rowAtHand 26 = .ok (.aload_n 0, 1) := by decide +kernel
theorem dX3_rowAtHand_27 : decode cX3_rowAtHand 27 = .ok (.aload_n 0, 1) := by decide +kernel
theorem dX3_rowAtHand_28 : decode cX3_rowAtHand 28 = .ok (.getfield 29, 3) := by decide +kernel
theorem dX3_rowAtHand_31 : decode cX3_rowAtHand 31 = .ok (.iload_n 2, 1) := by decide +kernel
theorem dX3_rowAtHand_32 : decode cX3_rowAtHand 32 = .ok (.iadd, 1) := by decide +kernel
theorem dX3_rowAtHand_33 : decode cX3_rowAtHand 33 = .ok (.invokevirtual 25, 3) := by decide +kernel
theorem dX3_rowAtHand_36 : decode cX3_rowAtHand 36 = .ok (.istore_n 3, 1) := by decide +kernel
theorem dX3_rowAtHand_37 : decode cX3_rowAtHand 37 = .ok (.iload_n 3, 1) := by decide +kernel
theorem dX3_rowAtHand_38 : decode cX3_rowAtHand 38 = .ok (.bipush 120, 2) := by decide +kernel
theorem dX3_rowAtHand_40 : decode cX3_rowAtHand 40 = .ok (.if_icmp .ne 12, 3) := by decide +kernel
theorem dX3_rowAtHand_43 : decode cX3_rowAtHand 43 = .ok (.iload_n 1, 1) := by decide +kernel
theorem dX3_rowAtHand_44 : decode cX3_rowAtHand 44 = .ok (.iconst 1, 1) := by decide +kernel
theorem dX3_rowAtHand_45 : decode cX3_rowAtHand 45 = .ok (.iload_n 2, 1) := by decide +kernel
theorem dX3_rowAtHand_46 : decode cX3_rowAtHand 46 = .ok (.ishl, 1) := by decide +kernel
theorem dX3_rowAtHand_47 : decode cX3_rowAtHand 47 = .ok (.ior, 1) := by decide +kernel
theorem dX3_rowAtHand_48 : decode cX3_rowAtHand 48 = .ok (.istore_n 1, 1) := by decide +kernel
theorem dX3_rowAtHand_49 : decode cX3_rowAtHand 49 = .ok (.goto 11, 3) := by decide +kernel
theorem dX3_rowAtHand_52 : decode cX3_rowAtHand 52 = .ok (.iload_n 3, 1) := by decide +kernel
theorem dX3_rowAtHand_53 : decode cX3_rowAtHand 53 = .ok (.bipush 111, 2) := by decide +kernel
theorem dX3_rowAtHand_55 : decode cX3_rowAtHand 55 = .ok (.if_icmp .eq 5, 3) := by decide +kernel
theorem dX3_rowAtHand_58 : decode cX3_rowAtHand 58 = .ok (.iconst (-1), 1) := by decide +kernel
theorem dX3_rowAtHand_59 : decode cX3_rowAtHand 59 = .ok (.ireturn, 1) := by decide +kernel
theorem dX3_rowAtHand_60 : decode cX3_rowAtHand 60 = .ok (.iinc 2 1, 3) := by decide +kernel
theorem dX3_rowAtHand_63 : decode cX3_rowAtHand 63 = .ok (.goto (-43), 3) := by decide +kernel
theorem dX3_rowAtHand_66 : decode cX3_rowAtHand 66 = .ok (.iload_n 1, 1) := by decide +kernel
theorem dX3_rowAtHand_67 : decode cX3_rowAtHand 67 = .ok (.ireturn, 1) := by decide +kernel
def T_X3_rowAtHand (post : PO) : List (Nat × OP) := [(0, o_aload 0 1), (1, o_getf 3 2 4), (4, o_aload 0 5), (5, o_getf 3 3 8), (8, o_bin (fun x y => x - y) 9), (9, o_const 9 11), (11, o_icmp (fun x y => x = y) 16 14), (14, o_const (-1) 15), (15, o_iret post), (16, o_const 0 17), (17, o_istore 1 18), (18, o_const 0 19), (19, o_istore 2 20), (20, o_iload 2 21), (21, o_const 9 23), (23, o_icmp (fun x y => y ≤ x) 66 26), (26, o_aload 0 27), (27, o_aload 0 28), (28, o_getf 3 3 31), (31, o_iload 2 32), (32, o_bin (fun x y => x + y) 33), (33, o_callV 3 S_X3_byteAt 1 36), (36, o_istore 3 37), (37, o_iload 3 38), (38, o_const 120 40), (40, o_icmp (fun x y => x = y) 43 52), (43, o_iload 1 44), (44, o_const 1 45), (45, o_iload 2 46), (46, o_bin (fun x y => x <<< (y &&& 31)) 47), (47, o_bin (fun x y => x ||| y) 48), (48, o_istore 1 49), (49, o_goto 60), (52, o_iload 3 53), (53, o_const 111 55), (55, o_icmp (fun x y => x = y) 60 58), (58, o_const (-1) 59), (59, o_iret post), (60, o_iinc 2 1 63), (63, o_goto 20), (66, o_iload 1 67), (67, o_iret post)]
theorem k_X3_rowAtHand_0 (post : PO) : lk (T_X3_rowAtHand post) 0 = o_aload 0 1 := rfl
theorem k_X3_rowAtHand_1 (post : PO) : lk (T_X3_rowAtHand post) 1 = o_getf 3 2 4 := rfl
theorem k_X3_rowAtHand_4 (post : PO) : lk (T_X3_rowAtHand post) 4 = o_aload 0 5 := rfl
theorem k_X3_rowAtHand_5 (post : PO) : lk (T_X3_rowAtHand post) 5 = o_getf 3 3 8 := rfl
theorem k_X3_rowAtHand_8 (post : PO) : lk (T_X3_rowAtHand post) 8 = o_bin (fun x y => x - y) 9 := rfl
theorem k_X3_rowAtHand_9 (post : PO) : lk (T_X3_rowAtHand post) 9 = o_const 9 11 := rfl
theorem k_X3_rowAtHand_11 (post : PO) : lk (T_X3_rowAtHand post) 11 = o_icmp (fun x y => x = y) 16 14 := rfl
theorem k_X3_rowAtHand_14 (post : PO) : lk (T_X3_rowAtHand post) 14 = o_const (-1) 15 := rfl
theorem k_X3_rowAtHand_15 (post : PO) : lk (T_X3_rowAtHand post) 15 = o_iret post := rfl
theorem k_X3_rowAtHand_16 (post : PO) : lk (T_X3_rowAtHand post) 16 = o_const 0 17 := rfl
theorem k_X3_rowAtHand_17 (post : PO) : lk (T_X3_rowAtHand post) 17 = o_istore 1 18 := rfl
theorem k_X3_rowAtHand_18 (post : PO) : lk (T_X3_rowAtHand post) 18 = o_const 0 19 := rfl
theorem k_X3_rowAtHand_19 (post : PO) : lk (T_X3_rowAtHand post) 19 = o_istore 2 20 := rfl
theorem k_X3_rowAtHand_20 (post : PO) : lk (T_X3_rowAtHand post) 20 = o_iload 2 21 := rfl
theorem k_X3_rowAtHand_21 (post : PO) : lk (T_X3_rowAtHand post) 21 = o_const 9 23 := rfl
theorem k_X3_rowAtHand_23 (post : PO) : lk (T_X3_rowAtHand post) 23 = o_icmp (fun x y => y ≤ x) 66 26 := rfl
theorem k_X3_rowAtHand_26 (post : PO) : lk (T_X3_rowAtHand post) 26 = o_aload 0 27 := rfl
theorem k_X3_rowAtHand_27 (post : PO) : lk (T_X3_rowAtHand post) 27 = o_aload 0 28 := rfl
theorem k_X3_rowAtHand_28 (post : PO) : lk (T_X3_rowAtHand post) 28 = o_getf 3 3 31 := rfl
theorem k_X3_rowAtHand_31 (post : PO) : lk (T_X3_rowAtHand post) 31 = o_iload 2 32 := rfl
theorem k_X3_rowAtHand_32 (post : PO) : lk (T_X3_rowAtHand post) 32 = o_bin (fun x y => x + y) 33 := rfl
theorem k_X3_rowAtHand_33 (post : PO) : lk (T_X3_rowAtHand post) 33 = o_callV 3 S_X3_byteAt 1 36 := rfl
theorem k_X3_rowAtHand_36 (post : PO) : lk (T_X3_rowAtHand post) 36 = o_istore 3 37 := rfl
theorem k_X3_rowAtHand_37 (post : PO) : lk (T_X3_rowAtHand post) 37 = o_iload 3 38 := rfl
theorem k_X3_rowAtHand_38 (post : PO) : lk (T_X3_rowAtHand post) 38 = o_const 120 40 := rfl
theorem k_X3_rowAtHand_40 (post : PO) : lk (T_X3_rowAtHand post) 40 = o_icmp (fun x y => x = y) 43 52 := rfl
theorem k_X3_rowAtHand_43 (post : PO) : lk (T_X3_rowAtHand post) 43 = o_iload 1 44 := rfl
theorem k_X3_rowAtHand_44 (post : PO) : lk (T_X3_rowAtHand post) 44 = o_const 1 45 := rfl
theorem k_X3_rowAtHand_45 (post : PO) : lk (T_X3_rowAtHand post) 45 = o_iload 2 46 := rfl
theorem k_X3_rowAtHand_46 (post : PO) : lk (T_X3_rowAtHand post) 46 = o_bin (fun x y => x <<< (y &&& 31)) 47 := rfl
theorem k_X3_rowAtHand_47 (post : PO) : lk (T_X3_rowAtHand post) 47 = o_bin (fun x y => x ||| y) 48 := rfl
theorem k_X3_rowAtHand_48 (post : PO) : lk (T_X3_rowAtHand post) 48 = o_istore 1 49 := rfl
theorem k_X3_rowAtHand_49 (post : PO) : lk (T_X3_rowAtHand post) 49 = o_goto 60 := rfl
theorem k_X3_rowAtHand_52 (post : PO) : lk (T_X3_rowAtHand post) 52 = o_iload 3 53 := rfl
theorem k_X3_rowAtHand_53 (post : PO) : lk (T_X3_rowAtHand post) 53 = o_const 111 55 := rfl
theorem k_X3_rowAtHand_55 (post : PO) : lk (T_X3_rowAtHand post) 55 = o_icmp (fun x y => x = y) 60 58 := rfl
theorem k_X3_rowAtHand_58 (post : PO) : lk (T_X3_rowAtHand post) 58 = o_const (-1) 59 := rfl
theorem k_X3_rowAtHand_59 (post : PO) : lk (T_X3_rowAtHand post) 59 = o_iret post := rfl
theorem k_X3_rowAtHand_60 (post : PO) : lk (T_X3_rowAtHand post) 60 = o_iinc 2 1 63 := rfl
theorem k_X3_rowAtHand_63 (post : PO) : lk (T_X3_rowAtHand post) 63 = o_goto 20 := rfl
theorem k_X3_rowAtHand_66 (post : PO) : lk (T_X3_rowAtHand post) 66 = o_iload 1 67 := rfl
theorem k_X3_rowAtHand_67 (post : PO) : lk (T_X3_rowAtHand post) 67 = o_iret post := rfl
set_option maxRecDepth 100000 in
theorem t_X3_rowAtHand {p : Program} {l : Launch} {e : Env} {s : State} {m : MethodId} {args : Array Value} {below : List Frame} {meth : Method} {c : Code} {D : va_G} {dA : Nat → ClassId} {ad : Nat → Nat} (post : PO) (C : CX p s m args meth c cX3_rowAtHand 4 yX3_rowAtHand.cls D dA ad (AA ad s.heap.size)) (hr : meth.sig.returnType = (some .int)) : SndL (WW p l e ({ frames := 1, cells := 0, slots := 0, locals := 21 } : Room) s m args below meth c 0 0 (MQ below (CQ D dA ad post (AA ad s.heap.size)) args s 0 0 (AA ad s.heap.size)) 4 D dA ad (AA ad s.heap.size)) (T_X3_rowAtHand post) := by
  refine snd_c (s_aload_n C rfl dX3_rowAtHand_0) ?_
  refine snd_c (s_getf C (ci := 3) (j := 2) (T := TX3) rfl inX3 (by decide) fl_RX3_19 dX3_rowAtHand_1) ?_
  refine snd_c (s_aload_n C rfl dX3_rowAtHand_4) ?_
  refine snd_c (s_getf C (ci := 3) (j := 3) (T := TX3) rfl inX3 (by decide) fl_RX3_29 dX3_rowAtHand_5) ?_
  refine snd_c (s_isub C dX3_rowAtHand_8) ?_
  refine snd_c (s_bipush C dX3_rowAtHand_9 rfl) ?_
  refine snd_c (s_icmp_eq C dX3_rowAtHand_11 (by decide)) ?_
  refine snd_c (s_iconst C dX3_rowAtHand_14 rfl) ?_
  refine snd_c (s_iret C hr dX3_rowAtHand_15) ?_
  refine snd_c (s_iconst C dX3_rowAtHand_16 rfl) ?_
  refine snd_c (s_istore_n C rfl (by decide) dX3_rowAtHand_17) ?_
  refine snd_c (s_iconst C dX3_rowAtHand_18 rfl) ?_
  refine snd_c (s_istore_n C rfl (by decide) dX3_rowAtHand_19) ?_
  refine snd_c (s_iload_n C rfl dX3_rowAtHand_20) ?_
  refine snd_c (s_bipush C dX3_rowAtHand_21 rfl) ?_
  refine snd_c (s_icmp_ge C dX3_rowAtHand_23 (by decide)) ?_
  refine snd_c (s_aload_n C rfl dX3_rowAtHand_26) ?_
  refine snd_c (s_aload_n C rfl dX3_rowAtHand_27) ?_
  refine snd_c (s_getf C (ci := 3) (j := 3) (T := TX3) rfl inX3 (by decide) fl_RX3_29 dX3_rowAtHand_28) ?_
  refine snd_c (s_iload_n C rfl dX3_rowAtHand_31) ?_
  refine snd_c (s_iadd C dX3_rowAtHand_32) ?_
  refine snd_c (s_callV C (ci := 3) c_X3_byteAt rfl cw_RX3_25 ⟨rfl, rfl⟩ ⟨by decide +kernel, by decide +kernel, by decide +kernel⟩ ⟨by decide, by decide⟩ ⟨Nat.zero_le _, Nat.zero_le _⟩ dX3_rowAtHand_33) ?_
  refine snd_c (s_istore_n C rfl (by decide) dX3_rowAtHand_36) ?_
  refine snd_c (s_iload_n C rfl dX3_rowAtHand_37) ?_
  refine snd_c (s_bipush C dX3_rowAtHand_38 rfl) ?_
  refine snd_c (s_icmp_ne C dX3_rowAtHand_40 (by decide)) ?_
  refine snd_c (s_iload_n C rfl dX3_rowAtHand_43) ?_
  refine snd_c (s_iconst C dX3_rowAtHand_44 rfl) ?_
  refine snd_c (s_iload_n C rfl dX3_rowAtHand_45) ?_
  refine snd_c (s_ishl C dX3_rowAtHand_46) ?_
  refine snd_c (s_ior C dX3_rowAtHand_47) ?_
  refine snd_c (s_istore_n C rfl (by decide) dX3_rowAtHand_48) ?_
  refine snd_c (s_goto C dX3_rowAtHand_49 (by decide)) ?_
  refine snd_c (s_iload_n C rfl dX3_rowAtHand_52) ?_
  refine snd_c (s_bipush C dX3_rowAtHand_53 rfl) ?_
  refine snd_c (s_icmp_eq C dX3_rowAtHand_55 (by decide)) ?_
  refine snd_c (s_iconst C dX3_rowAtHand_58 rfl) ?_
  refine snd_c (s_iret C hr dX3_rowAtHand_59) ?_
  refine snd_c (s_iinc C (by decide) rfl dX3_rowAtHand_60) ?_
  refine snd_c (s_goto C dX3_rowAtHand_63 (by decide)) ?_
  refine snd_c (s_iload_n C rfl dX3_rowAtHand_66) ?_
  refine snd_c (s_iret C hr dX3_rowAtHand_67) ?_
  exact trivial
set_option maxRecDepth 100000 in
theorem v_X3_isWord : ∀ as M post, S_X3_isWord as M post → wsum as ≤ 3 ∧ RUN (T_X3_isWord post) 0 (entL 3 as) [] M := by
  rintro as M post ⟨L, t, s, p, i, rfl, hi, hT, hp, hs, hsp, hpL, h1, h2⟩
  have hz : ∀ q, q < 4 → lenS.getD q 0 < 10 := by decide
  have hz := hz i hi
  have hT2 := hT.2.1
  refine ⟨by show 2 ≤ 3; omega, run_of [20] (fun μ pc lv st M' => pc = 20 ∧ st = [] ∧ M' = M ∧ p - s = lenS.getD i 0 ∧ ∃ j, j ≤ lenS.getD i 0 ∧ (∀ q, q < j → nI (t (s + q)) = (bytS.getD i []).getD q 0) ∧ 10 - j = μ ∧ lv = [some (VR 1), some (VR (100 + i)), some (VI (nI j))]) 40 20 ?_ ?_⟩
  · rintro μ pc lv st M' ⟨rfl, rfl, rfl, hlen, j, hj, hq, rfl, rfl⟩
    rcases (by omega : i = 0 ∨ i = 1 ∨ i = 2 ∨ i = 3) with rfl | rfl | rfl | rfl
    all_goals
      dsimp only [k_X3_isWord_0, k_X3_isWord_1, k_X3_isWord_4, k_X3_isWord_5, k_X3_isWord_8, k_X3_isWord_9, k_X3_isWord_10, k_X3_isWord_13, k_X3_isWord_16, k_X3_isWord_17, k_X3_isWord_18, k_X3_isWord_19, k_X3_isWord_20, k_X3_isWord_21, k_X3_isWord_22, k_X3_isWord_25, k_X3_isWord_28, k_X3_isWord_29, k_X3_isWord_30, k_X3_isWord_33, k_X3_isWord_34, k_X3_isWord_35, k_X3_isWord_38, k_X3_isWord_39, k_X3_isWord_40, k_X3_isWord_43, k_X3_isWord_46, k_X3_isWord_47, k_X3_isWord_48, k_X3_isWord_51, k_X3_isWord_54, k_X3_isWord_55, wp1, wp_s, cutIn, kont, Nat.reduceSub, Nat.reduceAdd, nth, o_const, o_lconst, o_ref, o_iload, o_lload, o_aload, o_istore, o_lstore, o_astore, o_iinc, o_bin, o_div, o_un, o_lbin, o_lsh, o_lcmp, o_i2l, o_l2i, o_if, o_icmp, o_goto, o_dup, o_dup2, o_pop, fav, o_getf, o_putI, o_putZ, o_putL, o_ald, o_ast, o_alen, popn, rst, o_callV, o_callT, o_callS, swx, o_sw, o_ret, o_iret, o_zret, o_cret, o_lret, o_aret, lg, lput, lput2, ls1, isL, entL, wsum, rdI1, rdI2, rdA1, rdA21, rdA22, rdL1, rdL22, rdL21, upN_at, rep, sh_0, F_0_0, F_0_1, F_0_2, F_0_3, F_0_4, F_0_5, F_0_6, F_0_7, F_0_8, sh_1, F_1_0, F_1_1, F_1_2, F_1_3, F_1_4, F_1_5, sh_3, F_3_0, F_3_1, F_3_2, F_3_3, F_3_4, F_3_5, sh_5, F_5_0, F_5_1, F_5_2, F_5_3, F_5_4, F_5_5, F_5_6, F_5_7, F_5_8, sh_12, F_12_0, F_12_1, F_12_2, F_12_3, F_12_4, F_12_5, sh_14, F_14_0, F_14_1, F_14_2, F_14_3, F_14_4, F_14_5, F_14_6, F_14_7, F_14_8, sh_21, F_21_0, F_21_1, F_21_2, F_21_3, F_21_4, F_21_5, F_21_6, F_21_7, F_21_8, sh_28, F_28_0, F_28_1, F_28_2, F_28_3, F_28_4, F_28_5, F_28_6, F_28_7, F_28_8, sh_35, F_35_0, sh_39, F_39_0, F_39_1, F_39_2, F_39_3, F_39_4, F_39_5, F_39_6, F_39_7, F_39_8, F_39_9, F_39_10, F_39_11, F_39_12, F_39_13, A_2, A_4, A_6, A_7, A_8, A_9, A_10, A_11, A_13, A_15, A_16, A_17, A_18, A_19, A_20, A_22, A_23, A_24, A_25, A_26, A_27, A_29, A_30, A_31, A_32, A_33, A_34, A_36, A_37, A_38, A_40, A_41, A_42, A_43, A_44, A_45, A_46, A_47]
      first | refine ⟨0, rfl, by decide, ?_⟩ | refine ⟨1, rfl, by decide, ?_⟩ | refine ⟨2, rfl, by decide, ?_⟩ | refine ⟨3, rfl, by decide, ?_⟩
      dsimp only [k_X3_isWord_0, k_X3_isWord_1, k_X3_isWord_4, k_X3_isWord_5, k_X3_isWord_8, k_X3_isWord_9, k_X3_isWord_10, k_X3_isWord_13, k_X3_isWord_16, k_X3_isWord_17, k_X3_isWord_18, k_X3_isWord_19, k_X3_isWord_20, k_X3_isWord_21, k_X3_isWord_22, k_X3_isWord_25, k_X3_isWord_28, k_X3_isWord_29, k_X3_isWord_30, k_X3_isWord_33, k_X3_isWord_34, k_X3_isWord_35, k_X3_isWord_38, k_X3_isWord_39, k_X3_isWord_40, k_X3_isWord_43, k_X3_isWord_46, k_X3_isWord_47, k_X3_isWord_48, k_X3_isWord_51, k_X3_isWord_54, k_X3_isWord_55, wp1, wp_s, cutIn, kont, Nat.reduceSub, Nat.reduceAdd, nth, o_const, o_lconst, o_ref, o_iload, o_lload, o_aload, o_istore, o_lstore, o_astore, o_iinc, o_bin, o_div, o_un, o_lbin, o_lsh, o_lcmp, o_i2l, o_l2i, o_if, o_icmp, o_goto, o_dup, o_dup2, o_pop, fav, o_getf, o_putI, o_putZ, o_putL, o_ald, o_ast, o_alen, popn, rst, o_callV, o_callT, o_callS, swx, o_sw, o_ret, o_iret, o_zret, o_cret, o_lret, o_aret, lg, lput, lput2, ls1, isL, entL, wsum, rdI1, rdI2, rdA1, rdA21, rdA22, rdL1, rdL22, rdL21, upN_at, rep, sh_0, F_0_0, F_0_1, F_0_2, F_0_3, F_0_4, F_0_5, F_0_6, F_0_7, F_0_8, sh_1, F_1_0, F_1_1, F_1_2, F_1_3, F_1_4, F_1_5, sh_3, F_3_0, F_3_1, F_3_2, F_3_3, F_3_4, F_3_5, sh_5, F_5_0, F_5_1, F_5_2, F_5_3, F_5_4, F_5_5, F_5_6, F_5_7, F_5_8, sh_12, F_12_0, F_12_1, F_12_2, F_12_3, F_12_4, F_12_5, sh_14, F_14_0, F_14_1, F_14_2, F_14_3, F_14_4, F_14_5, F_14_6, F_14_7, F_14_8, sh_21, F_21_0, F_21_1, F_21_2, F_21_3, F_21_4, F_21_5, F_21_6, F_21_7, F_21_8, sh_28, F_28_0, F_28_1, F_28_2, F_28_3, F_28_4, F_28_5, F_28_6, F_28_7, F_28_8, sh_35, F_35_0, sh_39, F_39_0, F_39_1, F_39_2, F_39_3, F_39_4, F_39_5, F_39_6, F_39_7, F_39_8, F_39_9, F_39_10, F_39_11, F_39_12, F_39_13, A_2, A_4, A_6, A_7, A_8, A_9, A_10, A_11, A_13, A_15, A_16, A_17, A_18, A_19, A_20, A_22, A_23, A_24, A_25, A_26, A_27, A_29, A_30, A_31, A_32, A_33, A_34, A_36, A_37, A_38, A_40, A_41, A_42, A_43, A_44, A_45, A_46, A_47]
      simp only [hs]
      simp (disch := omega) only [nI_leI, nI_ltI, nI_eq, nI_1, nI_add, one_shl, nI_or, nI_xor, nI_and, bit_0, bit_1, true_or, or_true, true_and, and_true, eq_self, not_true_eq_false, not_false_eq_true, forall_const]
      refine ⟨fun z => h1 ⟨hlen, fun q hq2 => hq q (by omega)⟩, fun z => ⟨L, t, s + j, rfl, hT, by omega, ?_⟩⟩
      dsimp only [k_X3_isWord_0, k_X3_isWord_1, k_X3_isWord_4, k_X3_isWord_5, k_X3_isWord_8, k_X3_isWord_9, k_X3_isWord_10, k_X3_isWord_13, k_X3_isWord_16, k_X3_isWord_17, k_X3_isWord_18, k_X3_isWord_19, k_X3_isWord_20, k_X3_isWord_21, k_X3_isWord_22, k_X3_isWord_25, k_X3_isWord_28, k_X3_isWord_29, k_X3_isWord_30, k_X3_isWord_33, k_X3_isWord_34, k_X3_isWord_35, k_X3_isWord_38, k_X3_isWord_39, k_X3_isWord_40, k_X3_isWord_43, k_X3_isWord_46, k_X3_isWord_47, k_X3_isWord_48, k_X3_isWord_51, k_X3_isWord_54, k_X3_isWord_55, wp1, wp_s, cutIn, kont, Nat.reduceSub, Nat.reduceAdd, nth, o_const, o_lconst, o_ref, o_iload, o_lload, o_aload, o_istore, o_lstore, o_astore, o_iinc, o_bin, o_div, o_un, o_lbin, o_lsh, o_lcmp, o_i2l, o_l2i, o_if, o_icmp, o_goto, o_dup, o_dup2, o_pop, fav, o_getf, o_putI, o_putZ, o_putL, o_ald, o_ast, o_alen, popn, rst, o_callV, o_callT, o_callS, swx, o_sw, o_ret, o_iret, o_zret, o_cret, o_lret, o_aret, lg, lput, lput2, ls1, isL, entL, wsum, rdI1, rdI2, rdA1, rdA21, rdA22, rdL1, rdL22, rdL21, upN_at, rep, sh_0, F_0_0, F_0_1, F_0_2, F_0_3, F_0_4, F_0_5, F_0_6, F_0_7, F_0_8, sh_1, F_1_0, F_1_1, F_1_2, F_1_3, F_1_4, F_1_5, sh_3, F_3_0, F_3_1, F_3_2, F_3_3, F_3_4, F_3_5, sh_5, F_5_0, F_5_1, F_5_2, F_5_3, F_5_4, F_5_5, F_5_6, F_5_7, F_5_8, sh_12, F_12_0, F_12_1, F_12_2, F_12_3, F_12_4, F_12_5, sh_14, F_14_0, F_14_1, F_14_2, F_14_3, F_14_4, F_14_5, F_14_6, F_14_7, F_14_8, sh_21, F_21_0, F_21_1, F_21_2, F_21_3, F_21_4, F_21_5, F_21_6, F_21_7, F_21_8, sh_28, F_28_0, F_28_1, F_28_2, F_28_3, F_28_4, F_28_5, F_28_6, F_28_7, F_28_8, sh_35, F_35_0, sh_39, F_39_0, F_39_1, F_39_2, F_39_3, F_39_4, F_39_5, F_39_6, F_39_7, F_39_8, F_39_9, F_39_10, F_39_11, F_39_12, F_39_13, A_2, A_4, A_6, A_7, A_8, A_9, A_10, A_11, A_13, A_15, A_16, A_17, A_18, A_19, A_20, A_22, A_23, A_24, A_25, A_26, A_27, A_29, A_30, A_31, A_32, A_33, A_34, A_36, A_37, A_38, A_40, A_41, A_42, A_43, A_44, A_45, A_46, A_47]
      first | refine ⟨0, j, rfl, by decide, by omega, ?_⟩ | refine ⟨1, j, rfl, by decide, by omega, ?_⟩ | refine ⟨2, j, rfl, by decide, by omega, ?_⟩ | refine ⟨3, j, rfl, by decide, by omega, ?_⟩
      dsimp only [k_X3_isWord_0, k_X3_isWord_1, k_X3_isWord_4, k_X3_isWord_5, k_X3_isWord_8, k_X3_isWord_9, k_X3_isWord_10, k_X3_isWord_13, k_X3_isWord_16, k_X3_isWord_17, k_X3_isWord_18, k_X3_isWord_19, k_X3_isWord_20, k_X3_isWord_21, k_X3_isWord_22, k_X3_isWord_25, k_X3_isWord_28, k_X3_isWord_29, k_X3_isWord_30, k_X3_isWord_33, k_X3_isWord_34, k_X3_isWord_35, k_X3_isWord_38, k_X3_isWord_39, k_X3_isWord_40, k_X3_isWord_43, k_X3_isWord_46, k_X3_isWord_47, k_X3_isWord_48, k_X3_isWord_51, k_X3_isWord_54, k_X3_isWord_55, wp1, wp_s, cutIn, kont, Nat.reduceSub, Nat.reduceAdd, nth, o_const, o_lconst, o_ref, o_iload, o_lload, o_aload, o_istore, o_lstore, o_astore, o_iinc, o_bin, o_div, o_un, o_lbin, o_lsh, o_lcmp, o_i2l, o_l2i, o_if, o_icmp, o_goto, o_dup, o_dup2, o_pop, fav, o_getf, o_putI, o_putZ, o_putL, o_ald, o_ast, o_alen, popn, rst, o_callV, o_callT, o_callS, swx, o_sw, o_ret, o_iret, o_zret, o_cret, o_lret, o_aret, lg, lput, lput2, ls1, isL, entL, wsum, rdI1, rdI2, rdA1, rdA21, rdA22, rdL1, rdL22, rdL21, upN_at, rep, sh_0, F_0_0, F_0_1, F_0_2, F_0_3, F_0_4, F_0_5, F_0_6, F_0_7, F_0_8, sh_1, F_1_0, F_1_1, F_1_2, F_1_3, F_1_4, F_1_5, sh_3, F_3_0, F_3_1, F_3_2, F_3_3, F_3_4, F_3_5, sh_5, F_5_0, F_5_1, F_5_2, F_5_3, F_5_4, F_5_5, F_5_6, F_5_7, F_5_8, sh_12, F_12_0, F_12_1, F_12_2, F_12_3, F_12_4, F_12_5, sh_14, F_14_0, F_14_1, F_14_2, F_14_3, F_14_4, F_14_5, F_14_6, F_14_7, F_14_8, sh_21, F_21_0, F_21_1, F_21_2, F_21_3, F_21_4, F_21_5, F_21_6, F_21_7, F_21_8, sh_28, F_28_0, F_28_1, F_28_2, F_28_3, F_28_4, F_28_5, F_28_6, F_28_7, F_28_8, sh_35, F_35_0, sh_39, F_39_0, F_39_1, F_39_2, F_39_3, F_39_4, F_39_5, F_39_6, F_39_7, F_39_8, F_39_9, F_39_10, F_39_11, F_39_12, F_39_13, A_2, A_4, A_6, A_7, A_8, A_9, A_10, A_11, A_13, A_15, A_16, A_17, A_18, A_19, A_20, A_22, A_23, A_24, A_25, A_26, A_27, A_29, A_30, A_31, A_32, A_33, A_34, A_36, A_37, A_38, A_40, A_41, A_42, A_43, A_44, A_45, A_46, A_47]
      simp (disch := omega) only [nI_leI, nI_ltI, nI_eq, nI_1, nI_add, one_shl, nI_or, nI_xor, nI_and, bit_0, bit_1, true_or, or_true, true_and, and_true, eq_self, not_true_eq_false, not_false_eq_true, forall_const]
      have eb : bAt t L (s + j) = nI (t (s + j)) := by unfold bAt; rw [if_pos (by omega)]
      rw [eb]
      refine ⟨fun z2 => cut _ _ ⟨rfl, rfl, rfl, hlen, j + 1, by omega, fun q hq2 => ?_, rfl, rfl⟩ (by omega) ⟨rfl, rfl, rfl, trivial⟩, fun z2 => h2 fun z3 => z2 (z3.2 j (by omega))⟩
      rcases Nat.lt_or_ge q j with q3 | q3
      · exact hq q q3
      · rw [show q = j by omega]; exact z2
  · rcases (by omega : i = 0 ∨ i = 1 ∨ i = 2 ∨ i = 3) with rfl | rfl | rfl | rfl
    all_goals
      dsimp only [k_X3_isWord_0, k_X3_isWord_1, k_X3_isWord_4, k_X3_isWord_5, k_X3_isWord_8, k_X3_isWord_9, k_X3_isWord_10, k_X3_isWord_13, k_X3_isWord_16, k_X3_isWord_17, k_X3_isWord_18, k_X3_isWord_19, k_X3_isWord_20, k_X3_isWord_21, k_X3_isWord_22, k_X3_isWord_25, k_X3_isWord_28, k_X3_isWord_29, k_X3_isWord_30, k_X3_isWord_33, k_X3_isWord_34, k_X3_isWord_35, k_X3_isWord_38, k_X3_isWord_39, k_X3_isWord_40, k_X3_isWord_43, k_X3_isWord_46, k_X3_isWord_47, k_X3_isWord_48, k_X3_isWord_51, k_X3_isWord_54, k_X3_isWord_55, wp1, wp_s, cutIn, kont, Nat.reduceSub, Nat.reduceAdd, nth, o_const, o_lconst, o_ref, o_iload, o_lload, o_aload, o_istore, o_lstore, o_astore, o_iinc, o_bin, o_div, o_un, o_lbin, o_lsh, o_lcmp, o_i2l, o_l2i, o_if, o_icmp, o_goto, o_dup, o_dup2, o_pop, fav, o_getf, o_putI, o_putZ, o_putL, o_ald, o_ast, o_alen, popn, rst, o_callV, o_callT, o_callS, swx, o_sw, o_ret, o_iret, o_zret, o_cret, o_lret, o_aret, lg, lput, lput2, ls1, isL, entL, wsum, rdI1, rdI2, rdA1, rdA21, rdA22, rdL1, rdL22, rdL21, upN_at, rep, sh_0, F_0_0, F_0_1, F_0_2, F_0_3, F_0_4, F_0_5, F_0_6, F_0_7, F_0_8, sh_1, F_1_0, F_1_1, F_1_2, F_1_3, F_1_4, F_1_5, sh_3, F_3_0, F_3_1, F_3_2, F_3_3, F_3_4, F_3_5, sh_5, F_5_0, F_5_1, F_5_2, F_5_3, F_5_4, F_5_5, F_5_6, F_5_7, F_5_8, sh_12, F_12_0, F_12_1, F_12_2, F_12_3, F_12_4, F_12_5, sh_14, F_14_0, F_14_1, F_14_2, F_14_3, F_14_4, F_14_5, F_14_6, F_14_7, F_14_8, sh_21, F_21_0, F_21_1, F_21_2, F_21_3, F_21_4, F_21_5, F_21_6, F_21_7, F_21_8, sh_28, F_28_0, F_28_1, F_28_2, F_28_3, F_28_4, F_28_5, F_28_6, F_28_7, F_28_8, sh_35, F_35_0, sh_39, F_39_0, F_39_1, F_39_2, F_39_3, F_39_4, F_39_5, F_39_6, F_39_7, F_39_8, F_39_9, F_39_10, F_39_11, F_39_12, F_39_13, A_2, A_4, A_6, A_7, A_8, A_9, A_10, A_11, A_13, A_15, A_16, A_17, A_18, A_19, A_20, A_22, A_23, A_24, A_25, A_26, A_27, A_29, A_30, A_31, A_32, A_33, A_34, A_36, A_37, A_38, A_40, A_41, A_42, A_43, A_44, A_45, A_46, A_47]
      first | refine ⟨0, rfl, by decide, ?_⟩ | refine ⟨1, rfl, by decide, ?_⟩ | refine ⟨2, rfl, by decide, ?_⟩ | refine ⟨3, rfl, by decide, ?_⟩
      dsimp only [k_X3_isWord_0, k_X3_isWord_1, k_X3_isWord_4, k_X3_isWord_5, k_X3_isWord_8, k_X3_isWord_9, k_X3_isWord_10, k_X3_isWord_13, k_X3_isWord_16, k_X3_isWord_17, k_X3_isWord_18, k_X3_isWord_19, k_X3_isWord_20, k_X3_isWord_21, k_X3_isWord_22, k_X3_isWord_25, k_X3_isWord_28, k_X3_isWord_29, k_X3_isWord_30, k_X3_isWord_33, k_X3_isWord_34, k_X3_isWord_35, k_X3_isWord_38, k_X3_isWord_39, k_X3_isWord_40, k_X3_isWord_43, k_X3_isWord_46, k_X3_isWord_47, k_X3_isWord_48, k_X3_isWord_51, k_X3_isWord_54, k_X3_isWord_55, wp1, wp_s, cutIn, kont, Nat.reduceSub, Nat.reduceAdd, nth, o_const, o_lconst, o_ref, o_iload, o_lload, o_aload, o_istore, o_lstore, o_astore, o_iinc, o_bin, o_div, o_un, o_lbin, o_lsh, o_lcmp, o_i2l, o_l2i, o_if, o_icmp, o_goto, o_dup, o_dup2, o_pop, fav, o_getf, o_putI, o_putZ, o_putL, o_ald, o_ast, o_alen, popn, rst, o_callV, o_callT, o_callS, swx, o_sw, o_ret, o_iret, o_zret, o_cret, o_lret, o_aret, lg, lput, lput2, ls1, isL, entL, wsum, rdI1, rdI2, rdA1, rdA21, rdA22, rdL1, rdL22, rdL21, upN_at, rep, sh_0, F_0_0, F_0_1, F_0_2, F_0_3, F_0_4, F_0_5, F_0_6, F_0_7, F_0_8, sh_1, F_1_0, F_1_1, F_1_2, F_1_3, F_1_4, F_1_5, sh_3, F_3_0, F_3_1, F_3_2, F_3_3, F_3_4, F_3_5, sh_5, F_5_0, F_5_1, F_5_2, F_5_3, F_5_4, F_5_5, F_5_6, F_5_7, F_5_8, sh_12, F_12_0, F_12_1, F_12_2, F_12_3, F_12_4, F_12_5, sh_14, F_14_0, F_14_1, F_14_2, F_14_3, F_14_4, F_14_5, F_14_6, F_14_7, F_14_8, sh_21, F_21_0, F_21_1, F_21_2, F_21_3, F_21_4, F_21_5, F_21_6, F_21_7, F_21_8, sh_28, F_28_0, F_28_1, F_28_2, F_28_3, F_28_4, F_28_5, F_28_6, F_28_7, F_28_8, sh_35, F_35_0, sh_39, F_39_0, F_39_1, F_39_2, F_39_3, F_39_4, F_39_5, F_39_6, F_39_7, F_39_8, F_39_9, F_39_10, F_39_11, F_39_12, F_39_13, A_2, A_4, A_6, A_7, A_8, A_9, A_10, A_11, A_13, A_15, A_16, A_17, A_18, A_19, A_20, A_22, A_23, A_24, A_25, A_26, A_27, A_29, A_30, A_31, A_32, A_33, A_34, A_36, A_37, A_38, A_40, A_41, A_42, A_43, A_44, A_45, A_46, A_47]
      simp only [hs, hp, pk_sub hsp]
      simp (disch := omega) only [nI_leI, nI_ltI, nI_eq, nI_1, nI_add, one_shl, nI_or, nI_xor, nI_and, bit_0, bit_1, true_or, or_true, true_and, and_true, eq_self, not_true_eq_false, not_false_eq_true, forall_const]
      exact ⟨fun z => cut _ _ ⟨rfl, rfl, rfl, z, 0, by omega, fun q hq => absurd hq (by omega), rfl, rfl⟩ (by omega) ⟨rfl, rfl, rfl, trivial⟩, fun z => h2 fun z3 => z z3.1⟩
set_option maxRecDepth 100000 in
theorem v_X3_rowAtHand : ∀ as M post, S_X3_rowAtHand as M post → wsum as ≤ 4 ∧ RUN (T_X3_rowAtHand post) 0 (entL 4 as) [] M := by
  rintro as M post ⟨L, t, s, p, rfl, hT, hp, hs, hsp, hpL, h1, h2⟩
  have hT2 := hT.2.1
  refine ⟨by show 1 ≤ 4; omega, run_of [20] (fun μ pc lv st M' => pc = 20 ∧ st = [] ∧ M' = M ∧ p - s = 9 ∧ ∃ j, j ≤ 9 ∧ (∀ q, q < j → t (s + q) = 120 ∨ t (s + q) = 111) ∧ 10 - j = μ ∧ lv = [some (VR 1), some (VI (nI (mk (fun n => t (s + n) == 120) j))), some (VI (nI j)), none]) 40 20 ?_ ?_⟩
  · rintro μ pc lv st M' ⟨rfl, rfl, rfl, hlen, j, hj, hq, rfl, rfl⟩
    dsimp only [k_X3_rowAtHand_0, k_X3_rowAtHand_1, k_X3_rowAtHand_4, k_X3_rowAtHand_5, k_X3_rowAtHand_8, k_X3_rowAtHand_9, k_X3_rowAtHand_11, k_X3_rowAtHand_14, k_X3_rowAtHand_15, k_X3_rowAtHand_16, k_X3_rowAtHand_17, k_X3_rowAtHand_18, k_X3_rowAtHand_19, k_X3_rowAtHand_20, k_X3_rowAtHand_21, k_X3_rowAtHand_23, k_X3_rowAtHand_26, k_X3_rowAtHand_27, k_X3_rowAtHand_28, k_X3_rowAtHand_31, k_X3_rowAtHand_32, k_X3_rowAtHand_33, k_X3_rowAtHand_36, k_X3_rowAtHand_37, k_X3_rowAtHand_38, k_X3_rowAtHand_40, k_X3_rowAtHand_43, k_X3_rowAtHand_44, k_X3_rowAtHand_45, k_X3_rowAtHand_46, k_X3_rowAtHand_47, k_X3_rowAtHand_48, k_X3_rowAtHand_49, k_X3_rowAtHand_52, k_X3_rowAtHand_53, k_X3_rowAtHand_55, k_X3_rowAtHand_58, k_X3_rowAtHand_59, k_X3_rowAtHand_60, k_X3_rowAtHand_63, k_X3_rowAtHand_66, k_X3_rowAtHand_67, wp1, wp_s, cutIn, kont, Nat.reduceSub, Nat.reduceAdd, nth, o_const, o_lconst, o_ref, o_iload, o_lload, o_aload, o_istore, o_lstore, o_astore, o_iinc, o_bin, o_div, o_un, o_lbin, o_lsh, o_lcmp, o_i2l, o_l2i, o_if, o_icmp, o_goto, o_dup, o_dup2, o_pop, fav, o_getf, o_putI, o_putZ, o_putL, o_ald, o_ast, o_alen, popn, rst, o_callV, o_callT, o_callS, swx, o_sw, o_ret, o_iret, o_zret, o_cret, o_lret, o_aret, lg, lput, lput2, ls1, isL, entL, wsum, rdI1, rdI2, rdA1, rdA21, rdA22, rdL1, rdL22, rdL21, upN_at, rep, sh_0, F_0_0, F_0_1, F_0_2, F_0_3, F_0_4, F_0_5, F_0_6, F_0_7, F_0_8, sh_1, F_1_0, F_1_1, F_1_2, F_1_3, F_1_4, F_1_5, sh_3, F_3_0, F_3_1, F_3_2, F_3_3, F_3_4, F_3_5, sh_5, F_5_0, F_5_1, F_5_2, F_5_3, F_5_4, F_5_5, F_5_6, F_5_7, F_5_8, sh_12, F_12_0, F_12_1, F_12_2, F_12_3, F_12_4, F_12_5, sh_14, F_14_0, F_14_1, F_14_2, F_14_3, F_14_4, F_14_5, F_14_6, F_14_7, F_14_8, sh_21, F_21_0, F_21_1, F_21_2, F_21_3, F_21_4, F_21_5, F_21_6, F_21_7, F_21_8, sh_28, F_28_0, F_28_1, F_28_2, F_28_3, F_28_4, F_28_5, F_28_6, F_28_7, F_28_8, sh_35, F_35_0, sh_39, F_39_0, F_39_1, F_39_2, F_39_3, F_39_4, F_39_5, F_39_6, F_39_7, F_39_8, F_39_9, F_39_10, F_39_11, F_39_12, F_39_13, A_2, A_4, A_6, A_7, A_8, A_9, A_10, A_11, A_13, A_15, A_16, A_17, A_18, A_19, A_20, A_22, A_23, A_24, A_25, A_26, A_27, A_29, A_30, A_31, A_32, A_33, A_34, A_36, A_37, A_38, A_40, A_41, A_42, A_43, A_44, A_45, A_46, A_47]
    simp only [hs, show (9 : Int32) = nI 9 from rfl]
    simp (disch := omega) only [nI_leI, nI_ltI, nI_eq, nI_1, nI_add, one_shl, nI_or, nI_xor, nI_and, bit_0, bit_1, true_or, or_true, true_and, and_true, eq_self, not_true_eq_false, not_false_eq_true, forall_const]
    refine ⟨fun z => ?_, fun z => ⟨L, t, s + j, rfl, hT, by omega, ?_⟩⟩
    · have e : j = 9 := by omega
      subst e
      exact h2 ⟨hlen, hq⟩
    · have eb : bAt t L (s + j) = nI (t (s + j)) := by unfold bAt; rw [if_pos (by omega)]
      have ht := (hT.2.2 (s + j) (by omega)).2
      rw [eb]
      dsimp only [k_X3_rowAtHand_0, k_X3_rowAtHand_1, k_X3_rowAtHand_4, k_X3_rowAtHand_5, k_X3_rowAtHand_8, k_X3_rowAtHand_9, k_X3_rowAtHand_11, k_X3_rowAtHand_14, k_X3_rowAtHand_15, k_X3_rowAtHand_16, k_X3_rowAtHand_17, k_X3_rowAtHand_18, k_X3_rowAtHand_19, k_X3_rowAtHand_20, k_X3_rowAtHand_21, k_X3_rowAtHand_23, k_X3_rowAtHand_26, k_X3_rowAtHand_27, k_X3_rowAtHand_28, k_X3_rowAtHand_31, k_X3_rowAtHand_32, k_X3_rowAtHand_33, k_X3_rowAtHand_36, k_X3_rowAtHand_37, k_X3_rowAtHand_38, k_X3_rowAtHand_40, k_X3_rowAtHand_43, k_X3_rowAtHand_44, k_X3_rowAtHand_45, k_X3_rowAtHand_46, k_X3_rowAtHand_47, k_X3_rowAtHand_48, k_X3_rowAtHand_49, k_X3_rowAtHand_52, k_X3_rowAtHand_53, k_X3_rowAtHand_55, k_X3_rowAtHand_58, k_X3_rowAtHand_59, k_X3_rowAtHand_60, k_X3_rowAtHand_63, k_X3_rowAtHand_66, k_X3_rowAtHand_67, wp1, wp_s, cutIn, kont, Nat.reduceSub, Nat.reduceAdd, nth, o_const, o_lconst, o_ref, o_iload, o_lload, o_aload, o_istore, o_lstore, o_astore, o_iinc, o_bin, o_div, o_un, o_lbin, o_lsh, o_lcmp, o_i2l, o_l2i, o_if, o_icmp, o_goto, o_dup, o_dup2, o_pop, fav, o_getf, o_putI, o_putZ, o_putL, o_ald, o_ast, o_alen, popn, rst, o_callV, o_callT, o_callS, swx, o_sw, o_ret, o_iret, o_zret, o_cret, o_lret, o_aret, lg, lput, lput2, ls1, isL, entL, wsum, rdI1, rdI2, rdA1, rdA21, rdA22, rdL1, rdL22, rdL21, upN_at, rep, sh_0, F_0_0, F_0_1, F_0_2, F_0_3, F_0_4, F_0_5, F_0_6, F_0_7, F_0_8, sh_1, F_1_0, F_1_1, F_1_2, F_1_3, F_1_4, F_1_5, sh_3, F_3_0, F_3_1, F_3_2, F_3_3, F_3_4, F_3_5, sh_5, F_5_0, F_5_1, F_5_2, F_5_3, F_5_4, F_5_5, F_5_6, F_5_7, F_5_8, sh_12, F_12_0, F_12_1, F_12_2, F_12_3, F_12_4, F_12_5, sh_14, F_14_0, F_14_1, F_14_2, F_14_3, F_14_4, F_14_5, F_14_6, F_14_7, F_14_8, sh_21, F_21_0, F_21_1, F_21_2, F_21_3, F_21_4, F_21_5, F_21_6, F_21_7, F_21_8, sh_28, F_28_0, F_28_1, F_28_2, F_28_3, F_28_4, F_28_5, F_28_6, F_28_7, F_28_8, sh_35, F_35_0, sh_39, F_39_0, F_39_1, F_39_2, F_39_3, F_39_4, F_39_5, F_39_6, F_39_7, F_39_8, F_39_9, F_39_10, F_39_11, F_39_12, F_39_13, A_2, A_4, A_6, A_7, A_8, A_9, A_10, A_11, A_13, A_15, A_16, A_17, A_18, A_19, A_20, A_22, A_23, A_24, A_25, A_26, A_27, A_29, A_30, A_31, A_32, A_33, A_34, A_36, A_37, A_38, A_40, A_41, A_42, A_43, A_44, A_45, A_46, A_47]
      simp only [show (120 : Int32) = nI 120 from rfl, show (111 : Int32) = nI 111 from rfl]
      simp (disch := omega) only [nI_leI, nI_ltI, nI_eq, nI_1, nI_add, one_shl, nI_or, nI_xor, nI_and, bit_0, bit_1, true_or, or_true, true_and, and_true, eq_self, not_true_eq_false, not_false_eq_true, forall_const]
      have nx : ∀ c, t (s + j) = c → (c = 120 ∨ c = 111) → ∀ q, q < j + 1 → t (s + q) = 120 ∨ t (s + q) = 111 := by
        intro c hc hc2 q hq2
        rcases Nat.lt_or_ge q j with q3 | q3
        · exact hq q q3
        · rw [show q = j by omega, hc]; exact hc2
      refine ⟨fun z2 => cut _ _ ⟨rfl, rfl, rfl, hlen, j + 1, by omega, nx 120 z2 (Or.inl rfl), rfl, rfl⟩ (by omega) ⟨rfl, vi_eq ?_, rfl, trivial⟩, fun z2 => ⟨fun z3 => cut _ _ ⟨rfl, rfl, rfl, hlen, j + 1, by omega, nx 111 z3 (Or.inr rfl), rfl, rfl⟩ (by omega) ⟨rfl, vi_eq ?_, rfl, trivial⟩, fun z3 => h1 fun z4 => ?_⟩⟩
      · rw [mk, if_pos (by simpa using z2)]
      · rw [mk, if_neg (by simpa using z2)]
      · rcases z4.2 j (by omega) with z5 | z5
        · exact z2 z5
        · exact z3 z5
  · dsimp only [k_X3_rowAtHand_0, k_X3_rowAtHand_1, k_X3_rowAtHand_4, k_X3_rowAtHand_5, k_X3_rowAtHand_8, k_X3_rowAtHand_9, k_X3_rowAtHand_11, k_X3_rowAtHand_14, k_X3_rowAtHand_15, k_X3_rowAtHand_16, k_X3_rowAtHand_17, k_X3_rowAtHand_18, k_X3_rowAtHand_19, k_X3_rowAtHand_20, k_X3_rowAtHand_21, k_X3_rowAtHand_23, k_X3_rowAtHand_26, k_X3_rowAtHand_27, k_X3_rowAtHand_28, k_X3_rowAtHand_31, k_X3_rowAtHand_32, k_X3_rowAtHand_33, k_X3_rowAtHand_36, k_X3_rowAtHand_37, k_X3_rowAtHand_38, k_X3_rowAtHand_40, k_X3_rowAtHand_43, k_X3_rowAtHand_44, k_X3_rowAtHand_45, k_X3_rowAtHand_46, k_X3_rowAtHand_47, k_X3_rowAtHand_48, k_X3_rowAtHand_49, k_X3_rowAtHand_52, k_X3_rowAtHand_53, k_X3_rowAtHand_55, k_X3_rowAtHand_58, k_X3_rowAtHand_59, k_X3_rowAtHand_60, k_X3_rowAtHand_63, k_X3_rowAtHand_66, k_X3_rowAtHand_67, wp1, wp_s, cutIn, kont, Nat.reduceSub, Nat.reduceAdd, nth, o_const, o_lconst, o_ref, o_iload, o_lload, o_aload, o_istore, o_lstore, o_astore, o_iinc, o_bin, o_div, o_un, o_lbin, o_lsh, o_lcmp, o_i2l, o_l2i, o_if, o_icmp, o_goto, o_dup, o_dup2, o_pop, fav, o_getf, o_putI, o_putZ, o_putL, o_ald, o_ast, o_alen, popn, rst, o_callV, o_callT, o_callS, swx, o_sw, o_ret, o_iret, o_zret, o_cret, o_lret, o_aret, lg, lput, lput2, ls1, isL, entL, wsum, rdI1, rdI2, rdA1, rdA21, rdA22, rdL1, rdL22, rdL21, upN_at, rep, sh_0, F_0_0, F_0_1, F_0_2, F_0_3, F_0_4, F_0_5, F_0_6, F_0_7, F_0_8, sh_1, F_1_0, F_1_1, F_1_2, F_1_3, F_1_4, F_1_5, sh_3, F_3_0, F_3_1, F_3_2, F_3_3, F_3_4, F_3_5, sh_5, F_5_0, F_5_1, F_5_2, F_5_3, F_5_4, F_5_5, F_5_6, F_5_7, F_5_8, sh_12, F_12_0, F_12_1, F_12_2, F_12_3, F_12_4, F_12_5, sh_14, F_14_0, F_14_1, F_14_2, F_14_3, F_14_4, F_14_5, F_14_6, F_14_7, F_14_8, sh_21, F_21_0, F_21_1, F_21_2, F_21_3, F_21_4, F_21_5, F_21_6, F_21_7, F_21_8, sh_28, F_28_0, F_28_1, F_28_2, F_28_3, F_28_4, F_28_5, F_28_6, F_28_7, F_28_8, sh_35, F_35_0, sh_39, F_39_0, F_39_1, F_39_2, F_39_3, F_39_4, F_39_5, F_39_6, F_39_7, F_39_8, F_39_9, F_39_10, F_39_11, F_39_12, F_39_13, A_2, A_4, A_6, A_7, A_8, A_9, A_10, A_11, A_13, A_15, A_16, A_17, A_18, A_19, A_20, A_22, A_23, A_24, A_25, A_26, A_27, A_29, A_30, A_31, A_32, A_33, A_34, A_36, A_37, A_38, A_40, A_41, A_42, A_43, A_44, A_45, A_46, A_47]
    simp only [hs, hp, pk_sub hsp, show (9 : Int32) = nI 9 from rfl]
    simp (disch := omega) only [nI_leI, nI_ltI, nI_eq, nI_1, nI_add, one_shl, nI_or, nI_xor, nI_and, bit_0, bit_1, true_or, or_true, true_and, and_true, eq_self, not_true_eq_false, not_false_eq_true, forall_const]
    exact ⟨fun z => cut _ _ ⟨rfl, rfl, rfl, z, 0, by omega, fun q hq => absurd hq (by omega), rfl, rfl⟩ (by omega) ⟨rfl, rfl, rfl, trivial⟩, fun z => h1 fun z3 => z z3.1⟩
theorem c_X3_isWord : Ctr yX3_isWord cX3_isWord 3 (some .boolean) ({ frames := 4, cells := 0, slots := 0, locals := 85 } : Room) S_X3_isWord := ctr_of (T := T_X3_isWord) (by decide +kernel) (fun post C hr => t_X3_isWord post C hr) v_X3_isWord
theorem c_X3_rowAtHand : Ctr yX3_rowAtHand cX3_rowAtHand 4 (some .int) ({ frames := 1, cells := 0, slots := 0, locals := 21 } : Room) S_X3_rowAtHand := ctr_of (T := T_X3_rowAtHand) (by decide +kernel) (fun post C hr => t_X3_rowAtHand post C hr) v_X3_rowAtHand
