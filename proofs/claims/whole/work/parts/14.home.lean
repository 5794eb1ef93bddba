/-! The class's homes. -/
def S_X0_hasLock : SP := fun as M post => ∃ x, as = [VR 3, VI x] ∧ pz (0 ≤ x ∧ x < M.1 5) post M
def S_X0_hasPerson : SP := fun as M post => ∃ k x, as = [VR k, VI x] ∧ ((k = 3 ∧ pz (0 ≤ x ∧ x < M.1 6) post M) ∨ (k = 12 ∧ pz (0 ≤ x ∧ x < M.1 13) post M))
def S_X0_everybody : SP := fun as M post => ∃ p, as = [VR 3] ∧ M.1 6 = nI p ∧ p ≤ 4 ∧ post (some (VI (nI (2 ^ p - 1)))) M
def S_X0_allLocks : SP := fun as M post => ∃ c, as = [VR 3] ∧ M.1 5 = nI c ∧ c ≤ 6 ∧ post (some (VI (nI (2 ^ c - 1)))) M
/-- one of the first i people, who is of the group g, has the key -/
def hh (h : Nat → Int32) (g : Nat) : Nat → Nat → Bool
  | 0, _ => false
  | i + 1, k => hh h g i k || (g.testBit i && (h k == nI i))
def S_X0_heldBy : SP := fun as M post => ∃ g p n, as = [VR 3, VI (nI g)] ∧ g < 2 ^ 31 ∧ M.1 6 = nI p ∧ p ≤ 4 ∧ M.1 9 = nI n ∧ n ≤ 8 ∧ post (some (VI (nI (mk (hh (M.2.2 3) g p) n)))) M
def S_X0_copyOf : SP := fun as M post => as = [VR 3, VR 12] ∧ post none (sI 6 (M.1 13) (sI 5 (M.1 12) (sA 1 (cpy (M.2.2 1) (M.2.2 8) 6) (cpR 4 9 11 16 M))))
theorem mk_or (P Q : Nat → Bool) (n : Nat) : mk P n ||| mk Q n = mk (fun k => P k || Q k) n := by
  refine Nat.eq_of_testBit_eq fun k => ?_
  rw [Nat.testBit_or, mk_bit, mk_bit, mk_bit]
  cases decide (k < n) <;> simp
theorem mk_congr {P Q : Nat → Bool} {n : Nat} (h : ∀ k, k < n → P k = Q k) : mk P n = mk Q n := by
  refine Nat.eq_of_testBit_eq fun k => ?_
  rw [mk_bit, mk_bit]
  by_cases hk : k < n
  · rw [h k hk]
  · simp [hk]
theorem fl_RX0_22 : Cond.fieldLink RX0 22 (TX0 2).1 (TX0 2).2.1 (TX0 2).2.2.1 ∈ tb := tb_of 154 (by decide +kernel) (by decide +kernel)
theorem dX0_hasLock_0 : decode cX0_hasLock 0 = .ok (.iload_n 1, 1) := by decide +kernel
theorem dX0_hasLock_1 : decode cX0_hasLock 1 = .ok (.ifCond .lt 15, 3) := by decide +kernel
theorem dX0_hasLock_4 : decode cX0_hasLock 4 = .ok (.iload_n 1, 1) := by decide +kernel
theorem dX0_hasLock_5 : decode cX0_hasLock 5 = .ok (.aload_n 0, 1) := by decide +kernel
theorem dX0_hasLock_6 : decode cX0_hasLock 6 = .ok (.getfield 22, 3) := by decide +kernel
theorem dX0_hasLock_9 : decode cX0_hasLock 9 = .ok (.if_icmp .ge 7, 3) := by decide +kernel
theorem dX0_hasLock_12 : decode cX0_hasLock 12 = .ok (.iconst 1, 1) := by decide +kernel
theorem dX0_hasLock_13 : decode cX0_hasLock 13 = .ok (.goto 4, 3) := by decide +kernel
theorem dX0_hasLock_16 : decode cX0_hasLock 16 = .ok (.iconst 0, 1) := by decide +kernel
theorem dX0_hasLock_17 : decode cX0_hasLock 17 = .ok (.ireturn, 1) := by decide +kernel
def T_X0_hasLock (post : PO) : List (Nat × OP) := [(0, o_iload 1 1), (1, o_if (fun x => x < 0) 16 4), (4, o_iload 1 5), (5, o_aload 0 6), (6, o_getf 0 2 9), (9, o_icmp (fun x y => y ≤ x) 16 12), (12, o_const 1 13), (13, o_goto 17), (16, o_const 0 17), (17, o_zret post)]
theorem k_X0_hasLock_0 (post : PO) : lk (T_X0_hasLock post) 0 = o_iload 1 1 := rfl
theorem k_X0_hasLock_1 (post : PO) : lk (T_X0_hasLock post) 1 = o_if (fun x => x < 0) 16 4 := rfl
theorem k_X0_hasLock_4 (post : PO) : lk (T_X0_hasLock post) 4 = o_iload 1 5 := rfl
theorem k_X0_hasLock_5 (post : PO) : lk (T_X0_hasLock post) 5 = o_aload 0 6 := rfl
theorem k_X0_hasLock_6 (post : PO) : lk (T_X0_hasLock post) 6 = o_getf 0 2 9 := rfl
theorem k_X0_hasLock_9 (post : PO) : lk (T_X0_hasLock post) 9 = o_icmp (fun x y => y ≤ x) 16 12 := rfl
theorem k_X0_hasLock_12 (post : PO) : lk (T_X0_hasLock post) 12 = o_const 1 13 := rfl
theorem k_X0_hasLock_13 (post : PO) : lk (T_X0_hasLock post) 13 = o_goto 17 := rfl
theorem k_X0_hasLock_16 (post : PO) : lk (T_X0_hasLock post) 16 = o_const 0 17 := rfl
theorem k_X0_hasLock_17 (post : PO) : lk (T_X0_hasLock post) 17 = o_zret post := rfl
set_option maxRecDepth 100000 in
theorem t_X0_hasLock {p : Program} {l : Launch} {e : Env} {s : State} {m : MethodId} {args : Array Value} {below : List Frame} {meth : Method} {c : Code} {D : va_G} {dA : Nat → ClassId} {ad : Nat → Nat} (post : PO) (C : CX p s m args meth c cX0_hasLock 2 yX0_hasLock.cls D dA ad (AA ad s.heap.size)) (hr : meth.sig.returnType = (some .boolean)) : SndL (WW p l e ({ frames := 0, cells := 0, slots := 0, locals := 0 } : Room) s m args below meth c 0 0 (MQ below (CQ D dA ad post (AA ad s.heap.size)) args s 0 0 (AA ad s.heap.size)) 2 D dA ad (AA ad s.heap.size)) (T_X0_hasLock post) := by
  refine snd_c (s_iload_n C rfl dX0_hasLock_0) ?_
  refine snd_c (s_if_lt C dX0_hasLock_1 (by decide)) ?_
  refine snd_c (s_iload_n C rfl dX0_hasLock_4) ?_
  refine snd_c (s_aload_n C rfl dX0_hasLock_5) ?_
  refine snd_c (s_getf C (ci := 0) (j := 2) (T := TX0) rfl inX0 (by decide) fl_RX0_22 dX0_hasLock_6) ?_
  refine snd_c (s_icmp_ge C dX0_hasLock_9 (by decide)) ?_
  refine snd_c (s_iconst C dX0_hasLock_12 rfl) ?_
  refine snd_c (s_goto C dX0_hasLock_13 (by decide)) ?_
  refine snd_c (s_iconst C dX0_hasLock_16 rfl) ?_
  refine snd_c (s_zret C hr ⟨rfl, rfl⟩ dX0_hasLock_17) ?_
  exact trivial
theorem fl_RX0_26 : Cond.fieldLink RX0 26 (TX0 3).1 (TX0 3).2.1 (TX0 3).2.2.1 ∈ tb := tb_of 156 (by decide +kernel) (by decide +kernel)
theorem dX0_hasPerson_0 : decode cX0_hasPerson 0 = .ok (.iload_n 1, 1) := by decide +kernel
theorem dX0_hasPerson_1 : decode cX0_hasPerson 1 = .ok (.ifCond .lt 15, 3) := by decide +kernel
theorem dX0_hasPerson_4 : decode cX0_hasPerson 4 = .ok (.iload_n 1, 1) := by decide +kernel
theorem dX0_hasPerson_5 : decode cX0_hasPerson 5 = .ok (.aload_n 0, 1) := by decide +kernel
theorem dX0_hasPerson_6 : decode cX0_hasPerson 6 = .ok (.getfield 26, 3) := by decide +kernel
theorem dX0_hasPerson_9 : decode cX0_hasPerson 9 = .ok (.if_icmp .ge 7, 3) := by decide +kernel
theorem dX0_hasPerson_12 : decode cX0_hasPerson 12 = .ok (.iconst 1, 1) := by decide +kernel
theorem dX0_hasPerson_13 : decode cX0_hasPerson 13 = .ok (.goto 4, 3) := by decide +kernel
theorem dX0_hasPerson_16 : decode cX0_hasPerson 16 = .ok (.iconst 0, 1) := by decide +kernel
theorem dX0_hasPerson_17 : decode cX0_hasPerson 17 = .ok (.ireturn, 1) := by decide +kernel
def T_X0_hasPerson (post : PO) : List (Nat × OP) := [(0, o_iload 1 1), (1, o_if (fun x => x < 0) 16 4), (4, o_iload 1 5), (5, o_aload 0 6), (6, o_getf 0 3 9), (9, o_icmp (fun x y => y ≤ x) 16 12), (12, o_const 1 13), (13, o_goto 17), (16, o_const 0 17), (17, o_zret post)]
theorem k_X0_hasPerson_0 (post : PO) : lk (T_X0_hasPerson post) 0 = o_iload 1 1 := rfl
theorem k_X0_hasPerson_1 (post : PO) : lk (T_X0_hasPerson post) 1 = o_if (fun x => x < 0) 16 4 := rfl
theorem k_X0_hasPerson_4 (post : PO) : lk (T_X0_hasPerson post) 4 = o_iload 1 5 := rfl
theorem k_X0_hasPerson_5 (post : PO) : lk (T_X0_hasPerson post) 5 = o_aload 0 6 := rfl
theorem k_X0_hasPerson_6 (post : PO) : lk (T_X0_hasPerson post) 6 = o_getf 0 3 9 := rfl
theorem k_X0_hasPerson_9 (post : PO) : lk (T_X0_hasPerson post) 9 = o_icmp (fun x y => y ≤ x) 16 12 := rfl
theorem k_X0_hasPerson_12 (post : PO) : lk (T_X0_hasPerson post) 12 = o_const 1 13 := rfl
theorem k_X0_hasPerson_13 (post : PO) : lk (T_X0_hasPerson post) 13 = o_goto 17 := rfl
theorem k_X0_hasPerson_16 (post : PO) : lk (T_X0_hasPerson post) 16 = o_const 0 17 := rfl
theorem k_X0_hasPerson_17 (post : PO) : lk (T_X0_hasPerson post) 17 = o_zret post := rfl
set_option maxRecDepth 100000 in
theorem t_X0_hasPerson {p : Program} {l : Launch} {e : Env} {s : State} {m : MethodId} {args : Array Value} {below : List Frame} {meth : Method} {c : Code} {D : va_G} {dA : Nat → ClassId} {ad : Nat → Nat} (post : PO) (C : CX p s m args meth c cX0_hasPerson 2 yX0_hasPerson.cls D dA ad (AA ad s.heap.size)) (hr : meth.sig.returnType = (some .boolean)) : SndL (WW p l e ({ frames := 0, cells := 0, slots := 0, locals := 0 } : Room) s m args below meth c 0 0 (MQ below (CQ D dA ad post (AA ad s.heap.size)) args s 0 0 (AA ad s.heap.size)) 2 D dA ad (AA ad s.heap.size)) (T_X0_hasPerson post) := by
  refine snd_c (s_iload_n C rfl dX0_hasPerson_0) ?_
  refine snd_c (s_if_lt C dX0_hasPerson_1 (by decide)) ?_
  refine snd_c (s_iload_n C rfl dX0_hasPerson_4) ?_
  refine snd_c (s_aload_n C rfl dX0_hasPerson_5) ?_
  refine snd_c (s_getf C (ci := 0) (j := 3) (T := TX0) rfl inX0 (by decide) fl_RX0_26 dX0_hasPerson_6) ?_
  refine snd_c (s_icmp_ge C dX0_hasPerson_9 (by decide)) ?_
  refine snd_c (s_iconst C dX0_hasPerson_12 rfl) ?_
  refine snd_c (s_goto C dX0_hasPerson_13 (by decide)) ?_
  refine snd_c (s_iconst C dX0_hasPerson_16 rfl) ?_
  refine snd_c (s_zret C hr ⟨rfl, rfl⟩ dX0_hasPerson_17) ?_
  exact trivial
theorem dX0_everybody_0 : decode cX0_everybody 0 = .ok (.iconst 1, 1) := by decide +kernel
theorem dX0_everybody_1 : decode cX0_everybody 1 = .ok (.aload_n 0, 1) := by decide +kernel
theorem dX0_everybody_2 : decode cX0_everybody 2 = .ok (.getfield 26, 3) := by decide +kernel
theorem dX0_everybody_5 : decode cX0_everybody 5 = .ok (.ishl, 1) := by decide +kernel
theorem dX0_everybody_6 : decode cX0_everybody 6 = .ok (.iconst 1, 1) := by decide +kernel
theorem dX0_everybody_7 : decode cX0_everybody 7 = .ok (.isub, 1) := by decide +kernel
theorem dX0_everybody_8 : decode cX0_everybody 8 = .ok (.ireturn, 1) := by decide +kernel
def T_X0_everybody (post : PO) : List (Nat × OP) := [(0, o_const 1 1), (1, o_aload 0 2), (2, o_getf 0 3 5), (5, o_bin (fun x y => x <<< (y &&& 31)) 6), (6, o_const 1 7), (7, o_bin (fun x y => x - y) 8), (8, o_iret post)]
theorem k_X0_everybody_0 (post : PO) : lk (T_X0_everybody post) 0 = o_const 1 1 := rfl
theorem k_X0_everybody_1 (post : PO) : lk (T_X0_everybody post) 1 = o_aload 0 2 := rfl
theorem k_X0_everybody_2 (post : PO) : lk (T_X0_everybody post) 2 = o_getf 0 3 5 := rfl
theorem k_X0_everybody_5 (post : PO) : lk (T_X0_everybody post) 5 = o_bin (fun x y => x <<< (y &&& 31)) 6 := rfl
theorem k_X0_everybody_6 (post : PO) : lk (T_X0_everybody post) 6 = o_const 1 7 := rfl
theorem k_X0_everybody_7 (post : PO) : lk (T_X0_everybody post) 7 = o_bin (fun x y => x - y) 8 := rfl
theorem k_X0_everybody_8 (post : PO) : lk (T_X0_everybody post) 8 = o_iret post := rfl
set_option maxRecDepth 100000 in
theorem t_X0_everybody {p : Program} {l : Launch} {e : Env} {s : State} {m : MethodId} {args : Array Value} {below : List Frame} {meth : Method} {c : Code} {D : va_G} {dA : Nat → ClassId} {ad : Nat → Nat} (post : PO) (C : CX p s m args meth c cX0_everybody 1 yX0_everybody.cls D dA ad (AA ad s.heap.size)) (hr : meth.sig.returnType = (some .int)) : SndL (WW p l e ({ frames := 0, cells := 0, slots := 0, locals := 0 } : Room) s m args below meth c 0 0 (MQ below (CQ D dA ad post (AA ad s.heap.size)) args s 0 0 (AA ad s.heap.size)) 1 D dA ad (AA ad s.heap.size)) (T_X0_everybody post) := by
  refine snd_c (s_iconst C dX0_everybody_0 rfl) ?_
  refine snd_c (s_aload_n C rfl dX0_everybody_1) ?_
  refine snd_c (s_getf C (ci := 0) (j := 3) (T := TX0) rfl inX0 (by decide) fl_RX0_26 dX0_everybody_2) ?_
  refine snd_c (s_ishl C dX0_everybody_5) ?_
  refine snd_c (s_iconst C dX0_everybody_6 rfl) ?_
  refine snd_c (s_isub C dX0_everybody_7) ?_
  refine snd_c (s_iret C hr dX0_everybody_8) ?_
  exact trivial
theorem dX0_allLocks_0 : decode cX0_allLocks 0 = .ok (.iconst 1, 1) := by decide +kernel
theorem dX0_allLocks_1 : decode cX0_allLocks 1 = .ok (.aload_n 0, 1) := by decide +kernel
theorem dX0_allLocks_2 : decode cX0_allLocks 2 = .ok (.getfield 22, 3) := by decide +kernel
theorem dX0_allLocks_5 : decode cX0_allLocks 5 = .ok (.ishl, 1) := by decide +kernel
theorem dX0_allLocks_6 : decode cX0_allLocks 6 = .ok (.iconst 1, 1) := by decide +kernel
theorem dX0_allLocks_7 : decode cX0_allLocks 7 = .ok (.isub, 1) := by decide +kernel
theorem dX0_allLocks_8 : decode cX0_allLocks 8 = .ok (.ireturn, 1) := by decide +kernel
def T_X0_allLocks (post : PO) : List (Nat × OP) := [(0, o_const 1 1), (1, o_aload 0 2), (2, o_getf 0 2 5), (5, o_bin (fun x y => x <<< (y &&& 31)) 6), (6, o_const 1 7), (7, o_bin (fun x y => x - y) 8), (8, o_iret post)]
theorem k_X0_allLocks_0 (post : PO) : lk (T_X0_allLocks post) 0 = o_const 1 1 := rfl
theorem k_X0_allLocks_1 (post : PO) : lk (T_X0_allLocks post) 1 = o_aload 0 2 := rfl
theorem k_X0_allLocks_2 (post : PO) : lk (T_X0_allLocks post) 2 = o_getf 0 2 5 := rfl
theorem k_X0_allLocks_5 (post : PO) : lk (T_X0_allLocks post) 5 = o_bin (fun x y => x <<< (y &&& 31)) 6 := rfl
theorem k_X0_allLocks_6 (post : PO) : lk (T_X0_allLocks post) 6 = o_const 1 7 := rfl
theorem k_X0_allLocks_7 (post : PO) : lk (T_X0_allLocks post) 7 = o_bin (fun x y => x - y) 8 := rfl
theorem k_X0_allLocks_8 (post : PO) : lk (T_X0_allLocks post) 8 = o_iret post := rfl
set_option maxRecDepth 100000 in
theorem t_X0_allLocks {p : Program} {l : Launch} {e : Env} {s : State} {m : MethodId} {args : Array Value} {below : List Frame} {meth : Method} {c : Code} {D : va_G} {dA : Nat → ClassId} {ad : Nat → Nat} (post : PO) (C : CX p s m args meth c cX0_allLocks 1 yX0_allLocks.cls D dA ad (AA ad s.heap.size)) (hr : meth.sig.returnType = (some .int)) : SndL (WW p l e ({ frames := 0, cells := 0, slots := 0, locals := 0 } : Room) s m args below meth c 0 0 (MQ below (CQ D dA ad post (AA ad s.heap.size)) args s 0 0 (AA ad s.heap.size)) 1 D dA ad (AA ad s.heap.size)) (T_X0_allLocks post) := by
  refine snd_c (s_iconst C dX0_allLocks_0 rfl) ?_
  refine snd_c (s_aload_n C rfl dX0_allLocks_1) ?_
  refine snd_c (s_getf C (ci := 0) (j := 2) (T := TX0) rfl inX0 (by decide) fl_RX0_22 dX0_allLocks_2) ?_
  refine snd_c (s_ishl C dX0_allLocks_5) ?_
  refine snd_c (s_iconst C dX0_allLocks_6 rfl) ?_
  refine snd_c (s_isub C dX0_allLocks_7) ?_
  refine snd_c (s_iret C hr dX0_allLocks_8) ?_
  exact trivial
theorem fl_RX0_12 : Cond.fieldLink RX0 12 (TX0 0).1 (TX0 0).2.1 (TX0 0).2.2.1 ∈ tb := tb_of 150 (by decide +kernel) (by decide +kernel)
theorem cw_RX0_29 : ∀ w ∈ ([.methodLink RX0 29 yX1_keptBy, .instanceMethod yX1_keptBy, .selects yX1_keptBy.cls yX1_keptBy yX1_keptBy, .initialized yX1_keptBy.cls, .code yX1_keptBy cX1_keptBy 4 (some .int)] : List Cond), w ∈ tb := tb_all [487, 402, 403, 57, 404] (by decide +kernel) (by decide +kernel)
theorem dX0_heldBy_0 : decode cX0_heldBy 0 = .ok (.iconst 0, 1) := by decide +kernel
theorem dX0_heldBy_1 : decode cX0_heldBy 1 = .ok (.istore_n 2, 1) := by decide +kernel
theorem dX0_heldBy_2 : decode cX0_heldBy 2 = .ok (.iconst 0, 1) := by decide +kernel
theorem dX0_heldBy_3 : decode cX0_heldBy 3 = .ok (.istore_n 3, 1) := by decide +kernel
theorem dX0_heldBy_4 : decode cX0_heldBy 4 = .ok (.iload_n 3, 1) := by decide +kernel
theorem dX0_heldBy_5 : decode cX0_heldBy 5 = .ok (.aload_n 0, 1) := by decide +kernel
theorem dX0_heldBy_6 : decode cX0_heldBy 6 = .ok (.getfield 26, 3) := by decide +kernel
theorem dX0_heldBy_9 : decode cX0_heldBy 9 = .ok (.if_icmp .ge 28, 3) := by decide +kernel
theorem dX0_heldBy_12 : decode cX0_heldBy 12 = .ok (.iload_n 1, 1) := by decide +kernel
theorem dX0_heldBy_13 : decode cX0_heldBy 13 = .ok (.iload_n 3, 1) := by decide +kernel
theorem dX0_heldBy_14 : decode cX0_heldBy 14 = .ok (.ishr, 1) := by decide +kernel
theorem dX0_heldBy_15 : decode cX0_heldBy 15 = .ok (.iconst 1, 1) := by decide +kernel
theorem dX0_heldBy_16 : decode cX0_heldBy 16 = .ok (.iand, 1) := by decide +kernel
theorem dX0_heldBy_17 : decode cX0_heldBy 17 = .ok (.ifCond .eq 14, 3) := by decide +kernel
theorem dX0_heldBy_20 : decode cX0_heldBy 20 = .ok (.iload_n 2, 1) := by decide +kernel
theorem dX0_heldBy_21 : decode cX0_heldBy 21 = .ok (.aload_n 0, 1) := by decide +kernel
theorem dX0_heldBy_22 : decode cX0_heldBy 22 = .ok (.getfield 12, 3) := by decide +kernel
theorem dX0_heldBy_25 : decode cX0_heldBy 25 = .ok (.iload_n 3, 1) := by decide +kernel
theorem dX0_heldBy_26 : decode cX0_heldBy 26 = .ok (.invokevirtual 29, 3) := by decide +kernel
theorem dX0_heldBy_29 : decode cX0_heldBy 29 = .ok (.ior, 1) := by decide +kernel
theorem dX0_heldBy_30 : decode cX0_heldBy 30 = .ok (.istore_n 2, 1) := by decide +kernel
theorem dX0_heldBy_31 : decode cX0_heldBy 31 = .ok (.iinc 3 1, 3) := by decide +kernel
theorem dX0_heldBy_34 : decode cX0_heldBy 34 = .ok (.goto (-30), 3) := by decide +kernel
theorem dX0_heldBy_37 : decode cX0_heldBy 37 = .ok (.iload_n 2, 1) := by decide +kernel
theorem dX0_heldBy_38 : decode cX0_heldBy 38 = .ok (.ireturn, 1) := by decide +kernel
def T_X0_heldBy (post : PO) : List (Nat × OP) := [(0, o_const 0 1), (1, o_istore 2 2), (2, o_const 0 3), (3, o_istore 3 4), (4, o_iload 3 5), (5, o_aload 0 6), (6, o_getf 0 3 9), (9, o_icmp (fun x y => y ≤ x) 37 12), (12, o_iload 1 13), (13, o_iload 3 14), (14, o_bin (fun x y => x >>> (y &&& 31)) 15), (15, o_const 1 16), (16, o_bin (fun x y => x &&& y) 17), (17, o_if (fun x => x = 0) 31 20), (20, o_iload 2 21), (21, o_aload 0 22), (22, o_getf 0 0 25), (25, o_iload 3 26), (26, o_callV 1 S_X1_keptBy 1 29), (29, o_bin (fun x y => x ||| y) 30), (30, o_istore 2 31), (31, o_iinc 3 1 34), (34, o_goto 4), (37, o_iload 2 38), (38, o_iret post)]
theorem k_X0_heldBy_0 (post : PO) : lk (T_X0_heldBy post) 0 = o_const 0 1 := rfl
theorem k_X0_heldBy_1 (post : PO) : lk (T_X0_heldBy post) 1 = o_istore 2 2 := rfl
theorem k_X0_heldBy_2 (post : PO) : lk (T_X0_heldBy post) 2 = o_const 0 3 := rfl
theorem k_X0_heldBy_3 (post : PO) : lk (T_X0_heldBy post) 3 = o_istore 3 4 := rfl
theorem k_X0_heldBy_4 (post : PO) : lk (T_X0_heldBy post) 4 = o_iload 3 5 := rfl
theorem k_X0_heldBy_5 (post : PO) : lk (T_X0_heldBy post) 5 = o_aload 0 6 := rfl
theorem k_X0_heldBy_6 (post : PO) : lk (T_X0_heldBy post) 6 = o_getf 0 3 9 := rfl
theorem k_X0_heldBy_9 (post : PO) : lk (T_X0_heldBy post) 9 = o_icmp (fun x y => y ≤ x) 37 12 := rfl
theorem k_X0_heldBy_12 (post : PO) : lk (T_X0_heldBy post) 12 = o_iload 1 13 := rfl
theorem k_X0_heldBy_13 (post : PO) : lk (T_X0_heldBy post) 13 = o_iload 3 14 := rfl
theorem k_X0_heldBy_14 (post : PO) : lk (T_X0_heldBy post) 14 = o_bin (fun x y => x >>> (y &&& 31)) 15 := rfl
theorem k_X0_heldBy_15 (post : PO) : lk (T_X0_heldBy post) 15 = o_const 1 16 := rfl
theorem k_X0_heldBy_16 (post : PO) : lk (T_X0_heldBy post) 16 = o_bin (fun x y => x &&& y) 17 := rfl
theorem k_X0_heldBy_17 (post : PO) : lk (T_X0_heldBy post) 17 = o_if (fun x => x = 0) 31 20 := rfl
theorem k_X0_heldBy_20 (post : PO) : lk (T_X0_heldBy post) 20 = o_iload 2 21 := rfl
theorem k_X0_heldBy_21 (post : PO) : lk (T_X0_heldBy post) 21 = o_aload 0 22 := rfl
theorem k_X0_heldBy_22 (post : PO) : lk (T_X0_heldBy post) 22 = o_getf 0 0 25 := rfl
theorem k_X0_heldBy_25 (post : PO) : lk (T_X0_heldBy post) 25 = o_iload 3 26 := rfl
theorem k_X0_heldBy_26 (post : PO) : lk (T_X0_heldBy post) 26 = o_callV 1 S_X1_keptBy 1 29 := rfl
theorem k_X0_heldBy_29 (post : PO) : lk (T_X0_heldBy post) 29 = o_bin (fun x y => x ||| y) 30 := rfl
theorem k_X0_heldBy_30 (post : PO) : lk (T_X0_heldBy post) 30 = o_istore 2 31 := rfl
theorem k_X0_heldBy_31 (post : PO) : lk (T_X0_heldBy post) 31 = o_iinc 3 1 34 := rfl
theorem k_X0_heldBy_34 (post : PO) : lk (T_X0_heldBy post) 34 = o_goto 4 := rfl
theorem k_X0_heldBy_37 (post : PO) : lk (T_X0_heldBy post) 37 = o_iload 2 38 := rfl
theorem k_X0_heldBy_38 (post : PO) : lk (T_X0_heldBy post) 38 = o_iret post := rfl
set_option maxRecDepth 100000 in
theorem t_X0_heldBy {p : Program} {l : Launch} {e : Env} {s : State} {m : MethodId} {args : Array Value} {below : List Frame} {meth : Method} {c : Code} {D : va_G} {dA : Nat → ClassId} {ad : Nat → Nat} (post : PO) (C : CX p s m args meth c cX0_heldBy 4 yX0_heldBy.cls D dA ad (AA ad s.heap.size)) (hr : meth.sig.returnType = (some .int)) : SndL (WW p l e ({ frames := 1, cells := 0, slots := 0, locals := 23 } : Room) s m args below meth c 0 0 (MQ below (CQ D dA ad post (AA ad s.heap.size)) args s 0 0 (AA ad s.heap.size)) 4 D dA ad (AA ad s.heap.size)) (T_X0_heldBy post) := by
  refine snd_c (s_iconst C dX0_heldBy_0 rfl) ?_
  refine snd_c (s_istore_n C rfl (by decide) dX0_heldBy_1) ?_
  refine snd_c (s_iconst C dX0_heldBy_2 rfl) ?_
  refine snd_c (s_istore_n C rfl (by decide) dX0_heldBy_3) ?_
  refine snd_c (s_iload_n C rfl dX0_heldBy_4) ?_
  refine snd_c (s_aload_n C rfl dX0_heldBy_5) ?_
  refine snd_c (s_getf C (ci := 0) (j := 3) (T := TX0) rfl inX0 (by decide) fl_RX0_26 dX0_heldBy_6) ?_
  refine snd_c (s_icmp_ge C dX0_heldBy_9 (by decide)) ?_
  refine snd_c (s_iload_n C rfl dX0_heldBy_12) ?_
  refine snd_c (s_iload_n C rfl dX0_heldBy_13) ?_
  refine snd_c (s_ishr C dX0_heldBy_14) ?_
  refine snd_c (s_iconst C dX0_heldBy_15 rfl) ?_
  refine snd_c (s_iand C dX0_heldBy_16) ?_
  refine snd_c (s_if_eq C dX0_heldBy_17 (by decide)) ?_
  refine snd_c (s_iload_n C rfl dX0_heldBy_20) ?_
  refine snd_c (s_aload_n C rfl dX0_heldBy_21) ?_
  refine snd_c (s_getf C (ci := 0) (j := 0) (T := TX0) rfl inX0 (by decide) fl_RX0_12 dX0_heldBy_22) ?_
  refine snd_c (s_iload_n C rfl dX0_heldBy_25) ?_
  refine snd_c (s_callV C (ci := 1) c_X1_keptBy rfl cw_RX0_29 ⟨rfl, rfl⟩ ⟨by decide +kernel, by decide +kernel, by decide +kernel⟩ ⟨by decide, by decide⟩ ⟨Nat.zero_le _, Nat.zero_le _⟩ dX0_heldBy_26) ?_
  refine snd_c (s_ior C dX0_heldBy_29) ?_
  refine snd_c (s_istore_n C rfl (by decide) dX0_heldBy_30) ?_
  refine snd_c (s_iinc C (by decide) rfl dX0_heldBy_31) ?_
  refine snd_c (s_goto C dX0_heldBy_34 (by decide)) ?_
  refine snd_c (s_iload_n C rfl dX0_heldBy_37) ?_
  refine snd_c (s_iret C hr dX0_heldBy_38) ?_
  exact trivial
theorem cw_RX0_33 : ∀ w ∈ ([.methodLink RX0 33 yX1_copyOf, .instanceMethod yX1_copyOf, .selects yX1_copyOf.cls yX1_copyOf yX1_copyOf, .initialized yX1_copyOf.cls, .code yX1_copyOf cX1_copyOf 3 none] : List Cond), w ∈ tb := tb_all [369, 370, 371, 57, 372] (by decide +kernel) (by decide +kernel)
theorem fl_RX0_18 : Cond.fieldLink RX0 18 (TX0 1).1 (TX0 1).2.1 (TX0 1).2.2.1 ∈ tb := tb_of 152 (by decide +kernel) (by decide +kernel)
theorem dX0_copyOf_0 : decode cX0_copyOf 0 = .ok (.aload_n 0, 1) := by decide +kernel
theorem dX0_copyOf_1 : decode cX0_copyOf 1 = .ok (.getfield 12, 3) := by decide +kernel
theorem dX0_copyOf_4 : decode cX0_copyOf 4 = .ok (.aload_n 1, 1) := by decide +kernel
theorem dX0_copyOf_5 : decode cX0_copyOf 5 = .ok (.getfield 12, 3) := by decide +kernel
theorem dX0_copyOf_8 : decode cX0_copyOf 8 = .ok (.invokevirtual 33, 3) := by decide +kernel
theorem dX0_copyOf_11 : decode cX0_copyOf 11 = .ok (.iconst 0, 1) := by decide +kernel
theorem dX0_copyOf_12 : decode cX0_copyOf 12 = .ok (.istore_n 2, 1) := by decide +kernel
theorem dX0_copyOf_13 : decode cX0_copyOf 13 = .ok (.iload_n 2, 1) := by decide +kernel
theorem dX0_copyOf_14 : decode cX0_copyOf 14 = .ok (.bipush 6, 2) := by decide +kernel
theorem dX0_copyOf_16 : decode cX0_copyOf 16 = .ok (.if_icmp .ge 21, 3) := by decide +kernel
theorem dX0_copyOf_19 : decode cX0_copyOf 19 = .ok (.aload_n 0, 1) := by decide +kernel
theorem dX0_copyOf_20 : decode cX0_copyOf 20 = .ok (.getfield 18, 3) := by decide +kernel
theorem dX0_copyOf_23 : decode cX0_copyOf 23 = .ok (.iload_n 2, 1) := by decide +kernel
theorem dX0_copyOf_24 : decode cX0_copyOf 24 = .ok (.aload_n 1, 1) := by decide +kernel
theorem dX0_copyOf_25 : decode cX0_copyOf 25 = .ok (.getfield 18, 3) := by decide +kernel
theorem dX0_copyOf_28 : decode cX0_copyOf 28 = .ok (.iload_n 2, 1) := by decide +kernel
theorem dX0_copyOf_29 : decode cX0_copyOf 29 = .ok (.iaload, 1) := by decide +kernel
theorem dX0_copyOf_30 : decode cX0_copyOf 30 = .ok (.iastore, 1) := by decide +kernel
theorem dX0_copyOf_31 : decode cX0_copyOf 31 = .ok (.iinc 2 1, 3) := by decide +kernel
theorem dX0_copyOf_34 : decode cX0_copyOf 34 = .ok (.goto (-21), 3) := by decide +kernel
theorem dX0_copyOf_37 : decode cX0_copyOf 37 = .ok (.aload_n 0, 1) := by decide +kernel
theorem dX0_copyOf_38 : decode cX0_copyOf 38 = .ok (.aload_n 1, 1) := by decide +kernel
theorem dX0_copyOf_39 : decode cX0_copyOf 39 = .ok (.getfield 22, 3) := by decide +kernel
theorem dX0_copyOf_42 : decode cX0_copyOf 42 = .ok (.putfield 22, 3) := by decide +kernel
theorem dX0_copyOf_45 : decode cX0_copyOf 45 = .ok (.aload_n 0, 1) := by decide +kernel
theorem dX0_copyOf_46 : decode cX0_copyOf 46 = .ok (.aload_n 1, 1) := by decide +kernel
theorem dX0_copyOf_47 : decode cX0_copyOf 47 = .ok (.getfield 26, 3) := by decide +kernel
theorem dX0_copyOf_50 : decode cX0_copyOf 50 = .ok (.putfield 26, 3) := by decide +kernel
theorem dX0_copyOf_53 : decode cX0_copyOf 53 = .ok (.return_, 1) := by decide +kernel
def T_X0_copyOf (post : PO) : List (Nat × OP) := [(0, o_aload 0 1), (1, o_getf 0 0 4), (4, o_aload 1 5), (5, o_getf 0 0 8), (8, o_callV 1 S_X1_copyOf 1 11), (11, o_const 0 12), (12, o_istore 2 13), (13, o_iload 2 14), (14, o_const 6 16), (16, o_icmp (fun x y => y ≤ x) 37 19), (19, o_aload 0 20), (20, o_getf 0 1 23), (23, o_iload 2 24), (24, o_aload 1 25), (25, o_getf 0 1 28), (28, o_iload 2 29), (29, o_ald 0 30), (30, o_ast 0 (fun x => x) 31), (31, o_iinc 2 1 34), (34, o_goto 13), (37, o_aload 0 38), (38, o_aload 1 39), (39, o_getf 0 2 42), (42, o_putI 0 2 45), (45, o_aload 0 46), (46, o_aload 1 47), (47, o_getf 0 3 50), (50, o_putI 0 3 53), (53, o_ret post)]
theorem k_X0_copyOf_0 (post : PO) : lk (T_X0_copyOf post) 0 = o_aload 0 1 := rfl
theorem k_X0_copyOf_1 (post : PO) : lk (T_X0_copyOf post) 1 = o_getf 0 0 4 := rfl
theorem k_X0_copyOf_4 (post : PO) : lk (T_X0_copyOf post) 4 = o_aload 1 5 := rfl
theorem k_X0_copyOf_5 (post : PO) : lk (T_X0_copyOf post) 5 = o_getf 0 0 8 := rfl
theorem k_X0_copyOf_8 (post : PO) : lk (T_X0_copyOf post) 8 = o_callV 1 S_X1_copyOf 1 11 := rfl
theorem k_X0_copyOf_11 (post : PO) : lk (T_X0_copyOf post) 11 = o_const 0 12 := rfl
theorem k_X0_copyOf_12 (post : PO) : lk (T_X0_copyOf post) 12 = o_istore 2 13 := rfl
theorem k_X0_copyOf_13 (post : PO) : lk (T_X0_copyOf post) 13 = o_iload 2 14 := rfl
theorem k_X0_copyOf_14 (post : PO) : lk (T_X0_copyOf post) 14 = o_const 6 16 := rfl
theorem k_X0_copyOf_16 (post : PO) : lk (T_X0_copyOf post) 16 = o_icmp (fun x y => y ≤ x) 37 19 := rfl
theorem k_X0_copyOf_19 (post : PO) : lk (T_X0_copyOf post) 19 = o_aload 0 20 := rfl
theorem k_X0_copyOf_20 (post : PO) : lk (T_X0_copyOf post) 20 = o_getf 0 1 23 := rfl
theorem k_X0_copyOf_23 (post : PO) : lk (T_X0_copyOf post) 23 = o_iload 2 24 := rfl
theorem k_X0_copyOf_24 (post : PO) : lk (T_X0_copyOf post) 24 = o_aload 1 25 := rfl
theorem k_X0_copyOf_25 (post : PO) : lk (T_X0_copyOf post) 25 = o_getf 0 1 28 := rfl
theorem k_X0_copyOf_28 (post : PO) : lk (T_X0_copyOf post) 28 = o_iload 2 29 := rfl
theorem k_X0_copyOf_29 (post : PO) : lk (T_X0_copyOf post) 29 = o_ald 0 30 := rfl
theorem k_X0_copyOf_30 (post : PO) : lk (T_X0_copyOf post) 30 = o_ast 0 (fun x => x) 31 := rfl
theorem k_X0_copyOf_31 (post : PO) : lk (T_X0_copyOf post) 31 = o_iinc 2 1 34 := rfl
theorem k_X0_copyOf_34 (post : PO) : lk (T_X0_copyOf post) 34 = o_goto 13 := rfl
theorem k_X0_copyOf_37 (post : PO) : lk (T_X0_copyOf post) 37 = o_aload 0 38 := rfl
theorem k_X0_copyOf_38 (post : PO) : lk (T_X0_copyOf post) 38 = o_aload 1 39 := rfl
theorem k_X0_copyOf_39 (post : PO) : lk (T_X0_copyOf post) 39 = o_getf 0 2 42 := rfl
theorem k_X0_copyOf_42 (post : PO) : lk (T_X0_copyOf post) 42 = o_putI 0 2 45 := rfl
theorem k_X0_copyOf_45 (post : PO) : lk (T_X0_copyOf post) 45 = o_aload 0 46 := rfl
theorem k_X0_copyOf_46 (post : PO) : lk (T_X0_copyOf post) 46 = o_aload 1 47 := rfl
theorem k_X0_copyOf_47 (post : PO) : lk (T_X0_copyOf post) 47 = o_getf 0 3 50 := rfl
theorem k_X0_copyOf_50 (post : PO) : lk (T_X0_copyOf post) 50 = o_putI 0 3 53 := rfl
theorem k_X0_copyOf_53 (post : PO) : lk (T_X0_copyOf post) 53 = o_ret post := rfl
set_option maxRecDepth 100000 in
theorem t_X0_copyOf {p : Program} {l : Launch} {e : Env} {s : State} {m : MethodId} {args : Array Value} {below : List Frame} {meth : Method} {c : Code} {D : va_G} {dA : Nat → ClassId} {ad : Nat → Nat} (post : PO) (C : CX p s m args meth c cX0_copyOf 3 yX0_copyOf.cls D dA ad (AA ad s.heap.size)) (hr : meth.sig.returnType = none) : SndL (WW p l e ({ frames := 2, cells := 0, slots := 0, locals := 45 } : Room) s m args below meth c 0 0 (MQ below (CQ D dA ad post (AA ad s.heap.size)) args s 0 0 (AA ad s.heap.size)) 3 D dA ad (AA ad s.heap.size)) (T_X0_copyOf post) := by
  refine snd_c (s_aload_n C rfl dX0_copyOf_0) ?_
  refine snd_c (s_getf C (ci := 0) (j := 0) (T := TX0) rfl inX0 (by decide) fl_RX0_12 dX0_copyOf_1) ?_
  refine snd_c (s_aload_n C rfl dX0_copyOf_4) ?_
  refine snd_c (s_getf C (ci := 0) (j := 0) (T := TX0) rfl inX0 (by decide) fl_RX0_12 dX0_copyOf_5) ?_
  refine snd_c (s_callV C (ci := 1) c_X1_copyOf rfl cw_RX0_33 ⟨rfl, rfl⟩ ⟨by decide +kernel, by decide +kernel, by decide +kernel⟩ ⟨by decide, by decide⟩ ⟨Nat.zero_le _, Nat.zero_le _⟩ dX0_copyOf_8) ?_
  refine snd_c (s_iconst C dX0_copyOf_11 rfl) ?_
  refine snd_c (s_istore_n C rfl (by decide) dX0_copyOf_12) ?_
  refine snd_c (s_iload_n C rfl dX0_copyOf_13) ?_
  refine snd_c (s_bipush C dX0_copyOf_14 rfl) ?_
  refine snd_c (s_icmp_ge C dX0_copyOf_16 (by decide)) ?_
  refine snd_c (s_aload_n C rfl dX0_copyOf_19) ?_
  refine snd_c (s_getf C (ci := 0) (j := 1) (T := TX0) rfl inX0 (by decide) fl_RX0_18 dX0_copyOf_20) ?_
  refine snd_c (s_iload_n C rfl dX0_copyOf_23) ?_
  refine snd_c (s_aload_n C rfl dX0_copyOf_24) ?_
  refine snd_c (s_getf C (ci := 0) (j := 1) (T := TX0) rfl inX0 (by decide) fl_RX0_18 dX0_copyOf_25) ?_
  refine snd_c (s_iload_n C rfl dX0_copyOf_28) ?_
  refine snd_c (s_iald C dX0_copyOf_29) ?_
  refine snd_c (s_iast C dX0_copyOf_30) ?_
  refine snd_c (s_iinc C (by decide) rfl dX0_copyOf_31) ?_
  refine snd_c (s_goto C dX0_copyOf_34 (by decide)) ?_
  refine snd_c (s_aload_n C rfl dX0_copyOf_37) ?_
  refine snd_c (s_aload_n C rfl dX0_copyOf_38) ?_
  refine snd_c (s_getf C (ci := 0) (j := 2) (T := TX0) rfl inX0 (by decide) fl_RX0_22 dX0_copyOf_39) ?_
  refine snd_c (s_putI C (ci := 0) (j := 2) (T := TX0) tyX0 tyX0_ok nmX0 rfl inX0 (by decide) rfl rfl fl_RX0_22 dX0_copyOf_42) ?_
  refine snd_c (s_aload_n C rfl dX0_copyOf_45) ?_
  refine snd_c (s_aload_n C rfl dX0_copyOf_46) ?_
  refine snd_c (s_getf C (ci := 0) (j := 3) (T := TX0) rfl inX0 (by decide) fl_RX0_26 dX0_copyOf_47) ?_
  refine snd_c (s_putI C (ci := 0) (j := 3) (T := TX0) tyX0 tyX0_ok nmX0 rfl inX0 (by decide) rfl rfl fl_RX0_26 dX0_copyOf_50) ?_
  refine snd_c (s_ret C hr dX0_copyOf_53) ?_
  exact trivial
set_option maxRecDepth 100000 in
theorem v_X0_hasLock : ∀ as M post, S_X0_hasLock as M post → wsum as ≤ 2 ∧ RUN (T_X0_hasLock post) 0 (entL 2 as) [] M := by
  rintro as M post ⟨x, rfl, h⟩
  refine ⟨Nat.le_refl 2, run_wp 40 ?_⟩
  dsimp only [k_X0_hasLock_0, k_X0_hasLock_1, k_X0_hasLock_4, k_X0_hasLock_5, k_X0_hasLock_6, k_X0_hasLock_9, k_X0_hasLock_12, k_X0_hasLock_13, k_X0_hasLock_16, k_X0_hasLock_17, wp1, wp_s, cutIn, kont, Nat.reduceSub, Nat.reduceAdd, nth, o_const, o_lconst, o_ref, o_iload, o_lload, o_aload, o_istore, o_lstore, o_astore, o_iinc, o_bin, o_div, o_un, o_lbin, o_lsh, o_lcmp, o_i2l, o_l2i, o_if, o_icmp, o_goto, o_dup, o_dup2, o_pop, fav, o_getf, o_putI, o_putZ, o_putL, o_ald, o_ast, o_alen, popn, rst, o_callV, o_callT, o_callS, swx, o_sw, o_ret, o_iret, o_zret, o_cret, o_lret, o_aret, lg, lput, lput2, ls1, isL, entL, wsum, rdI1, rdI2, rdA1, rdA21, rdA22, rdL1, rdL22, rdL21, upN_at, rep, sh_0, F_0_0, F_0_1, F_0_2, F_0_3, F_0_4, F_0_5, F_0_6, F_0_7, F_0_8, sh_1, F_1_0, F_1_1, F_1_2, F_1_3, F_1_4, F_1_5, sh_3, F_3_0, F_3_1, F_3_2, F_3_3, F_3_4, F_3_5, sh_5, F_5_0, F_5_1, F_5_2, F_5_3, F_5_4, F_5_5, F_5_6, F_5_7, F_5_8, sh_12, F_12_0, F_12_1, F_12_2, F_12_3, F_12_4, F_12_5, sh_14, F_14_0, F_14_1, F_14_2, F_14_3, F_14_4, F_14_5, F_14_6, F_14_7, F_14_8, sh_21, F_21_0, F_21_1, F_21_2, F_21_3, F_21_4, F_21_5, F_21_6, F_21_7, F_21_8, sh_28, F_28_0, F_28_1, F_28_2, F_28_3, F_28_4, F_28_5, F_28_6, F_28_7, F_28_8, sh_35, F_35_0, sh_39, F_39_0, F_39_1, F_39_2, F_39_3, F_39_4, F_39_5, F_39_6, F_39_7, F_39_8, F_39_9, F_39_10, F_39_11, F_39_12, F_39_13, A_2, A_4, A_6, A_7, A_8, A_9, A_10, A_11, A_13, A_15, A_16, A_17, A_18, A_19, A_20, A_22, A_23, A_24, A_25, A_26, A_27, A_29, A_30, A_31, A_32, A_33, A_34, A_36, A_37, A_38, A_40, A_41, A_42, A_43, A_44, A_45, A_46, A_47]
  simp only [pz, Int32.lt_iff_toInt_lt, Int32.le_iff_toInt_le, true_or, or_true, true_and] at h ⊢
  exact ⟨fun h1 => h.2 (by omega), fun h1 => ⟨fun h2 => h.2 (by omega), fun h2 => h.1 (by omega)⟩⟩
set_option maxRecDepth 100000 in
theorem v_X0_hasPerson : ∀ as M post, S_X0_hasPerson as M post → wsum as ≤ 2 ∧ RUN (T_X0_hasPerson post) 0 (entL 2 as) [] M := by
  rintro as M post ⟨k, x, rfl, h⟩
  refine ⟨Nat.le_refl 2, run_wp 40 ?_⟩
  rcases h with ⟨rfl, h⟩ | ⟨rfl, h⟩
  all_goals
    dsimp only [k_X0_hasPerson_0, k_X0_hasPerson_1, k_X0_hasPerson_4, k_X0_hasPerson_5, k_X0_hasPerson_6, k_X0_hasPerson_9, k_X0_hasPerson_12, k_X0_hasPerson_13, k_X0_hasPerson_16, k_X0_hasPerson_17, wp1, wp_s, cutIn, kont, Nat.reduceSub, Nat.reduceAdd, nth, o_const, o_lconst, o_ref, o_iload, o_lload, o_aload, o_istore, o_lstore, o_astore, o_iinc, o_bin, o_div, o_un, o_lbin, o_lsh, o_lcmp, o_i2l, o_l2i, o_if, o_icmp, o_goto, o_dup, o_dup2, o_pop, fav, o_getf, o_putI, o_putZ, o_putL, o_ald, o_ast, o_alen, popn, rst, o_callV, o_callT, o_callS, swx, o_sw, o_ret, o_iret, o_zret, o_cret, o_lret, o_aret, lg, lput, lput2, ls1, isL, entL, wsum, rdI1, rdI2, rdA1, rdA21, rdA22, rdL1, rdL22, rdL21, upN_at, rep, sh_0, F_0_0, F_0_1, F_0_2, F_0_3, F_0_4, F_0_5, F_0_6, F_0_7, F_0_8, sh_1, F_1_0, F_1_1, F_1_2, F_1_3, F_1_4, F_1_5, sh_3, F_3_0, F_3_1, F_3_2, F_3_3, F_3_4, F_3_5, sh_5, F_5_0, F_5_1, F_5_2, F_5_3, F_5_4, F_5_5, F_5_6, F_5_7, F_5_8, sh_12, F_12_0, F_12_1, F_12_2, F_12_3, F_12_4, F_12_5, sh_14, F_14_0, F_14_1, F_14_2, F_14_3, F_14_4, F_14_5, F_14_6, F_14_7, F_14_8, sh_21, F_21_0, F_21_1, F_21_2, F_21_3, F_21_4, F_21_5, F_21_6, F_21_7, F_21_8, sh_28, F_28_0, F_28_1, F_28_2, F_28_3, F_28_4, F_28_5, F_28_6, F_28_7, F_28_8, sh_35, F_35_0, sh_39, F_39_0, F_39_1, F_39_2, F_39_3, F_39_4, F_39_5, F_39_6, F_39_7, F_39_8, F_39_9, F_39_10, F_39_11, F_39_12, F_39_13, A_2, A_4, A_6, A_7, A_8, A_9, A_10, A_11, A_13, A_15, A_16, A_17, A_18, A_19, A_20, A_22, A_23, A_24, A_25, A_26, A_27, A_29, A_30, A_31, A_32, A_33, A_34, A_36, A_37, A_38, A_40, A_41, A_42, A_43, A_44, A_45, A_46, A_47]
    simp only [pz, Int32.lt_iff_toInt_lt, Int32.le_iff_toInt_le, true_or, or_true, true_and] at h ⊢
    exact ⟨fun h1 => h.2 (by omega), fun h1 => ⟨fun h2 => h.2 (by omega), fun h2 => h.1 (by omega)⟩⟩
theorem shl1 {n : Nat} (hn : n ≤ 8) : (1 : Int32) <<< (nI n &&& 31) - 1 = nI (2 ^ n - 1) := by
  rw [one_shl (by omega)]
  have := Nat.one_le_two_pow (n := n)
  exact pk_sub (a := 2 ^ n) (b := 1) this
set_option maxRecDepth 100000 in
theorem v_X0_everybody : ∀ as M post, S_X0_everybody as M post → wsum as ≤ 1 ∧ RUN (T_X0_everybody post) 0 (entL 1 as) [] M := by
  rintro as M post ⟨p, rfl, hp, hp4, h⟩
  refine ⟨Nat.le_refl 1, run_wp 40 ?_⟩
  dsimp only [k_X0_everybody_0, k_X0_everybody_1, k_X0_everybody_2, k_X0_everybody_5, k_X0_everybody_6, k_X0_everybody_7, k_X0_everybody_8, wp1, wp_s, cutIn, kont, Nat.reduceSub, Nat.reduceAdd, nth, o_const, o_lconst, o_ref, o_iload, o_lload, o_aload, o_istore, o_lstore, o_astore, o_iinc, o_bin, o_div, o_un, o_lbin, o_lsh, o_lcmp, o_i2l, o_l2i, o_if, o_icmp, o_goto, o_dup, o_dup2, o_pop, fav, o_getf, o_putI, o_putZ, o_putL, o_ald, o_ast, o_alen, popn, rst, o_callV, o_callT, o_callS, swx, o_sw, o_ret, o_iret, o_zret, o_cret, o_lret, o_aret, lg, lput, lput2, ls1, isL, entL, wsum, rdI1, rdI2, rdA1, rdA21, rdA22, rdL1, rdL22, rdL21, upN_at, rep, sh_0, F_0_0, F_0_1, F_0_2, F_0_3, F_0_4, F_0_5, F_0_6, F_0_7, F_0_8, sh_1, F_1_0, F_1_1, F_1_2, F_1_3, F_1_4, F_1_5, sh_3, F_3_0, F_3_1, F_3_2, F_3_3, F_3_4, F_3_5, sh_5, F_5_0, F_5_1, F_5_2, F_5_3, F_5_4, F_5_5, F_5_6, F_5_7, F_5_8, sh_12, F_12_0, F_12_1, F_12_2, F_12_3, F_12_4, F_12_5, sh_14, F_14_0, F_14_1, F_14_2, F_14_3, F_14_4, F_14_5, F_14_6, F_14_7, F_14_8, sh_21, F_21_0, F_21_1, F_21_2, F_21_3, F_21_4, F_21_5, F_21_6, F_21_7, F_21_8, sh_28, F_28_0, F_28_1, F_28_2, F_28_3, F_28_4, F_28_5, F_28_6, F_28_7, F_28_8, sh_35, F_35_0, sh_39, F_39_0, F_39_1, F_39_2, F_39_3, F_39_4, F_39_5, F_39_6, F_39_7, F_39_8, F_39_9, F_39_10, F_39_11, F_39_12, F_39_13, A_2, A_4, A_6, A_7, A_8, A_9, A_10, A_11, A_13, A_15, A_16, A_17, A_18, A_19, A_20, A_22, A_23, A_24, A_25, A_26, A_27, A_29, A_30, A_31, A_32, A_33, A_34, A_36, A_37, A_38, A_40, A_41, A_42, A_43, A_44, A_45, A_46, A_47]
  rw [hp, shl1 (by omega)]
  exact h
set_option maxRecDepth 100000 in
theorem v_X0_allLocks : ∀ as M post, S_X0_allLocks as M post → wsum as ≤ 1 ∧ RUN (T_X0_allLocks post) 0 (entL 1 as) [] M := by
  rintro as M post ⟨p, rfl, hp, hp4, h⟩
  refine ⟨Nat.le_refl 1, run_wp 40 ?_⟩
  dsimp only [k_X0_allLocks_0, k_X0_allLocks_1, k_X0_allLocks_2, k_X0_allLocks_5, k_X0_allLocks_6, k_X0_allLocks_7, k_X0_allLocks_8, wp1, wp_s, cutIn, kont, Nat.reduceSub, Nat.reduceAdd, nth, o_const, o_lconst, o_ref, o_iload, o_lload, o_aload, o_istore, o_lstore, o_astore, o_iinc, o_bin, o_div, o_un, o_lbin, o_lsh, o_lcmp, o_i2l, o_l2i, o_if, o_icmp, o_goto, o_dup, o_dup2, o_pop, fav, o_getf, o_putI, o_putZ, o_putL, o_ald, o_ast, o_alen, popn, rst, o_callV, o_callT, o_callS, swx, o_sw, o_ret, o_iret, o_zret, o_cret, o_lret, o_aret, lg, lput, lput2, ls1, isL, entL, wsum, rdI1, rdI2, rdA1, rdA21, rdA22, rdL1, rdL22, rdL21, upN_at, rep, sh_0, F_0_0, F_0_1, F_0_2, F_0_3, F_0_4, F_0_5, F_0_6, F_0_7, F_0_8, sh_1, F_1_0, F_1_1, F_1_2, F_1_3, F_1_4, F_1_5, sh_3, F_3_0, F_3_1, F_3_2, F_3_3, F_3_4, F_3_5, sh_5, F_5_0, F_5_1, F_5_2, F_5_3, F_5_4, F_5_5, F_5_6, F_5_7, F_5_8, sh_12, F_12_0, F_12_1, F_12_2, F_12_3, F_12_4, F_12_5, sh_14, F_14_0, F_14_1, F_14_2, F_14_3, F_14_4, F_14_5, F_14_6, F_14_7, F_14_8, sh_21, F_21_0, F_21_1, F_21_2, F_21_3, F_21_4, F_21_5, F_21_6, F_21_7, F_21_8, sh_28, F_28_0, F_28_1, F_28_2, F_28_3, F_28_4, F_28_5, F_28_6, F_28_7, F_28_8, sh_35, F_35_0, sh_39, F_39_0, F_39_1, F_39_2, F_39_3, F_39_4, F_39_5, F_39_6, F_39_7, F_39_8, F_39_9, F_39_10, F_39_11, F_39_12, F_39_13, A_2, A_4, A_6, A_7, A_8, A_9, A_10, A_11, A_13, A_15, A_16, A_17, A_18, A_19, A_20, A_22, A_23, A_24, A_25, A_26, A_27, A_29, A_30, A_31, A_32, A_33, A_34, A_36, A_37, A_38, A_40, A_41, A_42, A_43, A_44, A_45, A_46, A_47]
  rw [hp, shl1 (by omega)]
  exact h
set_option maxRecDepth 100000 in
theorem v_X0_heldBy : ∀ as M post, S_X0_heldBy as M post → wsum as ≤ 4 ∧ RUN (T_X0_heldBy post) 0 (entL 4 as) [] M := by
  rintro as M post ⟨g, p, n, rfl, hg, hp, hp4, hn, hn8, h⟩
  refine ⟨by show 2 ≤ 4; omega, run_of [4] (fun μ pc lv st M' => pc = 4 ∧ st = [] ∧ M' = M ∧ ∃ i, i ≤ p ∧ 10 - i = μ ∧ lv = [some (VR 3), some (VI (nI g)), some (VI (nI (mk (hh (M.2.2 3) g i) n))), some (VI (nI i))]) 40 20 ?_ ?_⟩
  · rintro μ pc lv st M' ⟨rfl, rfl, rfl, i, hi, rfl, rfl⟩
    dsimp only [k_X0_heldBy_0, k_X0_heldBy_1, k_X0_heldBy_2, k_X0_heldBy_3, k_X0_heldBy_4, k_X0_heldBy_5, k_X0_heldBy_6, k_X0_heldBy_9, k_X0_heldBy_12, k_X0_heldBy_13, k_X0_heldBy_14, k_X0_heldBy_15, k_X0_heldBy_16, k_X0_heldBy_17, k_X0_heldBy_20, k_X0_heldBy_21, k_X0_heldBy_22, k_X0_heldBy_25, k_X0_heldBy_26, k_X0_heldBy_29, k_X0_heldBy_30, k_X0_heldBy_31, k_X0_heldBy_34, k_X0_heldBy_37, k_X0_heldBy_38, wp1, wp_s, cutIn, kont, Nat.reduceSub, Nat.reduceAdd, nth, o_const, o_lconst, o_ref, o_iload, o_lload, o_aload, o_istore, o_lstore, o_astore, o_iinc, o_bin, o_div, o_un, o_lbin, o_lsh, o_lcmp, o_i2l, o_l2i, o_if, o_icmp, o_goto, o_dup, o_dup2, o_pop, fav, o_getf, o_putI, o_putZ, o_putL, o_ald, o_ast, o_alen, popn, rst, o_callV, o_callT, o_callS, swx, o_sw, o_ret, o_iret, o_zret, o_cret, o_lret, o_aret, lg, lput, lput2, ls1, isL, entL, wsum, rdI1, rdI2, rdA1, rdA21, rdA22, rdL1, rdL22, rdL21, upN_at, rep, sh_0, F_0_0, F_0_1, F_0_2, F_0_3, F_0_4, F_0_5, F_0_6, F_0_7, F_0_8, sh_1, F_1_0, F_1_1, F_1_2, F_1_3, F_1_4, F_1_5, sh_3, F_3_0, F_3_1, F_3_2, F_3_3, F_3_4, F_3_5, sh_5, F_5_0, F_5_1, F_5_2, F_5_3, F_5_4, F_5_5, F_5_6, F_5_7, F_5_8, sh_12, F_12_0, F_12_1, F_12_2, F_12_3, F_12_4, F_12_5, sh_14, F_14_0, F_14_1, F_14_2, F_14_3, F_14_4, F_14_5, F_14_6, F_14_7, F_14_8, sh_21, F_21_0, F_21_1, F_21_2, F_21_3, F_21_4, F_21_5, F_21_6, F_21_7, F_21_8, sh_28, F_28_0, F_28_1, F_28_2, F_28_3, F_28_4, F_28_5, F_28_6, F_28_7, F_28_8, sh_35, F_35_0, sh_39, F_39_0, F_39_1, F_39_2, F_39_3, F_39_4, F_39_5, F_39_6, F_39_7, F_39_8, F_39_9, F_39_10, F_39_11, F_39_12, F_39_13, A_2, A_4, A_6, A_7, A_8, A_9, A_10, A_11, A_13, A_15, A_16, A_17, A_18, A_19, A_20, A_22, A_23, A_24, A_25, A_26, A_27, A_29, A_30, A_31, A_32, A_33, A_34, A_36, A_37, A_38, A_40, A_41, A_42, A_43, A_44, A_45, A_46, A_47]
    rw [hp]
    simp (disch := omega) only [nI_leI, nI_ltI, nI_eq, nI_1, nI_add, one_shl, nI_or, nI_xor, nI_and, bit_0, bit_1, true_or, or_true, true_and, and_true, eq_self, not_true_eq_false, not_false_eq_true, forall_const]
    refine ⟨fun z => ?_, fun z => ⟨fun z2 => cut _ _ ⟨rfl, rfl, rfl, i + 1, by omega, rfl, rfl⟩ (by omega) ⟨rfl, rfl, vi_eq ?_, rfl, trivial⟩, fun z2 => ⟨nI i, n, rfl, hn, hn8, ?_⟩⟩⟩
    · rw [show i = p by omega]; exact h
    · congr 1
      exact mk_congr fun k _ => by rw [hh, z2]; simp
    · dsimp only [k_X0_heldBy_0, k_X0_heldBy_1, k_X0_heldBy_2, k_X0_heldBy_3, k_X0_heldBy_4, k_X0_heldBy_5, k_X0_heldBy_6, k_X0_heldBy_9, k_X0_heldBy_12, k_X0_heldBy_13, k_X0_heldBy_14, k_X0_heldBy_15, k_X0_heldBy_16, k_X0_heldBy_17, k_X0_heldBy_20, k_X0_heldBy_21, k_X0_heldBy_22, k_X0_heldBy_25, k_X0_heldBy_26, k_X0_heldBy_29, k_X0_heldBy_30, k_X0_heldBy_31, k_X0_heldBy_34, k_X0_heldBy_37, k_X0_heldBy_38, wp1, wp_s, cutIn, kont, Nat.reduceSub, Nat.reduceAdd, nth, o_const, o_lconst, o_ref, o_iload, o_lload, o_aload, o_istore, o_lstore, o_astore, o_iinc, o_bin, o_div, o_un, o_lbin, o_lsh, o_lcmp, o_i2l, o_l2i, o_if, o_icmp, o_goto, o_dup, o_dup2, o_pop, fav, o_getf, o_putI, o_putZ, o_putL, o_ald, o_ast, o_alen, popn, rst, o_callV, o_callT, o_callS, swx, o_sw, o_ret, o_iret, o_zret, o_cret, o_lret, o_aret, lg, lput, lput2, ls1, isL, entL, wsum, rdI1, rdI2, rdA1, rdA21, rdA22, rdL1, rdL22, rdL21, upN_at, rep, sh_0, F_0_0, F_0_1, F_0_2, F_0_3, F_0_4, F_0_5, F_0_6, F_0_7, F_0_8, sh_1, F_1_0, F_1_1, F_1_2, F_1_3, F_1_4, F_1_5, sh_3, F_3_0, F_3_1, F_3_2, F_3_3, F_3_4, F_3_5, sh_5, F_5_0, F_5_1, F_5_2, F_5_3, F_5_4, F_5_5, F_5_6, F_5_7, F_5_8, sh_12, F_12_0, F_12_1, F_12_2, F_12_3, F_12_4, F_12_5, sh_14, F_14_0, F_14_1, F_14_2, F_14_3, F_14_4, F_14_5, F_14_6, F_14_7, F_14_8, sh_21, F_21_0, F_21_1, F_21_2, F_21_3, F_21_4, F_21_5, F_21_6, F_21_7, F_21_8, sh_28, F_28_0, F_28_1, F_28_2, F_28_3, F_28_4, F_28_5, F_28_6, F_28_7, F_28_8, sh_35, F_35_0, sh_39, F_39_0, F_39_1, F_39_2, F_39_3, F_39_4, F_39_5, F_39_6, F_39_7, F_39_8, F_39_9, F_39_10, F_39_11, F_39_12, F_39_13, A_2, A_4, A_6, A_7, A_8, A_9, A_10, A_11, A_13, A_15, A_16, A_17, A_18, A_19, A_20, A_22, A_23, A_24, A_25, A_26, A_27, A_29, A_30, A_31, A_32, A_33, A_34, A_36, A_37, A_38, A_40, A_41, A_42, A_43, A_44, A_45, A_46, A_47]
      simp (disch := omega) only [nI_leI, nI_ltI, nI_eq, nI_1, nI_add, one_shl, nI_or, nI_xor, nI_and, bit_0, bit_1, true_or, or_true, true_and, and_true, eq_self, not_true_eq_false, not_false_eq_true, forall_const]
      refine cut _ _ ⟨rfl, rfl, rfl, i + 1, by omega, rfl, rfl⟩ (by omega) ⟨rfl, rfl, vi_eq ?_, rfl, trivial⟩
      rw [mk_or]
      congr 1
      have z3 : g.testBit i = true := by simpa using z2
      exact mk_congr fun k _ => by rw [hh, z3]; simp
  · dsimp only [k_X0_heldBy_0, k_X0_heldBy_1, k_X0_heldBy_2, k_X0_heldBy_3, k_X0_heldBy_4, k_X0_heldBy_5, k_X0_heldBy_6, k_X0_heldBy_9, k_X0_heldBy_12, k_X0_heldBy_13, k_X0_heldBy_14, k_X0_heldBy_15, k_X0_heldBy_16, k_X0_heldBy_17, k_X0_heldBy_20, k_X0_heldBy_21, k_X0_heldBy_22, k_X0_heldBy_25, k_X0_heldBy_26, k_X0_heldBy_29, k_X0_heldBy_30, k_X0_heldBy_31, k_X0_heldBy_34, k_X0_heldBy_37, k_X0_heldBy_38, wp1, wp_s, cutIn, kont, Nat.reduceSub, Nat.reduceAdd, nth, o_const, o_lconst, o_ref, o_iload, o_lload, o_aload, o_istore, o_lstore, o_astore, o_iinc, o_bin, o_div, o_un, o_lbin, o_lsh, o_lcmp, o_i2l, o_l2i, o_if, o_icmp, o_goto, o_dup, o_dup2, o_pop, fav, o_getf, o_putI, o_putZ, o_putL, o_ald, o_ast, o_alen, popn, rst, o_callV, o_callT, o_callS, swx, o_sw, o_ret, o_iret, o_zret, o_cret, o_lret, o_aret, lg, lput, lput2, ls1, isL, entL, wsum, rdI1, rdI2, rdA1, rdA21, rdA22, rdL1, rdL22, rdL21, upN_at, rep, sh_0, F_0_0, F_0_1, F_0_2, F_0_3, F_0_4, F_0_5, F_0_6, F_0_7, F_0_8, sh_1, F_1_0, F_1_1, F_1_2, F_1_3, F_1_4, F_1_5, sh_3, F_3_0, F_3_1, F_3_2, F_3_3, F_3_4, F_3_5, sh_5, F_5_0, F_5_1, F_5_2, F_5_3, F_5_4, F_5_5, F_5_6, F_5_7, F_5_8, sh_12, F_12_0, F_12_1, F_12_2, F_12_3, F_12_4, F_12_5, sh_14, F_14_0, F_14_1, F_14_2, F_14_3, F_14_4, F_14_5, F_14_6, F_14_7, F_14_8, sh_21, F_21_0, F_21_1, F_21_2, F_21_3, F_21_4, F_21_5, F_21_6, F_21_7, F_21_8, sh_28, F_28_0, F_28_1, F_28_2, F_28_3, F_28_4, F_28_5, F_28_6, F_28_7, F_28_8, sh_35, F_35_0, sh_39, F_39_0, F_39_1, F_39_2, F_39_3, F_39_4, F_39_5, F_39_6, F_39_7, F_39_8, F_39_9, F_39_10, F_39_11, F_39_12, F_39_13, A_2, A_4, A_6, A_7, A_8, A_9, A_10, A_11, A_13, A_15, A_16, A_17, A_18, A_19, A_20, A_22, A_23, A_24, A_25, A_26, A_27, A_29, A_30, A_31, A_32, A_33, A_34, A_36, A_37, A_38, A_40, A_41, A_42, A_43, A_44, A_45, A_46, A_47]
    refine cut _ _ ⟨rfl, rfl, rfl, 0, by omega, rfl, rfl⟩ (by omega) ⟨rfl, rfl, vi_eq ?_, rfl, trivial⟩
    have : mk (hh (M.2.2 3) g 0) n = 0 := Nat.eq_of_testBit_eq fun k => by rw [mk_bit]; simp [hh]
    rw [this]; rfl
set_option maxRecDepth 100000 in
theorem v_X0_copyOf : ∀ as M post, S_X0_copyOf as M post → wsum as ≤ 3 ∧ RUN (T_X0_copyOf post) 0 (entL 3 as) [] M := by
  rintro as M post ⟨rfl, h⟩
  refine ⟨by show 2 ≤ 3; omega, run_of [13] (fun μ pc lv st M' => pc = 13 ∧ st = [] ∧ ∃ i, i ≤ 6 ∧ M' = sA 1 (cpy (M.2.2 1) (M.2.2 8) i) (cpR 4 9 11 16 M) ∧ 10 - i = μ ∧ lv = [some (VR 3), some (VR 12), some (VI (nI i))]) 60 20 ?_ ?_⟩
  · rintro μ pc lv st M' ⟨rfl, rfl, i, hi, rfl, rfl, rfl⟩
    dsimp only [k_X0_copyOf_0, k_X0_copyOf_1, k_X0_copyOf_4, k_X0_copyOf_5, k_X0_copyOf_8, k_X0_copyOf_11, k_X0_copyOf_12, k_X0_copyOf_13, k_X0_copyOf_14, k_X0_copyOf_16, k_X0_copyOf_19, k_X0_copyOf_20, k_X0_copyOf_23, k_X0_copyOf_24, k_X0_copyOf_25, k_X0_copyOf_28, k_X0_copyOf_29, k_X0_copyOf_30, k_X0_copyOf_31, k_X0_copyOf_34, k_X0_copyOf_37, k_X0_copyOf_38, k_X0_copyOf_39, k_X0_copyOf_42, k_X0_copyOf_45, k_X0_copyOf_46, k_X0_copyOf_47, k_X0_copyOf_50, k_X0_copyOf_53, wp1, wp_s, cutIn, kont, Nat.reduceSub, Nat.reduceAdd, nth, o_const, o_lconst, o_ref, o_iload, o_lload, o_aload, o_istore, o_lstore, o_astore, o_iinc, o_bin, o_div, o_un, o_lbin, o_lsh, o_lcmp, o_i2l, o_l2i, o_if, o_icmp, o_goto, o_dup, o_dup2, o_pop, fav, o_getf, o_putI, o_putZ, o_putL, o_ald, o_ast, o_alen, popn, rst, o_callV, o_callT, o_callS, swx, o_sw, o_ret, o_iret, o_zret, o_cret, o_lret, o_aret, lg, lput, lput2, ls1, isL, entL, wsum, rdI1, rdI2, rdA1, rdA21, rdA22, rdL1, rdL22, rdL21, upN_at, rep, sh_0, F_0_0, F_0_1, F_0_2, F_0_3, F_0_4, F_0_5, F_0_6, F_0_7, F_0_8, sh_1, F_1_0, F_1_1, F_1_2, F_1_3, F_1_4, F_1_5, sh_3, F_3_0, F_3_1, F_3_2, F_3_3, F_3_4, F_3_5, sh_5, F_5_0, F_5_1, F_5_2, F_5_3, F_5_4, F_5_5, F_5_6, F_5_7, F_5_8, sh_12, F_12_0, F_12_1, F_12_2, F_12_3, F_12_4, F_12_5, sh_14, F_14_0, F_14_1, F_14_2, F_14_3, F_14_4, F_14_5, F_14_6, F_14_7, F_14_8, sh_21, F_21_0, F_21_1, F_21_2, F_21_3, F_21_4, F_21_5, F_21_6, F_21_7, F_21_8, sh_28, F_28_0, F_28_1, F_28_2, F_28_3, F_28_4, F_28_5, F_28_6, F_28_7, F_28_8, sh_35, F_35_0, sh_39, F_39_0, F_39_1, F_39_2, F_39_3, F_39_4, F_39_5, F_39_6, F_39_7, F_39_8, F_39_9, F_39_10, F_39_11, F_39_12, F_39_13, A_2, A_4, A_6, A_7, A_8, A_9, A_10, A_11, A_13, A_15, A_16, A_17, A_18, A_19, A_20, A_22, A_23, A_24, A_25, A_26, A_27, A_29, A_30, A_31, A_32, A_33, A_34, A_36, A_37, A_38, A_40, A_41, A_42, A_43, A_44, A_45, A_46, A_47, cpR, o4]
    rw [show (6 : Int32) = nI 6 from rfl]
    simp (disch := omega) only [nI_leI, nI_ltI, nI_eq, nI_1, nI_add, one_shl, nI_or, nI_xor, nI_and, bit_0, bit_1, true_or, or_true, true_and, and_true, eq_self, not_true_eq_false, not_false_eq_true, forall_const]
    refine ⟨fun z => ?_, fun z => ⟨i, by omega, rfl, i, by omega, rfl, cut _ _ ⟨rfl, rfl, i + 1, by omega, ?_, rfl, rfl⟩ (by omega) ⟨rfl, rfl, rfl, trivial⟩⟩⟩
    · rw [show i = 6 by omega]
      exact h
    · rw [cpy_s, sA_sA]
  · dsimp only [k_X0_copyOf_0, k_X0_copyOf_1, k_X0_copyOf_4, k_X0_copyOf_5, k_X0_copyOf_8, k_X0_copyOf_11, k_X0_copyOf_12, k_X0_copyOf_13, k_X0_copyOf_14, k_X0_copyOf_16, k_X0_copyOf_19, k_X0_copyOf_20, k_X0_copyOf_23, k_X0_copyOf_24, k_X0_copyOf_25, k_X0_copyOf_28, k_X0_copyOf_29, k_X0_copyOf_30, k_X0_copyOf_31, k_X0_copyOf_34, k_X0_copyOf_37, k_X0_copyOf_38, k_X0_copyOf_39, k_X0_copyOf_42, k_X0_copyOf_45, k_X0_copyOf_46, k_X0_copyOf_47, k_X0_copyOf_50, k_X0_copyOf_53, wp1, wp_s, cutIn, kont, Nat.reduceSub, Nat.reduceAdd, nth, o_const, o_lconst, o_ref, o_iload, o_lload, o_aload, o_istore, o_lstore, o_astore, o_iinc, o_bin, o_div, o_un, o_lbin, o_lsh, o_lcmp, o_i2l, o_l2i, o_if, o_icmp, o_goto, o_dup, o_dup2, o_pop, fav, o_getf, o_putI, o_putZ, o_putL, o_ald, o_ast, o_alen, popn, rst, o_callV, o_callT, o_callS, swx, o_sw, o_ret, o_iret, o_zret, o_cret, o_lret, o_aret, lg, lput, lput2, ls1, isL, entL, wsum, rdI1, rdI2, rdA1, rdA21, rdA22, rdL1, rdL22, rdL21, upN_at, rep, sh_0, F_0_0, F_0_1, F_0_2, F_0_3, F_0_4, F_0_5, F_0_6, F_0_7, F_0_8, sh_1, F_1_0, F_1_1, F_1_2, F_1_3, F_1_4, F_1_5, sh_3, F_3_0, F_3_1, F_3_2, F_3_3, F_3_4, F_3_5, sh_5, F_5_0, F_5_1, F_5_2, F_5_3, F_5_4, F_5_5, F_5_6, F_5_7, F_5_8, sh_12, F_12_0, F_12_1, F_12_2, F_12_3, F_12_4, F_12_5, sh_14, F_14_0, F_14_1, F_14_2, F_14_3, F_14_4, F_14_5, F_14_6, F_14_7, F_14_8, sh_21, F_21_0, F_21_1, F_21_2, F_21_3, F_21_4, F_21_5, F_21_6, F_21_7, F_21_8, sh_28, F_28_0, F_28_1, F_28_2, F_28_3, F_28_4, F_28_5, F_28_6, F_28_7, F_28_8, sh_35, F_35_0, sh_39, F_39_0, F_39_1, F_39_2, F_39_3, F_39_4, F_39_5, F_39_6, F_39_7, F_39_8, F_39_9, F_39_10, F_39_11, F_39_12, F_39_13, A_2, A_4, A_6, A_7, A_8, A_9, A_10, A_11, A_13, A_15, A_16, A_17, A_18, A_19, A_20, A_22, A_23, A_24, A_25, A_26, A_27, A_29, A_30, A_31, A_32, A_33, A_34, A_36, A_37, A_38, A_40, A_41, A_42, A_43, A_44, A_45, A_46, A_47]
    refine ⟨5, 14, 4, 11, 9, 16, rfl, Or.inl ⟨rfl, rfl, rfl, rfl, rfl, rfl⟩, ?_⟩
    dsimp only [k_X0_copyOf_0, k_X0_copyOf_1, k_X0_copyOf_4, k_X0_copyOf_5, k_X0_copyOf_8, k_X0_copyOf_11, k_X0_copyOf_12, k_X0_copyOf_13, k_X0_copyOf_14, k_X0_copyOf_16, k_X0_copyOf_19, k_X0_copyOf_20, k_X0_copyOf_23, k_X0_copyOf_24, k_X0_copyOf_25, k_X0_copyOf_28, k_X0_copyOf_29, k_X0_copyOf_30, k_X0_copyOf_31, k_X0_copyOf_34, k_X0_copyOf_37, k_X0_copyOf_38, k_X0_copyOf_39, k_X0_copyOf_42, k_X0_copyOf_45, k_X0_copyOf_46, k_X0_copyOf_47, k_X0_copyOf_50, k_X0_copyOf_53, wp1, wp_s, cutIn, kont, Nat.reduceSub, Nat.reduceAdd, nth, o_const, o_lconst, o_ref, o_iload, o_lload, o_aload, o_istore, o_lstore, o_astore, o_iinc, o_bin, o_div, o_un, o_lbin, o_lsh, o_lcmp, o_i2l, o_l2i, o_if, o_icmp, o_goto, o_dup, o_dup2, o_pop, fav, o_getf, o_putI, o_putZ, o_putL, o_ald, o_ast, o_alen, popn, rst, o_callV, o_callT, o_callS, swx, o_sw, o_ret, o_iret, o_zret, o_cret, o_lret, o_aret, lg, lput, lput2, ls1, isL, entL, wsum, rdI1, rdI2, rdA1, rdA21, rdA22, rdL1, rdL22, rdL21, upN_at, rep, sh_0, F_0_0, F_0_1, F_0_2, F_0_3, F_0_4, F_0_5, F_0_6, F_0_7, F_0_8, sh_1, F_1_0, F_1_1, F_1_2, F_1_3, F_1_4, F_1_5, sh_3, F_3_0, F_3_1, F_3_2, F_3_3, F_3_4, F_3_5, sh_5, F_5_0, F_5_1, F_5_2, F_5_3, F_5_4, F_5_5, F_5_6, F_5_7, F_5_8, sh_12, F_12_0, F_12_1, F_12_2, F_12_3, F_12_4, F_12_5, sh_14, F_14_0, F_14_1, F_14_2, F_14_3, F_14_4, F_14_5, F_14_6, F_14_7, F_14_8, sh_21, F_21_0, F_21_1, F_21_2, F_21_3, F_21_4, F_21_5, F_21_6, F_21_7, F_21_8, sh_28, F_28_0, F_28_1, F_28_2, F_28_3, F_28_4, F_28_5, F_28_6, F_28_7, F_28_8, sh_35, F_35_0, sh_39, F_39_0, F_39_1, F_39_2, F_39_3, F_39_4, F_39_5, F_39_6, F_39_7, F_39_8, F_39_9, F_39_10, F_39_11, F_39_12, F_39_13, A_2, A_4, A_6, A_7, A_8, A_9, A_10, A_11, A_13, A_15, A_16, A_17, A_18, A_19, A_20, A_22, A_23, A_24, A_25, A_26, A_27, A_29, A_30, A_31, A_32, A_33, A_34, A_36, A_37, A_38, A_40, A_41, A_42, A_43, A_44, A_45, A_46, A_47]
    refine cut _ _ ⟨rfl, rfl, 0, by omega, ?_, rfl, rfl⟩ (by omega) ⟨rfl, rfl, rfl, trivial⟩
    rw [cpy_0]
    exact (sA_id rfl).symm
theorem c_X0_hasLock : Ctr yX0_hasLock cX0_hasLock 2 (some .boolean) ({ frames := 0, cells := 0, slots := 0, locals := 0 } : Room) S_X0_hasLock := ctr_of (T := T_X0_hasLock) (by decide +kernel) (fun post C hr => t_X0_hasLock post C hr) v_X0_hasLock
theorem c_X0_hasPerson : Ctr yX0_hasPerson cX0_hasPerson 2 (some .boolean) ({ frames := 0, cells := 0, slots := 0, locals := 0 } : Room) S_X0_hasPerson := ctr_of (T := T_X0_hasPerson) (by decide +kernel) (fun post C hr => t_X0_hasPerson post C hr) v_X0_hasPerson
theorem c_X0_everybody : Ctr yX0_everybody cX0_everybody 1 (some .int) ({ frames := 0, cells := 0, slots := 0, locals := 0 } : Room) S_X0_everybody := ctr_of (T := T_X0_everybody) (by decide +kernel) (fun post C hr => t_X0_everybody post C hr) v_X0_everybody
theorem c_X0_allLocks : Ctr yX0_allLocks cX0_allLocks 1 (some .int) ({ frames := 0, cells := 0, slots := 0, locals := 0 } : Room) S_X0_allLocks := ctr_of (T := T_X0_allLocks) (by decide +kernel) (fun post C hr => t_X0_allLocks post C hr) v_X0_allLocks
theorem c_X0_heldBy : Ctr yX0_heldBy cX0_heldBy 4 (some .int) ({ frames := 1, cells := 0, slots := 0, locals := 23 } : Room) S_X0_heldBy := ctr_of (T := T_X0_heldBy) (by decide +kernel) (fun post C hr => t_X0_heldBy post C hr) v_X0_heldBy
theorem c_X0_copyOf : Ctr yX0_copyOf cX0_copyOf 3 none ({ frames := 2, cells := 0, slots := 0, locals := 45 } : Room) S_X0_copyOf := ctr_of (T := T_X0_copyOf) (by decide +kernel) (fun post C hr => t_X0_copyOf post C hr) v_X0_copyOf
def S_X0_hearPerson : SP := fun as M post => ∃ p, as = [VR 12] ∧ M.1 13 = nI p ∧ p ≤ 4 ∧ (p = 4 → post (some (VI 0)) M) ∧ (p < 4 → post (some (VI 1)) (sI 13 (nI (p + 1)) M))
def S_X0_hearItem : SP := fun as M post => ∃ k p n c, as = [VR 12, VI k] ∧ M.1 13 = nI p ∧ p ≤ 4 ∧ M.1 16 = nI n ∧ n ≤ 8 ∧ M.1 12 = nI c ∧ c ≤ 6 ∧ (k = 5 → pz (n < 8) post (sI 14 2 M)) ∧ (k = 6 → pz (c < 6) post (sI 14 3 M)) ∧ (k = 7 → p = 4 → post (some (VI 0)) (sI 14 1 M)) ∧ (k = 7 → p < 4 → post (some (VI 1)) (sI 13 (nI (p + 1)) (sI 14 1 M))) ∧ (k = 8 → post (some (VI 1)) (sI 14 4 M)) ∧ (¬ k = 5 → ¬ k = 6 → ¬ k = 7 → ¬ k = 8 → post (some (VI 0)) M)
def S_X0_hearKeyRow : SP := fun as M post => ∃ v n, as = [VR 12, VI v] ∧ M.1 16 = nI n ∧ n ≤ 8 ∧ (n = 8 → post (some (VI 0)) (sI 14 1 M)) ∧ (n < 8 → post (some (VI 1)) (sI 16 (nI (n + 1)) (sA 10 (upd (M.2.2 10) n (-4)) (sA 9 (upd (M.2.2 9) n v) (sI 14 1 M)))))
def S_X0_hearLockRow : SP := fun as M post => ∃ v c, as = [VR 12, VI v] ∧ M.1 12 = nI c ∧ c ≤ 6 ∧ (c = 6 → post (some (VI 0)) (sI 14 1 M)) ∧ (c < 6 → post (some (VI 1)) (sI 12 (nI (c + 1)) (sA 8 (upd (M.2.2 8) c v) (sI 14 1 M))))
def S_X0_hearHolder : SP := fun as M post => ∃ v, as = [VR 12, VI v] ∧ pz (0 ≤ v ∧ v < M.1 13) post (sI 15 v (sI 14 5 M))
def S_X0_hearHeld : SP := fun as M post => ∃ k n, as = [VR 12, VI (nI k)] ∧ k < 1000 ∧ M.1 16 = nI n ∧ n ≤ 8 ∧ (k < n → M.2.2 10 k = -4 → post (some (VI 1)) (sA 10 (upd (M.2.2 10) k (M.1 15)) (sI 14 1 M))) ∧ (¬ (k < n ∧ M.2.2 10 k = -4) → post (some (VI 0)) (sI 14 1 M))
theorem dX0_hearPerson_0 : decode cX0_hearPerson 0 = .ok (.aload_n 0, 1) := by decide +kernel
theorem dX0_hearPerson_1 : decode cX0_hearPerson 1 = .ok (.getfield 26, 3) := by decide +kernel
theorem dX0_hearPerson_4 : decode cX0_hearPerson 4 = .ok (.iconst 4, 1) := by decide +kernel
theorem dX0_hearPerson_5 : decode cX0_hearPerson 5 = .ok (.if_icmp .lt 5, 3) := by decide +kernel
theorem dX0_hearPerson_8 : decode cX0_hearPerson 8 = .ok (.iconst 0, 1) := by decide +kernel
theorem dX0_hearPerson_9 : decode cX0_hearPerson 9 = .ok (.ireturn, 1) := by decide +kernel
theorem dX0_hearPerson_10 : decode cX0_hearPerson 10 = .ok (.aload_n 0, 1) := by decide +kernel
theorem dX0_hearPerson_11 : decode cX0_hearPerson 11 = .ok (.dup, 1) := by decide +kernel
theorem dX0_hearPerson_12 : decode cX0_hearPerson 12 = .ok (.getfield 26, 3) := by decide +kernel
theorem dX0_hearPerson_15 : decode cX0_hearPerson 15 = .ok (.iconst 1, 1) := by decide +kernel
theorem dX0_hearPerson_16 : decode cX0_hearPerson 16 = .ok (.iadd, 1) := by decide +kernel
theorem dX0_hearPerson_17 : decode cX0_hearPerson 17 = .ok (.putfield 26, 3) := by decide +kernel
theorem dX0_hearPerson_20 : decode cX0_hearPerson 20 = .ok (.iconst 1, 1) := by decide +kernel
theorem dX0_hearPerson_21 : decode cX0_hearPerson 21 = .ok (.ireturn, 1) := by decide +kernel
def T_X0_hearPerson (post : PO) : List (Nat × OP) := [(0, o_aload 0 1), (1, o_getf 0 3 4), (4, o_const 4 5), (5, o_icmp (fun x y => x < y) 10 8), (8, o_const 0 9), (9, o_zret post), (10, o_aload 0 11), (11, o_dup 12), (12, o_getf 0 3 15), (15, o_const 1 16), (16, o_bin (fun x y => x + y) 17), (17, o_putI 0 3 20), (20, o_const 1 21), (21, o_zret post)]
theorem k_X0_hearPerson_0 (post : PO) : lk (T_X0_hearPerson post) 0 = o_aload 0 1 := rfl
theorem k_X0_hearPerson_1 (post : PO) : lk (T_X0_hearPerson post) 1 = o_getf 0 3 4 := rfl
theorem k_X0_hearPerson_4 (post : PO) : lk (T_X0_hearPerson post) 4 = o_const 4 5 := rfl
theorem k_X0_hearPerson_5 (post : PO) : lk (T_X0_hearPerson post) 5 = o_icmp (fun x y => x < y) 10 8 := rfl
theorem k_X0_hearPerson_8 (post : PO) : lk (T_X0_hearPerson post) 8 = o_const 0 9 := rfl
theorem k_X0_hearPerson_9 (post : PO) : lk (T_X0_hearPerson post) 9 = o_zret post := rfl
theorem k_X0_hearPerson_10 (post : PO) : lk (T_X0_hearPerson post) 10 = o_aload 0 11 := rfl
theorem k_X0_hearPerson_11 (post : PO) : lk (T_X0_hearPerson post) 11 = o_dup 12 := rfl
theorem k_X0_hearPerson_12 (post : PO) : lk (T_X0_hearPerson post) 12 = o_getf 0 3 15 := rfl
theorem k_X0_hearPerson_15 (post : PO) : lk (T_X0_hearPerson post) 15 = o_const 1 16 := rfl
theorem k_X0_hearPerson_16 (post : PO) : lk (T_X0_hearPerson post) 16 = o_bin (fun x y => x + y) 17 := rfl
theorem k_X0_hearPerson_17 (post : PO) : lk (T_X0_hearPerson post) 17 = o_putI 0 3 20 := rfl
theorem k_X0_hearPerson_20 (post : PO) : lk (T_X0_hearPerson post) 20 = o_const 1 21 := rfl
theorem k_X0_hearPerson_21 (post : PO) : lk (T_X0_hearPerson post) 21 = o_zret post := rfl
set_option maxRecDepth 100000 in
theorem t_X0_hearPerson {p : Program} {l : Launch} {e : Env} {s : State} {m : MethodId} {args : Array Value} {below : List Frame} {meth : Method} {c : Code} {D : va_G} {dA : Nat → ClassId} {ad : Nat → Nat} (post : PO) (C : CX p s m args meth c cX0_hearPerson 1 yX0_hearPerson.cls D dA ad (AA ad s.heap.size)) (hr : meth.sig.returnType = (some .boolean)) : SndL (WW p l e ({ frames := 0, cells := 0, slots := 0, locals := 0 } : Room) s m args below meth c 0 0 (MQ below (CQ D dA ad post (AA ad s.heap.size)) args s 0 0 (AA ad s.heap.size)) 1 D dA ad (AA ad s.heap.size)) (T_X0_hearPerson post) := by
  refine snd_c (s_aload_n C rfl dX0_hearPerson_0) ?_
  refine snd_c (s_getf C (ci := 0) (j := 3) (T := TX0) rfl inX0 (by decide) fl_RX0_26 dX0_hearPerson_1) ?_
  refine snd_c (s_iconst C dX0_hearPerson_4 rfl) ?_
  refine snd_c (s_icmp_lt C dX0_hearPerson_5 (by decide)) ?_
  refine snd_c (s_iconst C dX0_hearPerson_8 rfl) ?_
  refine snd_c (s_zret C hr ⟨rfl, rfl⟩ dX0_hearPerson_9) ?_
  refine snd_c (s_aload_n C rfl dX0_hearPerson_10) ?_
  refine snd_c (s_dup C dX0_hearPerson_11) ?_
  refine snd_c (s_getf C (ci := 0) (j := 3) (T := TX0) rfl inX0 (by decide) fl_RX0_26 dX0_hearPerson_12) ?_
  refine snd_c (s_iconst C dX0_hearPerson_15 rfl) ?_
  refine snd_c (s_iadd C dX0_hearPerson_16) ?_
  refine snd_c (s_putI C (ci := 0) (j := 3) (T := TX0) tyX0 tyX0_ok nmX0 rfl inX0 (by decide) rfl rfl fl_RX0_26 dX0_hearPerson_17) ?_
  refine snd_c (s_iconst C dX0_hearPerson_20 rfl) ?_
  refine snd_c (s_zret C hr ⟨rfl, rfl⟩ dX0_hearPerson_21) ?_
  exact trivial
set_option maxRecDepth 100000 in
theorem v_X0_hearPerson : ∀ as M post, S_X0_hearPerson as M post → wsum as ≤ 1 ∧ RUN (T_X0_hearPerson post) 0 (entL 1 as) [] M := by
  rintro as M post ⟨p, rfl, hp, hp4, ha, hb⟩
  refine ⟨Nat.le_refl 1, run_wp 40 ?_⟩
  dsimp only [k_X0_hearPerson_0, k_X0_hearPerson_1, k_X0_hearPerson_4, k_X0_hearPerson_5, k_X0_hearPerson_8, k_X0_hearPerson_9, k_X0_hearPerson_10, k_X0_hearPerson_11, k_X0_hearPerson_12, k_X0_hearPerson_15, k_X0_hearPerson_16, k_X0_hearPerson_17, k_X0_hearPerson_20, k_X0_hearPerson_21, wp1, wp_s, cutIn, kont, Nat.reduceSub, Nat.reduceAdd, nth, o_const, o_lconst, o_ref, o_iload, o_lload, o_aload, o_istore, o_lstore, o_astore, o_iinc, o_bin, o_div, o_un, o_lbin, o_lsh, o_lcmp, o_i2l, o_l2i, o_if, o_icmp, o_goto, o_dup, o_dup2, o_pop, fav, o_getf, o_putI, o_putZ, o_putL, o_ald, o_ast, o_alen, popn, rst, o_callV, o_callT, o_callS, swx, o_sw, o_ret, o_iret, o_zret, o_cret, o_lret, o_aret, lg, lput, lput2, ls1, isL, entL, wsum, rdI1, rdI2, rdA1, rdA21, rdA22, rdL1, rdL22, rdL21, upN_at, rep, sh_0, F_0_0, F_0_1, F_0_2, F_0_3, F_0_4, F_0_5, F_0_6, F_0_7, F_0_8, sh_1, F_1_0, F_1_1, F_1_2, F_1_3, F_1_4, F_1_5, sh_3, F_3_0, F_3_1, F_3_2, F_3_3, F_3_4, F_3_5, sh_5, F_5_0, F_5_1, F_5_2, F_5_3, F_5_4, F_5_5, F_5_6, F_5_7, F_5_8, sh_12, F_12_0, F_12_1, F_12_2, F_12_3, F_12_4, F_12_5, sh_14, F_14_0, F_14_1, F_14_2, F_14_3, F_14_4, F_14_5, F_14_6, F_14_7, F_14_8, sh_21, F_21_0, F_21_1, F_21_2, F_21_3, F_21_4, F_21_5, F_21_6, F_21_7, F_21_8, sh_28, F_28_0, F_28_1, F_28_2, F_28_3, F_28_4, F_28_5, F_28_6, F_28_7, F_28_8, sh_35, F_35_0, sh_39, F_39_0, F_39_1, F_39_2, F_39_3, F_39_4, F_39_5, F_39_6, F_39_7, F_39_8, F_39_9, F_39_10, F_39_11, F_39_12, F_39_13, A_2, A_4, A_6, A_7, A_8, A_9, A_10, A_11, A_13, A_15, A_16, A_17, A_18, A_19, A_20, A_22, A_23, A_24, A_25, A_26, A_27, A_29, A_30, A_31, A_32, A_33, A_34, A_36, A_37, A_38, A_40, A_41, A_42, A_43, A_44, A_45, A_46, A_47]
  rw [hp, show (4 : Int32) = nI 4 from rfl]
  simp (disch := omega) only [nI_leI, nI_ltI, nI_eq, nI_1, nI_add, one_shl, nI_or, nI_xor, nI_and, bit_0, bit_1, true_or, or_true, true_and, and_true, eq_self, not_true_eq_false, not_false_eq_true, forall_const]
  exact ⟨fun z => hb z, fun z => ha (by omega)⟩
theorem c_X0_hearPerson : Ctr yX0_hearPerson cX0_hearPerson 1 (some .boolean) ({ frames := 0, cells := 0, slots := 0, locals := 0 } : Room) S_X0_hearPerson := ctr_of (T := T_X0_hearPerson) (by decide +kernel) (fun post C hr => t_X0_hearPerson post C hr) v_X0_hearPerson
theorem fl_RX0_40 : Cond.fieldLink RX0 40 (TX0 4).1 (TX0 4).2.1 (TX0 4).2.2.1 ∈ tb := tb_of 158 (by decide +kernel) (by decide +kernel)
theorem fl_RX0_80 : Cond.fieldLink RX0 80 (TX1 2).1 (TX1 2).2.1 (TX1 2).2.2.1 ∈ tb := tb_of 122 (by decide +kernel) (by decide +kernel)
theorem cw_RX0_83 : ∀ w ∈ ([.methodLink RX0 83 yX0_hearPerson, .instanceMethod yX0_hearPerson, .selects yX0_hearPerson.cls yX0_hearPerson yX0_hearPerson, .initialized yX0_hearPerson.cls, .code yX0_hearPerson cX0_hearPerson 1 (some .boolean)] : List Cond), w ∈ tb := tb_all [332, 334, 7, 56, 335] (by decide +kernel) (by decide +kernel)
theorem dX0_hearItem_0 : decode cX0_hearItem 0 = .ok (.iload_n 1, 1) := by decide +kernel
theorem dX0_hearItem_1 : decode cX0_hearItem 1 = .ok (.tableswitch 91 5 8 #[31, 54, 74, 84], 31) := by decide +kernel
theorem dX0_hearItem_32 : decode cX0_hearItem 32 = .ok (.aload_n 0, 1) := by decide +kernel
theorem dX0_hearItem_33 : decode cX0_hearItem 33 = .ok (.iconst 2, 1) := by decide +kernel
theorem dX0_hearItem_34 : decode cX0_hearItem 34 = .ok (.putfield 40, 3) := by decide +kernel
theorem dX0_hearItem_37 : decode cX0_hearItem 37 = .ok (.aload_n 0, 1) := by decide +kernel
theorem dX0_hearItem_38 : decode cX0_hearItem 38 = .ok (.getfield 12, 3) := by decide +kernel
theorem dX0_hearItem_41 : decode cX0_hearItem 41 = .ok (.getfield 80, 3) := by decide +kernel
theorem dX0_hearItem_44 : decode cX0_hearItem 44 = .ok (.bipush 8, 2) := by decide +kernel
theorem dX0_hearItem_46 : decode cX0_hearItem 46 = .ok (.if_icmp .ge 7, 3) := by decide +kernel
theorem dX0_hearItem_49 : decode cX0_hearItem 49 = .ok (.iconst 1, 1) := by decide +kernel
theorem dX0_hearItem_50 : decode cX0_hearItem 50 = .ok (.goto 4, 3) := by decide +kernel
theorem dX0_hearItem_53 : decode cX0_hearItem 53 = .ok (.iconst 0, 1) := by decide +kernel
theorem dX0_hearItem_54 : decode cX0_hearItem 54 = .ok (.ireturn, 1) := by decide +kernel
theorem dX0_hearItem_55 : decode cX0_hearItem 55 = .ok (.aload_n 0, 1) := by decide +kernel
theorem dX0_hearItem_56 : decode cX0_hearItem 56 = .ok (.iconst 3, 1) := by decide +kernel
theorem dX0_hearItem_57 : decode cX0_hearItem 57 = .ok (.putfield 40, 3) := by decide +kernel
theorem dX0_hearItem_60 : decode cX0_hearItem 60 = .ok (.aload_n 0, 1) := by decide +kernel
theorem dX0_hearItem_61 : decode cX0_hearItem 61 = .ok (.getfield 22, 3) := by decide +kernel
theorem dX0_hearItem_64 : decode cX0_hearItem 64 = .ok (.bipush 6, 2) := by decide +kernel
theorem dX0_hearItem_66 : decode cX0_hearItem 66 = .ok (.if_icmp .ge 7, 3) := by decide +kernel
theorem dX0_hearItem_69 : decode cX0_hearItem 69 = .ok (.iconst 1, 1) := by decide +kernel
theorem dX0_hearItem_70 : decode cX0_hearItem 70 = .ok (.goto 4, 3) := by decide +kernel
theorem dX0_hearItem_73 : decode cX0_hearItem 73 = .ok (.iconst 0, 1) := by decide +kernel
theorem dX0_hearItem_74 : decode cX0_hearItem 74 = .ok (.ireturn, 1) := by decide +kernel
theorem dX0_hearItem_75 : decode cX0_hearItem 75 = .ok (.aload_n 0, 1) := by decide +kernel
theorem dX0_hearItem_76 : decode cX0_hearItem 76 = .ok (.iconst 1, 1) := by decide +kernel
theorem dX0_hearItem_77 : decode cX0_hearItem 77 = .ok (.putfield 40, 3) := by decide +kernel
theorem dX0_hearItem_80 : decode cX0_hearItem 80 = .ok (.aload_n 0, 1) := by decide +kernel
theorem dX0_hearItem_81 : decode cX0_hearItem 81 = .ok (.invokevirtual 83, 3) := by decide +kernel
theorem dX0_hearItem_84 : decode cX0_hearItem 84 = .ok (.ireturn, 1) := by decide +kernel
theorem dX0_hearItem_85 : decode cX0_hearItem 85 = .ok (.aload_n 0, 1) := by decide +kernel
theorem dX0_hearItem_86 : decode cX0_hearItem 86 = .ok (.iconst 4, 1) := by decide +kernel
theorem dX0_hearItem_87 : decode cX0_hearItem 87 = .ok (.putfield 40, 3) := by decide +kernel
theorem dX0_hearItem_90 : decode cX0_hearItem 90 = .ok (.iconst 1, 1) := by decide +kernel
theorem dX0_hearItem_91 : decode cX0_hearItem 91 = .ok (.ireturn, 1) := by decide +kernel
theorem dX0_hearItem_92 : decode cX0_hearItem 92 = .ok (.iconst 0, 1) := by decide +kernel
theorem dX0_hearItem_93 : decode cX0_hearItem 93 = .ok (.ireturn, 1) := by decide +kernel
def T_X0_hearItem (post : PO) : List (Nat × OP) := [(0, o_iload 1 1), (1, o_sw [(5, 32), (6, 55), (7, 75), (8, 85)] 92), (32, o_aload 0 33), (33, o_const 2 34), (34, o_putI 0 4 37), (37, o_aload 0 38), (38, o_getf 0 0 41), (41, o_getf 1 2 44), (44, o_const 8 46), (46, o_icmp (fun x y => y ≤ x) 53 49), (49, o_const 1 50), (50, o_goto 54), (53, o_const 0 54), (54, o_zret post), (55, o_aload 0 56), (56, o_const 3 57), (57, o_putI 0 4 60), (60, o_aload 0 61), (61, o_getf 0 2 64), (64, o_const 6 66), (66, o_icmp (fun x y => y ≤ x) 73 69), (69, o_const 1 70), (70, o_goto 74), (73, o_const 0 74), (74, o_zret post), (75, o_aload 0 76), (76, o_const 1 77), (77, o_putI 0 4 80), (80, o_aload 0 81), (81, o_callV 0 S_X0_hearPerson 0 84), (84, o_zret post), (85, o_aload 0 86), (86, o_const 4 87), (87, o_putI 0 4 90), (90, o_const 1 91), (91, o_zret post), (92, o_const 0 93), (93, o_zret post)]
theorem k_X0_hearItem_0 (post : PO) : lk (T_X0_hearItem post) 0 = o_iload 1 1 := rfl
theorem k_X0_hearItem_1 (post : PO) : lk (T_X0_hearItem post) 1 = o_sw [(5, 32), (6, 55), (7, 75), (8, 85)] 92 := rfl
theorem k_X0_hearItem_32 (post : PO) : lk (T_X0_hearItem post) 32 = o_aload 0 33 := rfl
theorem k_X0_hearItem_33 (post : PO) : lk (T_X0_hearItem post) 33 = o_const 2 34 := rfl
theorem k_X0_hearItem_34 (post : PO) : lk (T_X0_hearItem post) 34 = o_putI 0 4 37 := rfl
theorem k_X0_hearItem_37 (post : PO) : lk (T_X0_hearItem post) 37 = o_aload 0 38 := rfl
theorem k_X0_hearItem_38 (post : PO) : lk (T_X0_hearItem post) 38 = o_getf 0 0 41 := rfl
theorem k_X0_hearItem_41 (post : PO) : lk (T_X0_hearItem post) 41 = o_getf 1 2 44 := rfl
theorem k_X0_hearItem_44 (post : PO) : lk (T_X0_hearItem post) 44 = o_const 8 46 := rfl
theorem k_X0_hearItem_46 (post : PO) : lk (T_X0_hearItem post) 46 = o_icmp (fun x y => y ≤ x) 53 49 := rfl
theorem k_X0_hearItem_49 (post : PO) : lk (T_X0_hearItem post) 49 = o_const 1 50 := rfl
theorem k_X0_hearItem_50 (post : PO) : lk (T_X0_hearItem post) 50 = o_goto 54 := rfl
theorem k_X0_hearItem_53 (post : PO) : lk (T_X0_hearItem post) 53 = o_const 0 54 := rfl
theorem k_X0_hearItem_54 (post : PO) : lk (T_X0_hearItem post) 54 = o_zret post := rfl
theorem k_X0_hearItem_55 (post : PO) : lk (T_X0_hearItem post) 55 = o_aload 0 56 := rfl
theorem k_X0_hearItem_56 (post : PO) : lk (T_X0_hearItem post) 56 = o_const 3 57 := rfl
theorem k_X0_hearItem_57 (post : PO) : lk (T_X0_hearItem post) 57 = o_putI 0 4 60 := rfl
theorem k_X0_hearItem_60 (post : PO) : lk (T_X0_hearItem post) 60 = o_aload 0 61 := rfl
theorem k_X0_hearItem_61 (post : PO) : lk (T_X0_hearItem post) 61 = o_getf 0 2 64 := rfl
theorem k_X0_hearItem_64 (post : PO) : lk (T_X0_hearItem post) 64 = o_const 6 66 := rfl
theorem k_X0_hearItem_66 (post : PO) : lk (T_X0_hearItem post) 66 = o_icmp (fun x y => y ≤ x) 73 69 := rfl
theorem k_X0_hearItem_69 (post : PO) : lk (T_X0_hearItem post) 69 = o_const 1 70 := rfl
theorem k_X0_hearItem_70 (post : PO) : lk (T_X0_hearItem post) 70 = o_goto 74 := rfl
theorem k_X0_hearItem_73 (post : PO) : lk (T_X0_hearItem post) 73 = o_const 0 74 := rfl
theorem k_X0_hearItem_74 (post : PO) : lk (T_X0_hearItem post) 74 = o_zret post := rfl
theorem k_X0_hearItem_75 (post : PO) : lk (T_X0_hearItem post) 75 = o_aload 0 76 := rfl
theorem k_X0_hearItem_76 (post : PO) : lk (T_X0_hearItem post) 76 = o_const 1 77 := rfl
theorem k_X0_hearItem_77 (post : PO) : lk (T_X0_hearItem post) 77 = o_putI 0 4 80 := rfl
theorem k_X0_hearItem_80 (post : PO) : lk (T_X0_hearItem post) 80 = o_aload 0 81 := rfl
theorem k_X0_hearItem_81 (post : PO) : lk (T_X0_hearItem post) 81 = o_callV 0 S_X0_hearPerson 0 84 := rfl
theorem k_X0_hearItem_84 (post : PO) : lk (T_X0_hearItem post) 84 = o_zret post := rfl
theorem k_X0_hearItem_85 (post : PO) : lk (T_X0_hearItem post) 85 = o_aload 0 86 := rfl
theorem k_X0_hearItem_86 (post : PO) : lk (T_X0_hearItem post) 86 = o_const 4 87 := rfl
theorem k_X0_hearItem_87 (post : PO) : lk (T_X0_hearItem post) 87 = o_putI 0 4 90 := rfl
theorem k_X0_hearItem_90 (post : PO) : lk (T_X0_hearItem post) 90 = o_const 1 91 := rfl
theorem k_X0_hearItem_91 (post : PO) : lk (T_X0_hearItem post) 91 = o_zret post := rfl
theorem k_X0_hearItem_92 (post : PO) : lk (T_X0_hearItem post) 92 = o_const 0 93 := rfl
theorem k_X0_hearItem_93 (post : PO) : lk (T_X0_hearItem post) 93 = o_zret post := rfl
set_option maxRecDepth 100000 in
theorem t_X0_hearItem {p : Program} {l : Launch} {e : Env} {s : State} {m : MethodId} {args : Array Value} {below : List Frame} {meth : Method} {c : Code} {D : va_G} {dA : Nat → ClassId} {ad : Nat → Nat} (post : PO) (C : CX p s m args meth c cX0_hearItem 2 yX0_hearItem.cls D dA ad (AA ad s.heap.size)) (hr : meth.sig.returnType = (some .boolean)) : SndL (WW p l e ({ frames := 1, cells := 0, slots := 0, locals := 20 } : Room) s m args below meth c 0 0 (MQ below (CQ D dA ad post (AA ad s.heap.size)) args s 0 0 (AA ad s.heap.size)) 2 D dA ad (AA ad s.heap.size)) (T_X0_hearItem post) := by
  refine snd_c (s_iload_n C rfl dX0_hearItem_0) ?_
  refine snd_c (s_sw C dX0_hearItem_1 (by decide) (by decide +kernel) (by decide)) ?_
  refine snd_c (s_aload_n C rfl dX0_hearItem_32) ?_
  refine snd_c (s_iconst C dX0_hearItem_33 rfl) ?_
  refine snd_c (s_putI C (ci := 0) (j := 4) (T := TX0) tyX0 tyX0_ok nmX0 rfl inX0 (by decide) rfl rfl fl_RX0_40 dX0_hearItem_34) ?_
  refine snd_c (s_aload_n C rfl dX0_hearItem_37) ?_
  refine snd_c (s_getf C (ci := 0) (j := 0) (T := TX0) rfl inX0 (by decide) fl_RX0_12 dX0_hearItem_38) ?_
  refine snd_c (s_getf C (ci := 1) (j := 2) (T := TX1) rfl inX1 (by decide) fl_RX0_80 dX0_hearItem_41) ?_
  refine snd_c (s_bipush C dX0_hearItem_44 rfl) ?_
  refine snd_c (s_icmp_ge C dX0_hearItem_46 (by decide)) ?_
  refine snd_c (s_iconst C dX0_hearItem_49 rfl) ?_
  refine snd_c (s_goto C dX0_hearItem_50 (by decide)) ?_
  refine snd_c (s_iconst C dX0_hearItem_53 rfl) ?_
  refine snd_c (s_zret C hr ⟨rfl, rfl⟩ dX0_hearItem_54) ?_
  refine snd_c (s_aload_n C rfl dX0_hearItem_55) ?_
  refine snd_c (s_iconst C dX0_hearItem_56 rfl) ?_
  refine snd_c (s_putI C (ci := 0) (j := 4) (T := TX0) tyX0 tyX0_ok nmX0 rfl inX0 (by decide) rfl rfl fl_RX0_40 dX0_hearItem_57) ?_
  refine snd_c (s_aload_n C rfl dX0_hearItem_60) ?_
  refine snd_c (s_getf C (ci := 0) (j := 2) (T := TX0) rfl inX0 (by decide) fl_RX0_22 dX0_hearItem_61) ?_
  refine snd_c (s_bipush C dX0_hearItem_64 rfl) ?_
  refine snd_c (s_icmp_ge C dX0_hearItem_66 (by decide)) ?_
  refine snd_c (s_iconst C dX0_hearItem_69 rfl) ?_
  refine snd_c (s_goto C dX0_hearItem_70 (by decide)) ?_
  refine snd_c (s_iconst C dX0_hearItem_73 rfl) ?_
  refine snd_c (s_zret C hr ⟨rfl, rfl⟩ dX0_hearItem_74) ?_
  refine snd_c (s_aload_n C rfl dX0_hearItem_75) ?_
  refine snd_c (s_iconst C dX0_hearItem_76 rfl) ?_
  refine snd_c (s_putI C (ci := 0) (j := 4) (T := TX0) tyX0 tyX0_ok nmX0 rfl inX0 (by decide) rfl rfl fl_RX0_40 dX0_hearItem_77) ?_
  refine snd_c (s_aload_n C rfl dX0_hearItem_80) ?_
  refine snd_c (s_callV C (ci := 0) c_X0_hearPerson rfl cw_RX0_83 ⟨rfl, rfl⟩ ⟨by decide +kernel, by decide +kernel, by decide +kernel⟩ ⟨by decide, by decide⟩ ⟨Nat.zero_le _, Nat.zero_le _⟩ dX0_hearItem_81) ?_
  refine snd_c (s_zret C hr ⟨rfl, rfl⟩ dX0_hearItem_84) ?_
  refine snd_c (s_aload_n C rfl dX0_hearItem_85) ?_
  refine snd_c (s_iconst C dX0_hearItem_86 rfl) ?_
  refine snd_c (s_putI C (ci := 0) (j := 4) (T := TX0) tyX0 tyX0_ok nmX0 rfl inX0 (by decide) rfl rfl fl_RX0_40 dX0_hearItem_87) ?_
  refine snd_c (s_iconst C dX0_hearItem_90 rfl) ?_
  refine snd_c (s_zret C hr ⟨rfl, rfl⟩ dX0_hearItem_91) ?_
  refine snd_c (s_iconst C dX0_hearItem_92 rfl) ?_
  refine snd_c (s_zret C hr ⟨rfl, rfl⟩ dX0_hearItem_93) ?_
  exact trivial
theorem cw_RX0_87 : ∀ w ∈ ([.methodLink RX0 87 yX1_append, .instanceMethod yX1_append, .selects yX1_append.cls yX1_append yX1_append, .initialized yX1_append.cls, .code yX1_append cX1_append 2 (some .boolean)] : List Cond), w ∈ tb := tb_all [340, 341, 342, 57, 343] (by decide +kernel) (by decide +kernel)
theorem dX0_hearKeyRow_0 : decode cX0_hearKeyRow 0 = .ok (.aload_n 0, 1) := by decide +kernel
theorem dX0_hearKeyRow_1 : decode cX0_hearKeyRow 1 = .ok (.iconst 1, 1) := by decide +kernel
theorem dX0_hearKeyRow_2 : decode cX0_hearKeyRow 2 = .ok (.putfield 40, 3) := by decide +kernel
theorem dX0_hearKeyRow_5 : decode cX0_hearKeyRow 5 = .ok (.aload_n 0, 1) := by decide +kernel
theorem dX0_hearKeyRow_6 : decode cX0_hearKeyRow 6 = .ok (.getfield 12, 3) := by decide +kernel
theorem dX0_hearKeyRow_9 : decode cX0_hearKeyRow 9 = .ok (.iload_n 1, 1) := by decide +kernel
theorem dX0_hearKeyRow_10 : decode cX0_hearKeyRow 10 = .ok (.invokevirtual 87, 3) := by decide +kernel
theorem dX0_hearKeyRow_13 : decode cX0_hearKeyRow 13 = .ok (.ireturn, 1) := by decide +kernel
def T_X0_hearKeyRow (post : PO) : List (Nat × OP) := [(0, o_aload 0 1), (1, o_const 1 2), (2, o_putI 0 4 5), (5, o_aload 0 6), (6, o_getf 0 0 9), (9, o_iload 1 10), (10, o_callV 1 S_X1_append 1 13), (13, o_zret post)]
theorem k_X0_hearKeyRow_0 (post : PO) : lk (T_X0_hearKeyRow post) 0 = o_aload 0 1 := rfl
theorem k_X0_hearKeyRow_1 (post : PO) : lk (T_X0_hearKeyRow post) 1 = o_const 1 2 := rfl
theorem k_X0_hearKeyRow_2 (post : PO) : lk (T_X0_hearKeyRow post) 2 = o_putI 0 4 5 := rfl
theorem k_X0_hearKeyRow_5 (post : PO) : lk (T_X0_hearKeyRow post) 5 = o_aload 0 6 := rfl
theorem k_X0_hearKeyRow_6 (post : PO) : lk (T_X0_hearKeyRow post) 6 = o_getf 0 0 9 := rfl
theorem k_X0_hearKeyRow_9 (post : PO) : lk (T_X0_hearKeyRow post) 9 = o_iload 1 10 := rfl
theorem k_X0_hearKeyRow_10 (post : PO) : lk (T_X0_hearKeyRow post) 10 = o_callV 1 S_X1_append 1 13 := rfl
theorem k_X0_hearKeyRow_13 (post : PO) : lk (T_X0_hearKeyRow post) 13 = o_zret post := rfl
set_option maxRecDepth 100000 in
theorem t_X0_hearKeyRow {p : Program} {l : Launch} {e : Env} {s : State} {m : MethodId} {args : Array Value} {below : List Frame} {meth : Method} {c : Code} {D : va_G} {dA : Nat → ClassId} {ad : Nat → Nat} (post : PO) (C : CX p s m args meth c cX0_hearKeyRow 2 yX0_hearKeyRow.cls D dA ad (AA ad s.heap.size)) (hr : meth.sig.returnType = (some .boolean)) : SndL (WW p l e ({ frames := 1, cells := 0, slots := 0, locals := 21 } : Room) s m args below meth c 0 0 (MQ below (CQ D dA ad post (AA ad s.heap.size)) args s 0 0 (AA ad s.heap.size)) 2 D dA ad (AA ad s.heap.size)) (T_X0_hearKeyRow post) := by
  refine snd_c (s_aload_n C rfl dX0_hearKeyRow_0) ?_
  refine snd_c (s_iconst C dX0_hearKeyRow_1 rfl) ?_
  refine snd_c (s_putI C (ci := 0) (j := 4) (T := TX0) tyX0 tyX0_ok nmX0 rfl inX0 (by decide) rfl rfl fl_RX0_40 dX0_hearKeyRow_2) ?_
  refine snd_c (s_aload_n C rfl dX0_hearKeyRow_5) ?_
  refine snd_c (s_getf C (ci := 0) (j := 0) (T := TX0) rfl inX0 (by decide) fl_RX0_12 dX0_hearKeyRow_6) ?_
  refine snd_c (s_iload_n C rfl dX0_hearKeyRow_9) ?_
  refine snd_c (s_callV C (ci := 1) c_X1_append rfl cw_RX0_87 ⟨rfl, rfl⟩ ⟨by decide +kernel, by decide +kernel, by decide +kernel⟩ ⟨by decide, by decide⟩ ⟨Nat.zero_le _, Nat.zero_le _⟩ dX0_hearKeyRow_10) ?_
  refine snd_c (s_zret C hr ⟨rfl, rfl⟩ dX0_hearKeyRow_13) ?_
  exact trivial
theorem dX0_hearLockRow_0 : decode cX0_hearLockRow 0 = .ok (.aload_n 0, 1) := by decide +kernel
theorem dX0_hearLockRow_1 : decode cX0_hearLockRow 1 = .ok (.iconst 1, 1) := by decide +kernel
theorem dX0_hearLockRow_2 : decode cX0_hearLockRow 2 = .ok (.putfield 40, 3) := by decide +kernel
theorem dX0_hearLockRow_5 : decode cX0_hearLockRow 5 = .ok (.aload_n 0, 1) := by decide +kernel
theorem dX0_hearLockRow_6 : decode cX0_hearLockRow 6 = .ok (.getfield 22, 3) := by decide +kernel
theorem dX0_hearLockRow_9 : decode cX0_hearLockRow 9 = .ok (.ifCond .lt 12, 3) := by decide +kernel
theorem dX0_hearLockRow_12 : decode cX0_hearLockRow 12 = .ok (.aload_n 0, 1) := by decide +kernel
theorem dX0_hearLockRow_13 : decode cX0_hearLockRow 13 = .ok (.getfield 22, 3) := by decide +kernel
theorem dX0_hearLockRow_16 : decode cX0_hearLockRow 16 = .ok (.bipush 6, 2) := by decide +kernel
theorem dX0_hearLockRow_18 : decode cX0_hearLockRow 18 = .ok (.if_icmp .lt 5, 3) := by decide +kernel
theorem dX0_hearLockRow_21 : decode cX0_hearLockRow 21 = .ok (.iconst 0, 1) := by decide +kernel
theorem dX0_hearLockRow_22 : decode cX0_hearLockRow 22 = .ok (.ireturn, 1) := by decide +kernel
theorem dX0_hearLockRow_23 : decode cX0_hearLockRow 23 = .ok (.aload_n 0, 1) := by decide +kernel
theorem dX0_hearLockRow_24 : decode cX0_hearLockRow 24 = .ok (.getfield 18, 3) := by decide +kernel
theorem dX0_hearLockRow_27 : decode cX0_hearLockRow 27 = .ok (.aload_n 0, 1) := by decide +kernel
theorem dX0_hearLockRow_28 : decode cX0_hearLockRow 28 = .ok (.getfield 22, 3) := by decide +kernel
theorem dX0_hearLockRow_31 : decode cX0_hearLockRow 31 = .ok (.iload_n 1, 1) := by decide +kernel
theorem dX0_hearLockRow_32 : decode cX0_hearLockRow 32 = .ok (.iastore, 1) := by decide +kernel
theorem dX0_hearLockRow_33 : decode cX0_hearLockRow 33 = .ok (.aload_n 0, 1) := by decide +kernel
theorem dX0_hearLockRow_34 : decode cX0_hearLockRow 34 = .ok (.dup, 1) := by decide +kernel
theorem dX0_hearLockRow_35 : decode cX0_hearLockRow 35 = .ok (.getfield 22, 3) := by decide +kernel
theorem dX0_hearLockRow_38 : decode cX0_hearLockRow 38 = .ok (.iconst 1, 1) := by decide +kernel
theorem dX0_hearLockRow_39 : decode cX0_hearLockRow 39 = .ok (.iadd, 1) := by decide +kernel
theorem dX0_hearLockRow_40 : decode cX0_hearLockRow 40 = .ok (.putfield 22, 3) := by decide +kernel
theorem dX0_hearLockRow_43 : decode cX0_hearLockRow 43 = .ok (.iconst 1, 1) := by decide +kernel
theorem dX0_hearLockRow_44 : decode cX0_hearLockRow 44 = .ok (.ireturn, 1) := by decide +kernel
def T_X0_hearLockRow (post : PO) : List (Nat × OP) := [(0, o_aload 0 1), (1, o_const 1 2), (2, o_putI 0 4 5), (5, o_aload 0 6), (6, o_getf 0 2 9), (9, o_if (fun x => x < 0) 21 12), (12, o_aload 0 13), (13, o_getf 0 2 16), (16, o_const 6 18), (18, o_icmp (fun x y => x < y) 23 21), (21, o_const 0 22), (22, o_zret post), (23, o_aload 0 24), (24, o_getf 0 1 27), (27, o_aload 0 28), (28, o_getf 0 2 31), (31, o_iload 1 32), (32, o_ast 0 (fun x => x) 33), (33, o_aload 0 34), (34, o_dup 35), (35, o_getf 0 2 38), (38, o_const 1 39), (39, o_bin (fun x y => x + y) 40), (40, o_putI 0 2 43), (43, o_const 1 44), (44, o_zret post)]
theorem k_X0_hearLockRow_0 (post : PO) : lk (T_X0_hearLockRow post) 0 = o_aload 0 1 := rfl
theorem k_X0_hearLockRow_1 (post : PO) : lk (T_X0_hearLockRow post) 1 = o_const 1 2 := rfl
theorem k_X0_hearLockRow_2 (post : PO) : lk (T_X0_hearLockRow post) 2 = o_putI 0 4 5 := rfl
theorem k_X0_hearLockRow_5 (post : PO) : lk (T_X0_hearLockRow post) 5 = o_aload 0 6 := rfl
theorem k_X0_hearLockRow_6 (post : PO) : lk (T_X0_hearLockRow post) 6 = o_getf 0 2 9 := rfl
theorem k_X0_hearLockRow_9 (post : PO) : lk (T_X0_hearLockRow post) 9 = o_if (fun x => x < 0) 21 12 := rfl
theorem k_X0_hearLockRow_12 (post : PO) : lk (T_X0_hearLockRow post) 12 = o_aload 0 13 := rfl
theorem k_X0_hearLockRow_13 (post : PO) : lk (T_X0_hearLockRow post) 13 = o_getf 0 2 16 := rfl
theorem k_X0_hearLockRow_16 (post : PO) : lk (T_X0_hearLockRow post) 16 = o_const 6 18 := rfl
theorem k_X0_hearLockRow_18 (post : PO) : lk (T_X0_hearLockRow post) 18 = o_icmp (fun x y => x < y) 23 21 := rfl
theorem k_X0_hearLockRow_21 (post : PO) : lk (T_X0_hearLockRow post) 21 = o_const 0 22 := rfl
theorem k_X0_hearLockRow_22 (post : PO) : lk (T_X0_hearLockRow post) 22 = o_zret post := rfl
theorem k_X0_hearLockRow_23 (post : PO) : lk (T_X0_hearLockRow post) 23 = o_aload 0 24 := rfl
theorem k_X0_hearLockRow_24 (post : PO) : lk (T_X0_hearLockRow post) 24 = o_getf 0 1 27 := rfl
theorem k_X0_hearLockRow_27 (post : PO) : lk (T_X0_hearLockRow post) 27 = o_aload 0 28 := rfl
theorem k_X0_hearLockRow_28 (post : PO) : lk (T_X0_hearLockRow post) 28 = o_getf 0 2 31 := rfl
theorem k_X0_hearLockRow_31 (post : PO) : lk (T_X0_hearLockRow post) 31 = o_iload 1 32 := rfl
theorem k_X0_hearLockRow_32 (post : PO) : lk (T_X0_hearLockRow post) 32 = o_ast 0 (fun x => x) 33 := rfl
theorem k_X0_hearLockRow_33 (post : PO) : lk (T_X0_hearLockRow post) 33 = o_aload 0 34 := rfl
theorem k_X0_hearLockRow_34 (post : PO) : lk (T_X0_hearLockRow post) 34 = o_dup 35 := rfl
theorem k_X0_hearLockRow_35 (post : PO) : lk (T_X0_hearLockRow post) 35 = o_getf 0 2 38 := rfl
theorem k_X0_hearLockRow_38 (post : PO) : lk (T_X0_hearLockRow post) 38 = o_const 1 39 := rfl
theorem k_X0_hearLockRow_39 (post : PO) : lk (T_X0_hearLockRow post) 39 = o_bin (fun x y => x + y) 40 := rfl
theorem k_X0_hearLockRow_40 (post : PO) : lk (T_X0_hearLockRow post) 40 = o_putI 0 2 43 := rfl
theorem k_X0_hearLockRow_43 (post : PO) : lk (T_X0_hearLockRow post) 43 = o_const 1 44 := rfl
theorem k_X0_hearLockRow_44 (post : PO) : lk (T_X0_hearLockRow post) 44 = o_zret post := rfl
set_option maxRecDepth 100000 in
theorem t_X0_hearLockRow {p : Program} {l : Launch} {e : Env} {s : State} {m : MethodId} {args : Array Value} {below : List Frame} {meth : Method} {c : Code} {D : va_G} {dA : Nat → ClassId} {ad : Nat → Nat} (post : PO) (C : CX p s m args meth c cX0_hearLockRow 2 yX0_hearLockRow.cls D dA ad (AA ad s.heap.size)) (hr : meth.sig.returnType = (some .boolean)) : SndL (WW p l e ({ frames := 0, cells := 0, slots := 0, locals := 0 } : Room) s m args below meth c 0 0 (MQ below (CQ D dA ad post (AA ad s.heap.size)) args s 0 0 (AA ad s.heap.size)) 2 D dA ad (AA ad s.heap.size)) (T_X0_hearLockRow post) := by
  refine snd_c (s_aload_n C rfl dX0_hearLockRow_0) ?_
  refine snd_c (s_iconst C dX0_hearLockRow_1 rfl) ?_
  refine snd_c (s_putI C (ci := 0) (j := 4) (T := TX0) tyX0 tyX0_ok nmX0 rfl inX0 (by decide) rfl rfl fl_RX0_40 dX0_hearLockRow_2) ?_
  refine snd_c (s_aload_n C rfl dX0_hearLockRow_5) ?_
  refine snd_c (s_getf C (ci := 0) (j := 2) (T := TX0) rfl inX0 (by decide) fl_RX0_22 dX0_hearLockRow_6) ?_
  refine snd_c (s_if_lt C dX0_hearLockRow_9 (by decide)) ?_
  refine snd_c (s_aload_n C rfl dX0_hearLockRow_12) ?_
  refine snd_c (s_getf C (ci := 0) (j := 2) (T := TX0) rfl inX0 (by decide) fl_RX0_22 dX0_hearLockRow_13) ?_
  refine snd_c (s_bipush C dX0_hearLockRow_16 rfl) ?_
  refine snd_c (s_icmp_lt C dX0_hearLockRow_18 (by decide)) ?_
  refine snd_c (s_iconst C dX0_hearLockRow_21 rfl) ?_
  refine snd_c (s_zret C hr ⟨rfl, rfl⟩ dX0_hearLockRow_22) ?_
  refine snd_c (s_aload_n C rfl dX0_hearLockRow_23) ?_
  refine snd_c (s_getf C (ci := 0) (j := 1) (T := TX0) rfl inX0 (by decide) fl_RX0_18 dX0_hearLockRow_24) ?_
  refine snd_c (s_aload_n C rfl dX0_hearLockRow_27) ?_
  refine snd_c (s_getf C (ci := 0) (j := 2) (T := TX0) rfl inX0 (by decide) fl_RX0_22 dX0_hearLockRow_28) ?_
  refine snd_c (s_iload_n C rfl dX0_hearLockRow_31) ?_
  refine snd_c (s_iast C dX0_hearLockRow_32) ?_
  refine snd_c (s_aload_n C rfl dX0_hearLockRow_33) ?_
  refine snd_c (s_dup C dX0_hearLockRow_34) ?_
  refine snd_c (s_getf C (ci := 0) (j := 2) (T := TX0) rfl inX0 (by decide) fl_RX0_22 dX0_hearLockRow_35) ?_
  refine snd_c (s_iconst C dX0_hearLockRow_38 rfl) ?_
  refine snd_c (s_iadd C dX0_hearLockRow_39) ?_
  refine snd_c (s_putI C (ci := 0) (j := 2) (T := TX0) tyX0 tyX0_ok nmX0 rfl inX0 (by decide) rfl rfl fl_RX0_22 dX0_hearLockRow_40) ?_
  refine snd_c (s_iconst C dX0_hearLockRow_43 rfl) ?_
  refine snd_c (s_zret C hr ⟨rfl, rfl⟩ dX0_hearLockRow_44) ?_
  exact trivial
theorem fl_RX0_90 : Cond.fieldLink RX0 90 (TX0 5).1 (TX0 5).2.1 (TX0 5).2.2.1 ∈ tb := tb_of 159 (by decide +kernel) (by decide +kernel)
theorem cw_RX0_93 : ∀ w ∈ ([.methodLink RX0 93 yX0_hasPerson, .instanceMethod yX0_hasPerson, .selects yX0_hasPerson.cls yX0_hasPerson yX0_hasPerson, .initialized yX0_hasPerson.cls, .code yX0_hasPerson cX0_hasPerson 2 (some .boolean)] : List Cond), w ∈ tb := tb_all [352, 353, 354, 56, 355] (by decide +kernel) (by decide +kernel)
theorem dX0_hearHolder_0 : decode cX0_hearHolder 0 = .ok (.aload_n 0, 1) := by decide +kernel
theorem dX0_hearHolder_1 : decode cX0_hearHolder 1 = .ok (.iconst 5, 1) := by decide +kernel
theorem dX0_hearHolder_2 : decode cX0_hearHolder 2 = .ok (.putfield 40, 3) := by decide +kernel
theorem dX0_hearHolder_5 : decode cX0_hearHolder 5 = .ok (.aload_n 0, 1) := by decide +kernel
theorem dX0_hearHolder_6 : decode cX0_hearHolder 6 = .ok (.iload_n 1, 1) := by decide +kernel
theorem dX0_hearHolder_7 : decode cX0_hearHolder 7 = .ok (.putfield 90, 3) := by decide +kernel
theorem dX0_hearHolder_10 : decode cX0_hearHolder 10 = .ok (.aload_n 0, 1) := by decide +kernel
theorem dX0_hearHolder_11 : decode cX0_hearHolder 11 = .ok (.iload_n 1, 1) := by decide +kernel
theorem dX0_hearHolder_12 : decode cX0_hearHolder 12 = .ok (.invokevirtual 93, 3) := by decide +kernel
theorem dX0_hearHolder_15 : decode cX0_hearHolder 15 = .ok (.ireturn, 1) := by decide +kernel
def T_X0_hearHolder (post : PO) : List (Nat × OP) := [(0, o_aload 0 1), (1, o_const 5 2), (2, o_putI 0 4 5), (5, o_aload 0 6), (6, o_iload 1 7), (7, o_putI 0 5 10), (10, o_aload 0 11), (11, o_iload 1 12), (12, o_callV 0 S_X0_hasPerson 1 15), (15, o_zret post)]
theorem k_X0_hearHolder_0 (post : PO) : lk (T_X0_hearHolder post) 0 = o_aload 0 1 := rfl
theorem k_X0_hearHolder_1 (post : PO) : lk (T_X0_hearHolder post) 1 = o_const 5 2 := rfl
theorem k_X0_hearHolder_2 (post : PO) : lk (T_X0_hearHolder post) 2 = o_putI 0 4 5 := rfl
theorem k_X0_hearHolder_5 (post : PO) : lk (T_X0_hearHolder post) 5 = o_aload 0 6 := rfl
theorem k_X0_hearHolder_6 (post : PO) : lk (T_X0_hearHolder post) 6 = o_iload 1 7 := rfl
theorem k_X0_hearHolder_7 (post : PO) : lk (T_X0_hearHolder post) 7 = o_putI 0 5 10 := rfl
theorem k_X0_hearHolder_10 (post : PO) : lk (T_X0_hearHolder post) 10 = o_aload 0 11 := rfl
theorem k_X0_hearHolder_11 (post : PO) : lk (T_X0_hearHolder post) 11 = o_iload 1 12 := rfl
theorem k_X0_hearHolder_12 (post : PO) : lk (T_X0_hearHolder post) 12 = o_callV 0 S_X0_hasPerson 1 15 := rfl
theorem k_X0_hearHolder_15 (post : PO) : lk (T_X0_hearHolder post) 15 = o_zret post := rfl
set_option maxRecDepth 100000 in
theorem t_X0_hearHolder {p : Program} {l : Launch} {e : Env} {s : State} {m : MethodId} {args : Array Value} {below : List Frame} {meth : Method} {c : Code} {D : va_G} {dA : Nat → ClassId} {ad : Nat → Nat} (post : PO) (C : CX p s m args meth c cX0_hearHolder 2 yX0_hearHolder.cls D dA ad (AA ad s.heap.size)) (hr : meth.sig.returnType = (some .boolean)) : SndL (WW p l e ({ frames := 1, cells := 0, slots := 0, locals := 21 } : Room) s m args below meth c 0 0 (MQ below (CQ D dA ad post (AA ad s.heap.size)) args s 0 0 (AA ad s.heap.size)) 2 D dA ad (AA ad s.heap.size)) (T_X0_hearHolder post) := by
  refine snd_c (s_aload_n C rfl dX0_hearHolder_0) ?_
  refine snd_c (s_iconst C dX0_hearHolder_1 rfl) ?_
  refine snd_c (s_putI C (ci := 0) (j := 4) (T := TX0) tyX0 tyX0_ok nmX0 rfl inX0 (by decide) rfl rfl fl_RX0_40 dX0_hearHolder_2) ?_
  refine snd_c (s_aload_n C rfl dX0_hearHolder_5) ?_
  refine snd_c (s_iload_n C rfl dX0_hearHolder_6) ?_
  refine snd_c (s_putI C (ci := 0) (j := 5) (T := TX0) tyX0 tyX0_ok nmX0 rfl inX0 (by decide) rfl rfl fl_RX0_90 dX0_hearHolder_7) ?_
  refine snd_c (s_aload_n C rfl dX0_hearHolder_10) ?_
  refine snd_c (s_iload_n C rfl dX0_hearHolder_11) ?_
  refine snd_c (s_callV C (ci := 0) c_X0_hasPerson rfl cw_RX0_93 ⟨rfl, rfl⟩ ⟨by decide +kernel, by decide +kernel, by decide +kernel⟩ ⟨by decide, by decide⟩ ⟨Nat.zero_le _, Nat.zero_le _⟩ dX0_hearHolder_12) ?_
  refine snd_c (s_zret C hr ⟨rfl, rfl⟩ dX0_hearHolder_15) ?_
  exact trivial
theorem cw_RX0_96 : ∀ w ∈ ([.methodLink RX0 96 yX1_has, .instanceMethod yX1_has, .selects yX1_has.cls yX1_has yX1_has, .initialized yX1_has.cls, .code yX1_has cX1_has 2 (some .boolean)] : List Cond), w ∈ tb := tb_all [360, 361, 362, 57, 363] (by decide +kernel) (by decide +kernel)
theorem fl_RX0_99 : Cond.fieldLink RX0 99 (TX1 1).1 (TX1 1).2.1 (TX1 1).2.2.1 ∈ tb := tb_of 119 (by decide +kernel) (by decide +kernel)
theorem dX0_hearHeld_0 : decode cX0_hearHeld 0 = .ok (.aload_n 0, 1) := by decide +kernel
theorem dX0_hearHeld_1 : decode cX0_hearHeld 1 = .ok (.iconst 1, 1) := by decide +kernel
theorem dX0_hearHeld_2 : decode cX0_hearHeld 2 = .ok (.putfield 40, 3) := by decide +kernel
theorem dX0_hearHeld_5 : decode cX0_hearHeld 5 = .ok (.aload_n 0, 1) := by decide +kernel
theorem dX0_hearHeld_6 : decode cX0_hearHeld 6 = .ok (.getfield 12, 3) := by decide +kernel
theorem dX0_hearHeld_9 : decode cX0_hearHeld 9 = .ok (.iload_n 1, 1) := by decide +kernel
theorem dX0_hearHeld_10 : decode cX0_hearHeld 10 = .ok (.invokevirtual 96, 3) := by decide +kernel
theorem dX0_hearHeld_13 : decode cX0_hearHeld 13 = .ok (.ifCond .eq 17, 3) := by decide +kernel
theorem dX0_hearHeld_16 : decode cX0_hearHeld 16 = .ok (.aload_n 0, 1) := by decide +kernel
theorem dX0_hearHeld_17 : decode cX0_hearHeld 17 = .ok (.getfield 12, 3) := by decide +kernel
theorem dX0_hearHeld_20 : decode cX0_hearHeld 20 = .ok (.getfield 99, 3) := by decide +kernel
theorem dX0_hearHeld_23 : decode cX0_hearHeld 23 = .ok (.iload_n 1, 1) := by decide +kernel
theorem dX0_hearHeld_24 : decode cX0_hearHeld 24 = .ok (.iaload, 1) := by decide +kernel
theorem dX0_hearHeld_25 : decode cX0_hearHeld 25 = .ok (.bipush (-4), 2) := by decide +kernel
theorem dX0_hearHeld_27 : decode cX0_hearHeld 27 = .ok (.if_icmp .eq 5, 3) := by decide +kernel
theorem dX0_hearHeld_30 : decode cX0_hearHeld 30 = .ok (.iconst 0, 1) := by decide +kernel
theorem dX0_hearHeld_31 : decode cX0_hearHeld 31 = .ok (.ireturn, 1) := by decide +kernel
theorem dX0_hearHeld_32 : decode cX0_hearHeld 32 = .ok (.aload_n 0, 1) := by decide +kernel
theorem dX0_hearHeld_33 : decode cX0_hearHeld 33 = .ok (.getfield 12, 3) := by decide +kernel
theorem dX0_hearHeld_36 : decode cX0_hearHeld 36 = .ok (.getfield 99, 3) := by decide +kernel
theorem dX0_hearHeld_39 : decode cX0_hearHeld 39 = .ok (.iload_n 1, 1) := by decide +kernel
theorem dX0_hearHeld_40 : decode cX0_hearHeld 40 = .ok (.aload_n 0, 1) := by decide +kernel
theorem dX0_hearHeld_41 : decode cX0_hearHeld 41 = .ok (.getfield 90, 3) := by decide +kernel
theorem dX0_hearHeld_44 : decode cX0_hearHeld 44 = .ok (.iastore, 1) := by decide +kernel
theorem dX0_hearHeld_45 : decode cX0_hearHeld 45 = .ok (.iconst 1, 1) := by decide +kernel
theorem dX0_hearHeld_46 : decode cX0_hearHeld 46 = .ok (.ireturn, 1) := by decide +kernel
def T_X0_hearHeld (post : PO) : List (Nat × OP) := [(0, o_aload 0 1), (1, o_const 1 2), (2, o_putI 0 4 5), (5, o_aload 0 6), (6, o_getf 0 0 9), (9, o_iload 1 10), (10, o_callV 1 S_X1_has 1 13), (13, o_if (fun x => x = 0) 30 16), (16, o_aload 0 17), (17, o_getf 0 0 20), (20, o_getf 1 1 23), (23, o_iload 1 24), (24, o_ald 0 25), (25, o_const (-4) 27), (27, o_icmp (fun x y => x = y) 32 30), (30, o_const 0 31), (31, o_zret post), (32, o_aload 0 33), (33, o_getf 0 0 36), (36, o_getf 1 1 39), (39, o_iload 1 40), (40, o_aload 0 41), (41, o_getf 0 5 44), (44, o_ast 0 (fun x => x) 45), (45, o_const 1 46), (46, o_zret post)]
theorem k_X0_hearHeld_0 (post : PO) : lk (T_X0_hearHeld post) 0 = o_aload 0 1 := rfl
theorem k_X0_hearHeld_1 (post : PO) : lk (T_X0_hearHeld post) 1 = o_const 1 2 := rfl
theorem k_X0_hearHeld_2 (post : PO) : lk (T_X0_hearHeld post) 2 = o_putI 0 4 5 := rfl
theorem k_X0_hearHeld_5 (post : PO) : lk (T_X0_hearHeld post) 5 = o_aload 0 6 := rfl
theorem k_X0_hearHeld_6 (post : PO) : lk (T_X0_hearHeld post) 6 = o_getf 0 0 9 := rfl
theorem k_X0_hearHeld_9 (post : PO) : lk (T_X0_hearHeld post) 9 = o_iload 1 10 := rfl
theorem k_X0_hearHeld_10 (post : PO) : lk (T_X0_hearHeld post) 10 = o_callV 1 S_X1_has 1 13 := rfl
theorem k_X0_hearHeld_13 (post : PO) : lk (T_X0_hearHeld post) 13 = o_if (fun x => x = 0) 30 16 := rfl
theorem k_X0_hearHeld_16 (post : PO) : lk (T_X0_hearHeld post) 16 = o_aload 0 17 := rfl
theorem k_X0_hearHeld_17 (post : PO) : lk (T_X0_hearHeld post) 17 = o_getf 0 0 20 := rfl
theorem k_X0_hearHeld_20 (post : PO) : lk (T_X0_hearHeld post) 20 = o_getf 1 1 23 := rfl
theorem k_X0_hearHeld_23 (post : PO) : lk (T_X0_hearHeld post) 23 = o_iload 1 24 := rfl
theorem k_X0_hearHeld_24 (post : PO) : lk (T_X0_hearHeld post) 24 = o_ald 0 25 := rfl
theorem k_X0_hearHeld_25 (post : PO) : lk (T_X0_hearHeld post) 25 = o_const (-4) 27 := rfl
theorem k_X0_hearHeld_27 (post : PO) : lk (T_X0_hearHeld post) 27 = o_icmp (fun x y => x = y) 32 30 := rfl
theorem k_X0_hearHeld_30 (post : PO) : lk (T_X0_hearHeld post) 30 = o_const 0 31 := rfl
theorem k_X0_hearHeld_31 (post : PO) : lk (T_X0_hearHeld post) 31 = o_zret post := rfl
theorem k_X0_hearHeld_32 (post : PO) : lk (T_X0_hearHeld post) 32 = o_aload 0 33 := rfl
theorem k_X0_hearHeld_33 (post : PO) : lk (T_X0_hearHeld post) 33 = o_getf 0 0 36 := rfl
theorem k_X0_hearHeld_36 (post : PO) : lk (T_X0_hearHeld post) 36 = o_getf 1 1 39 := rfl
theorem k_X0_hearHeld_39 (post : PO) : lk (T_X0_hearHeld post) 39 = o_iload 1 40 := rfl
theorem k_X0_hearHeld_40 (post : PO) : lk (T_X0_hearHeld post) 40 = o_aload 0 41 := rfl
theorem k_X0_hearHeld_41 (post : PO) : lk (T_X0_hearHeld post) 41 = o_getf 0 5 44 := rfl
theorem k_X0_hearHeld_44 (post : PO) : lk (T_X0_hearHeld post) 44 = o_ast 0 (fun x => x) 45 := rfl
theorem k_X0_hearHeld_45 (post : PO) : lk (T_X0_hearHeld post) 45 = o_const 1 46 := rfl
theorem k_X0_hearHeld_46 (post : PO) : lk (T_X0_hearHeld post) 46 = o_zret post := rfl
set_option maxRecDepth 100000 in
theorem t_X0_hearHeld {p : Program} {l : Launch} {e : Env} {s : State} {m : MethodId} {args : Array Value} {below : List Frame} {meth : Method} {c : Code} {D : va_G} {dA : Nat → ClassId} {ad : Nat → Nat} (post : PO) (C : CX p s m args meth c cX0_hearHeld 2 yX0_hearHeld.cls D dA ad (AA ad s.heap.size)) (hr : meth.sig.returnType = (some .boolean)) : SndL (WW p l e ({ frames := 1, cells := 0, slots := 0, locals := 21 } : Room) s m args below meth c 0 0 (MQ below (CQ D dA ad post (AA ad s.heap.size)) args s 0 0 (AA ad s.heap.size)) 2 D dA ad (AA ad s.heap.size)) (T_X0_hearHeld post) := by
  refine snd_c (s_aload_n C rfl dX0_hearHeld_0) ?_
  refine snd_c (s_iconst C dX0_hearHeld_1 rfl) ?_
  refine snd_c (s_putI C (ci := 0) (j := 4) (T := TX0) tyX0 tyX0_ok nmX0 rfl inX0 (by decide) rfl rfl fl_RX0_40 dX0_hearHeld_2) ?_
  refine snd_c (s_aload_n C rfl dX0_hearHeld_5) ?_
  refine snd_c (s_getf C (ci := 0) (j := 0) (T := TX0) rfl inX0 (by decide) fl_RX0_12 dX0_hearHeld_6) ?_
  refine snd_c (s_iload_n C rfl dX0_hearHeld_9) ?_
  refine snd_c (s_callV C (ci := 1) c_X1_has rfl cw_RX0_96 ⟨rfl, rfl⟩ ⟨by decide +kernel, by decide +kernel, by decide +kernel⟩ ⟨by decide, by decide⟩ ⟨Nat.zero_le _, Nat.zero_le _⟩ dX0_hearHeld_10) ?_
  refine snd_c (s_if_eq C dX0_hearHeld_13 (by decide)) ?_
  refine snd_c (s_aload_n C rfl dX0_hearHeld_16) ?_
  refine snd_c (s_getf C (ci := 0) (j := 0) (T := TX0) rfl inX0 (by decide) fl_RX0_12 dX0_hearHeld_17) ?_
  refine snd_c (s_getf C (ci := 1) (j := 1) (T := TX1) rfl inX1 (by decide) fl_RX0_99 dX0_hearHeld_20) ?_
  refine snd_c (s_iload_n C rfl dX0_hearHeld_23) ?_
  refine snd_c (s_iald C dX0_hearHeld_24) ?_
  refine snd_c (s_bipush C dX0_hearHeld_25 rfl) ?_
  refine snd_c (s_icmp_eq C dX0_hearHeld_27 (by decide)) ?_
  refine snd_c (s_iconst C dX0_hearHeld_30 rfl) ?_
  refine snd_c (s_zret C hr ⟨rfl, rfl⟩ dX0_hearHeld_31) ?_
  refine snd_c (s_aload_n C rfl dX0_hearHeld_32) ?_
  refine snd_c (s_getf C (ci := 0) (j := 0) (T := TX0) rfl inX0 (by decide) fl_RX0_12 dX0_hearHeld_33) ?_
  refine snd_c (s_getf C (ci := 1) (j := 1) (T := TX1) rfl inX1 (by decide) fl_RX0_99 dX0_hearHeld_36) ?_
  refine snd_c (s_iload_n C rfl dX0_hearHeld_39) ?_
  refine snd_c (s_aload_n C rfl dX0_hearHeld_40) ?_
  refine snd_c (s_getf C (ci := 0) (j := 5) (T := TX0) rfl inX0 (by decide) fl_RX0_90 dX0_hearHeld_41) ?_
  refine snd_c (s_iast C dX0_hearHeld_44) ?_
  refine snd_c (s_iconst C dX0_hearHeld_45 rfl) ?_
  refine snd_c (s_zret C hr ⟨rfl, rfl⟩ dX0_hearHeld_46) ?_
  exact trivial
set_option maxRecDepth 100000 in
theorem v_X0_hearItem : ∀ as M post, S_X0_hearItem as M post → wsum as ≤ 2 ∧ RUN (T_X0_hearItem post) 0 (entL 2 as) [] M := by
  rintro as M post ⟨k, p, n, c, rfl, hp, hp4, hn, hn8, hc, hc6, h5, h6, h7, h7b, h8, h9⟩
  refine ⟨Nat.le_refl 2, run_wp 40 ?_⟩
  dsimp only [k_X0_hearItem_0, k_X0_hearItem_1, k_X0_hearItem_32, k_X0_hearItem_33, k_X0_hearItem_34, k_X0_hearItem_37, k_X0_hearItem_38, k_X0_hearItem_41, k_X0_hearItem_44, k_X0_hearItem_46, k_X0_hearItem_49, k_X0_hearItem_50, k_X0_hearItem_53, k_X0_hearItem_54, k_X0_hearItem_55, k_X0_hearItem_56, k_X0_hearItem_57, k_X0_hearItem_60, k_X0_hearItem_61, k_X0_hearItem_64, k_X0_hearItem_66, k_X0_hearItem_69, k_X0_hearItem_70, k_X0_hearItem_73, k_X0_hearItem_74, k_X0_hearItem_75, k_X0_hearItem_76, k_X0_hearItem_77, k_X0_hearItem_80, k_X0_hearItem_81, k_X0_hearItem_84, k_X0_hearItem_85, k_X0_hearItem_86, k_X0_hearItem_87, k_X0_hearItem_90, k_X0_hearItem_91, k_X0_hearItem_92, k_X0_hearItem_93, wp1, wp_s, cutIn, kont, Nat.reduceSub, Nat.reduceAdd, nth, o_const, o_lconst, o_ref, o_iload, o_lload, o_aload, o_istore, o_lstore, o_astore, o_iinc, o_bin, o_div, o_un, o_lbin, o_lsh, o_lcmp, o_i2l, o_l2i, o_if, o_icmp, o_goto, o_dup, o_dup2, o_pop, fav, o_getf, o_putI, o_putZ, o_putL, o_ald, o_ast, o_alen, popn, rst, o_callV, o_callT, o_callS, swx, o_sw, o_ret, o_iret, o_zret, o_cret, o_lret, o_aret, lg, lput, lput2, ls1, isL, entL, wsum, rdI1, rdI2, rdA1, rdA21, rdA22, rdL1, rdL22, rdL21, upN_at, rep, sh_0, F_0_0, F_0_1, F_0_2, F_0_3, F_0_4, F_0_5, F_0_6, F_0_7, F_0_8, sh_1, F_1_0, F_1_1, F_1_2, F_1_3, F_1_4, F_1_5, sh_3, F_3_0, F_3_1, F_3_2, F_3_3, F_3_4, F_3_5, sh_5, F_5_0, F_5_1, F_5_2, F_5_3, F_5_4, F_5_5, F_5_6, F_5_7, F_5_8, sh_12, F_12_0, F_12_1, F_12_2, F_12_3, F_12_4, F_12_5, sh_14, F_14_0, F_14_1, F_14_2, F_14_3, F_14_4, F_14_5, F_14_6, F_14_7, F_14_8, sh_21, F_21_0, F_21_1, F_21_2, F_21_3, F_21_4, F_21_5, F_21_6, F_21_7, F_21_8, sh_28, F_28_0, F_28_1, F_28_2, F_28_3, F_28_4, F_28_5, F_28_6, F_28_7, F_28_8, sh_35, F_35_0, sh_39, F_39_0, F_39_1, F_39_2, F_39_3, F_39_4, F_39_5, F_39_6, F_39_7, F_39_8, F_39_9, F_39_10, F_39_11, F_39_12, F_39_13, A_2, A_4, A_6, A_7, A_8, A_9, A_10, A_11, A_13, A_15, A_16, A_17, A_18, A_19, A_20, A_22, A_23, A_24, A_25, A_26, A_27, A_29, A_30, A_31, A_32, A_33, A_34, A_36, A_37, A_38, A_40, A_41, A_42, A_43, A_44, A_45, A_46, A_47]
  rw [hn, hc, show (8 : Int32) = nI 8 from rfl, show (6 : Int32) = nI 6 from rfl]
  unfold pz at h5 h6
  simp (disch := omega) only [nI_leI, nI_ltI, nI_eq, nI_1, nI_add, one_shl, nI_or, nI_xor, nI_and, bit_0, bit_1, true_or, or_true, true_and, and_true, eq_self, not_true_eq_false, not_false_eq_true, forall_const]
  refine ⟨fun e => ⟨fun z => (h5 e).2 (by omega), fun z => (h5 e).1 (by omega)⟩, fun e5 => ⟨fun e => ⟨fun z => (h6 e).2 (by omega), fun z => (h6 e).1 (by omega)⟩, fun e6 => ⟨fun e => ⟨p, rfl, hp, hp4, fun z => ?_, fun z => ?_⟩, fun e7 => ⟨fun e => h8 e, fun e8 => h9 e5 e6 e7 e8⟩⟩⟩⟩
  · dsimp only [k_X0_hearItem_0, k_X0_hearItem_1, k_X0_hearItem_32, k_X0_hearItem_33, k_X0_hearItem_34, k_X0_hearItem_37, k_X0_hearItem_38, k_X0_hearItem_41, k_X0_hearItem_44, k_X0_hearItem_46, k_X0_hearItem_49, k_X0_hearItem_50, k_X0_hearItem_53, k_X0_hearItem_54, k_X0_hearItem_55, k_X0_hearItem_56, k_X0_hearItem_57, k_X0_hearItem_60, k_X0_hearItem_61, k_X0_hearItem_64, k_X0_hearItem_66, k_X0_hearItem_69, k_X0_hearItem_70, k_X0_hearItem_73, k_X0_hearItem_74, k_X0_hearItem_75, k_X0_hearItem_76, k_X0_hearItem_77, k_X0_hearItem_80, k_X0_hearItem_81, k_X0_hearItem_84, k_X0_hearItem_85, k_X0_hearItem_86, k_X0_hearItem_87, k_X0_hearItem_90, k_X0_hearItem_91, k_X0_hearItem_92, k_X0_hearItem_93, wp1, wp_s, cutIn, kont, Nat.reduceSub, Nat.reduceAdd, nth, o_const, o_lconst, o_ref, o_iload, o_lload, o_aload, o_istore, o_lstore, o_astore, o_iinc, o_bin, o_div, o_un, o_lbin, o_lsh, o_lcmp, o_i2l, o_l2i, o_if, o_icmp, o_goto, o_dup, o_dup2, o_pop, fav, o_getf, o_putI, o_putZ, o_putL, o_ald, o_ast, o_alen, popn, rst, o_callV, o_callT, o_callS, swx, o_sw, o_ret, o_iret, o_zret, o_cret, o_lret, o_aret, lg, lput, lput2, ls1, isL, entL, wsum, rdI1, rdI2, rdA1, rdA21, rdA22, rdL1, rdL22, rdL21, upN_at, rep, sh_0, F_0_0, F_0_1, F_0_2, F_0_3, F_0_4, F_0_5, F_0_6, F_0_7, F_0_8, sh_1, F_1_0, F_1_1, F_1_2, F_1_3, F_1_4, F_1_5, sh_3, F_3_0, F_3_1, F_3_2, F_3_3, F_3_4, F_3_5, sh_5, F_5_0, F_5_1, F_5_2, F_5_3, F_5_4, F_5_5, F_5_6, F_5_7, F_5_8, sh_12, F_12_0, F_12_1, F_12_2, F_12_3, F_12_4, F_12_5, sh_14, F_14_0, F_14_1, F_14_2, F_14_3, F_14_4, F_14_5, F_14_6, F_14_7, F_14_8, sh_21, F_21_0, F_21_1, F_21_2, F_21_3, F_21_4, F_21_5, F_21_6, F_21_7, F_21_8, sh_28, F_28_0, F_28_1, F_28_2, F_28_3, F_28_4, F_28_5, F_28_6, F_28_7, F_28_8, sh_35, F_35_0, sh_39, F_39_0, F_39_1, F_39_2, F_39_3, F_39_4, F_39_5, F_39_6, F_39_7, F_39_8, F_39_9, F_39_10, F_39_11, F_39_12, F_39_13, A_2, A_4, A_6, A_7, A_8, A_9, A_10, A_11, A_13, A_15, A_16, A_17, A_18, A_19, A_20, A_22, A_23, A_24, A_25, A_26, A_27, A_29, A_30, A_31, A_32, A_33, A_34, A_36, A_37, A_38, A_40, A_41, A_42, A_43, A_44, A_45, A_46, A_47]
    exact ⟨Or.inl rfl, h7 e z⟩
  · dsimp only [k_X0_hearItem_0, k_X0_hearItem_1, k_X0_hearItem_32, k_X0_hearItem_33, k_X0_hearItem_34, k_X0_hearItem_37, k_X0_hearItem_38, k_X0_hearItem_41, k_X0_hearItem_44, k_X0_hearItem_46, k_X0_hearItem_49, k_X0_hearItem_50, k_X0_hearItem_53, k_X0_hearItem_54, k_X0_hearItem_55, k_X0_hearItem_56, k_X0_hearItem_57, k_X0_hearItem_60, k_X0_hearItem_61, k_X0_hearItem_64, k_X0_hearItem_66, k_X0_hearItem_69, k_X0_hearItem_70, k_X0_hearItem_73, k_X0_hearItem_74, k_X0_hearItem_75, k_X0_hearItem_76, k_X0_hearItem_77, k_X0_hearItem_80, k_X0_hearItem_81, k_X0_hearItem_84, k_X0_hearItem_85, k_X0_hearItem_86, k_X0_hearItem_87, k_X0_hearItem_90, k_X0_hearItem_91, k_X0_hearItem_92, k_X0_hearItem_93, wp1, wp_s, cutIn, kont, Nat.reduceSub, Nat.reduceAdd, nth, o_const, o_lconst, o_ref, o_iload, o_lload, o_aload, o_istore, o_lstore, o_astore, o_iinc, o_bin, o_div, o_un, o_lbin, o_lsh, o_lcmp, o_i2l, o_l2i, o_if, o_icmp, o_goto, o_dup, o_dup2, o_pop, fav, o_getf, o_putI, o_putZ, o_putL, o_ald, o_ast, o_alen, popn, rst, o_callV, o_callT, o_callS, swx, o_sw, o_ret, o_iret, o_zret, o_cret, o_lret, o_aret, lg, lput, lput2, ls1, isL, entL, wsum, rdI1, rdI2, rdA1, rdA21, rdA22, rdL1, rdL22, rdL21, upN_at, rep, sh_0, F_0_0, F_0_1, F_0_2, F_0_3, F_0_4, F_0_5, F_0_6, F_0_7, F_0_8, sh_1, F_1_0, F_1_1, F_1_2, F_1_3, F_1_4, F_1_5, sh_3, F_3_0, F_3_1, F_3_2, F_3_3, F_3_4, F_3_5, sh_5, F_5_0, F_5_1, F_5_2, F_5_3, F_5_4, F_5_5, F_5_6, F_5_7, F_5_8, sh_12, F_12_0, F_12_1, F_12_2, F_12_3, F_12_4, F_12_5, sh_14, F_14_0, F_14_1, F_14_2, F_14_3, F_14_4, F_14_5, F_14_6, F_14_7, F_14_8, sh_21, F_21_0, F_21_1, F_21_2, F_21_3, F_21_4, F_21_5, F_21_6, F_21_7, F_21_8, sh_28, F_28_0, F_28_1, F_28_2, F_28_3, F_28_4, F_28_5, F_28_6, F_28_7, F_28_8, sh_35, F_35_0, sh_39, F_39_0, F_39_1, F_39_2, F_39_3, F_39_4, F_39_5, F_39_6, F_39_7, F_39_8, F_39_9, F_39_10, F_39_11, F_39_12, F_39_13, A_2, A_4, A_6, A_7, A_8, A_9, A_10, A_11, A_13, A_15, A_16, A_17, A_18, A_19, A_20, A_22, A_23, A_24, A_25, A_26, A_27, A_29, A_30, A_31, A_32, A_33, A_34, A_36, A_37, A_38, A_40, A_41, A_42, A_43, A_44, A_45, A_46, A_47]
    exact ⟨Or.inr rfl, h7b e z⟩
set_option maxRecDepth 100000 in
theorem v_X0_hearKeyRow : ∀ as M post, S_X0_hearKeyRow as M post → wsum as ≤ 2 ∧ RUN (T_X0_hearKeyRow post) 0 (entL 2 as) [] M := by
  rintro as M post ⟨v, n, rfl, hn, hn8, ha, hb⟩
  refine ⟨Nat.le_refl 2, run_wp 40 ?_⟩
  dsimp only [k_X0_hearKeyRow_0, k_X0_hearKeyRow_1, k_X0_hearKeyRow_2, k_X0_hearKeyRow_5, k_X0_hearKeyRow_6, k_X0_hearKeyRow_9, k_X0_hearKeyRow_10, k_X0_hearKeyRow_13, wp1, wp_s, cutIn, kont, Nat.reduceSub, Nat.reduceAdd, nth, o_const, o_lconst, o_ref, o_iload, o_lload, o_aload, o_istore, o_lstore, o_astore, o_iinc, o_bin, o_div, o_un, o_lbin, o_lsh, o_lcmp, o_i2l, o_l2i, o_if, o_icmp, o_goto, o_dup, o_dup2, o_pop, fav, o_getf, o_putI, o_putZ, o_putL, o_ald, o_ast, o_alen, popn, rst, o_callV, o_callT, o_callS, swx, o_sw, o_ret, o_iret, o_zret, o_cret, o_lret, o_aret, lg, lput, lput2, ls1, isL, entL, wsum, rdI1, rdI2, rdA1, rdA21, rdA22, rdL1, rdL22, rdL21, upN_at, rep, sh_0, F_0_0, F_0_1, F_0_2, F_0_3, F_0_4, F_0_5, F_0_6, F_0_7, F_0_8, sh_1, F_1_0, F_1_1, F_1_2, F_1_3, F_1_4, F_1_5, sh_3, F_3_0, F_3_1, F_3_2, F_3_3, F_3_4, F_3_5, sh_5, F_5_0, F_5_1, F_5_2, F_5_3, F_5_4, F_5_5, F_5_6, F_5_7, F_5_8, sh_12, F_12_0, F_12_1, F_12_2, F_12_3, F_12_4, F_12_5, sh_14, F_14_0, F_14_1, F_14_2, F_14_3, F_14_4, F_14_5, F_14_6, F_14_7, F_14_8, sh_21, F_21_0, F_21_1, F_21_2, F_21_3, F_21_4, F_21_5, F_21_6, F_21_7, F_21_8, sh_28, F_28_0, F_28_1, F_28_2, F_28_3, F_28_4, F_28_5, F_28_6, F_28_7, F_28_8, sh_35, F_35_0, sh_39, F_39_0, F_39_1, F_39_2, F_39_3, F_39_4, F_39_5, F_39_6, F_39_7, F_39_8, F_39_9, F_39_10, F_39_11, F_39_12, F_39_13, A_2, A_4, A_6, A_7, A_8, A_9, A_10, A_11, A_13, A_15, A_16, A_17, A_18, A_19, A_20, A_22, A_23, A_24, A_25, A_26, A_27, A_29, A_30, A_31, A_32, A_33, A_34, A_36, A_37, A_38, A_40, A_41, A_42, A_43, A_44, A_45, A_46, A_47]
  refine ⟨14, v, rfl, Or.inr ⟨rfl, n, hn, hn8, fun z => ?_, fun z => ?_⟩⟩
  · dsimp only [k_X0_hearKeyRow_0, k_X0_hearKeyRow_1, k_X0_hearKeyRow_2, k_X0_hearKeyRow_5, k_X0_hearKeyRow_6, k_X0_hearKeyRow_9, k_X0_hearKeyRow_10, k_X0_hearKeyRow_13, wp1, wp_s, cutIn, kont, Nat.reduceSub, Nat.reduceAdd, nth, o_const, o_lconst, o_ref, o_iload, o_lload, o_aload, o_istore, o_lstore, o_astore, o_iinc, o_bin, o_div, o_un, o_lbin, o_lsh, o_lcmp, o_i2l, o_l2i, o_if, o_icmp, o_goto, o_dup, o_dup2, o_pop, fav, o_getf, o_putI, o_putZ, o_putL, o_ald, o_ast, o_alen, popn, rst, o_callV, o_callT, o_callS, swx, o_sw, o_ret, o_iret, o_zret, o_cret, o_lret, o_aret, lg, lput, lput2, ls1, isL, entL, wsum, rdI1, rdI2, rdA1, rdA21, rdA22, rdL1, rdL22, rdL21, upN_at, rep, sh_0, F_0_0, F_0_1, F_0_2, F_0_3, F_0_4, F_0_5, F_0_6, F_0_7, F_0_8, sh_1, F_1_0, F_1_1, F_1_2, F_1_3, F_1_4, F_1_5, sh_3, F_3_0, F_3_1, F_3_2, F_3_3, F_3_4, F_3_5, sh_5, F_5_0, F_5_1, F_5_2, F_5_3, F_5_4, F_5_5, F_5_6, F_5_7, F_5_8, sh_12, F_12_0, F_12_1, F_12_2, F_12_3, F_12_4, F_12_5, sh_14, F_14_0, F_14_1, F_14_2, F_14_3, F_14_4, F_14_5, F_14_6, F_14_7, F_14_8, sh_21, F_21_0, F_21_1, F_21_2, F_21_3, F_21_4, F_21_5, F_21_6, F_21_7, F_21_8, sh_28, F_28_0, F_28_1, F_28_2, F_28_3, F_28_4, F_28_5, F_28_6, F_28_7, F_28_8, sh_35, F_35_0, sh_39, F_39_0, F_39_1, F_39_2, F_39_3, F_39_4, F_39_5, F_39_6, F_39_7, F_39_8, F_39_9, F_39_10, F_39_11, F_39_12, F_39_13, A_2, A_4, A_6, A_7, A_8, A_9, A_10, A_11, A_13, A_15, A_16, A_17, A_18, A_19, A_20, A_22, A_23, A_24, A_25, A_26, A_27, A_29, A_30, A_31, A_32, A_33, A_34, A_36, A_37, A_38, A_40, A_41, A_42, A_43, A_44, A_45, A_46, A_47]
    exact ⟨Or.inl rfl, ha z⟩
  · dsimp only [k_X0_hearKeyRow_0, k_X0_hearKeyRow_1, k_X0_hearKeyRow_2, k_X0_hearKeyRow_5, k_X0_hearKeyRow_6, k_X0_hearKeyRow_9, k_X0_hearKeyRow_10, k_X0_hearKeyRow_13, wp1, wp_s, cutIn, kont, Nat.reduceSub, Nat.reduceAdd, nth, o_const, o_lconst, o_ref, o_iload, o_lload, o_aload, o_istore, o_lstore, o_astore, o_iinc, o_bin, o_div, o_un, o_lbin, o_lsh, o_lcmp, o_i2l, o_l2i, o_if, o_icmp, o_goto, o_dup, o_dup2, o_pop, fav, o_getf, o_putI, o_putZ, o_putL, o_ald, o_ast, o_alen, popn, rst, o_callV, o_callT, o_callS, swx, o_sw, o_ret, o_iret, o_zret, o_cret, o_lret, o_aret, lg, lput, lput2, ls1, isL, entL, wsum, rdI1, rdI2, rdA1, rdA21, rdA22, rdL1, rdL22, rdL21, upN_at, rep, sh_0, F_0_0, F_0_1, F_0_2, F_0_3, F_0_4, F_0_5, F_0_6, F_0_7, F_0_8, sh_1, F_1_0, F_1_1, F_1_2, F_1_3, F_1_4, F_1_5, sh_3, F_3_0, F_3_1, F_3_2, F_3_3, F_3_4, F_3_5, sh_5, F_5_0, F_5_1, F_5_2, F_5_3, F_5_4, F_5_5, F_5_6, F_5_7, F_5_8, sh_12, F_12_0, F_12_1, F_12_2, F_12_3, F_12_4, F_12_5, sh_14, F_14_0, F_14_1, F_14_2, F_14_3, F_14_4, F_14_5, F_14_6, F_14_7, F_14_8, sh_21, F_21_0, F_21_1, F_21_2, F_21_3, F_21_4, F_21_5, F_21_6, F_21_7, F_21_8, sh_28, F_28_0, F_28_1, F_28_2, F_28_3, F_28_4, F_28_5, F_28_6, F_28_7, F_28_8, sh_35, F_35_0, sh_39, F_39_0, F_39_1, F_39_2, F_39_3, F_39_4, F_39_5, F_39_6, F_39_7, F_39_8, F_39_9, F_39_10, F_39_11, F_39_12, F_39_13, A_2, A_4, A_6, A_7, A_8, A_9, A_10, A_11, A_13, A_15, A_16, A_17, A_18, A_19, A_20, A_22, A_23, A_24, A_25, A_26, A_27, A_29, A_30, A_31, A_32, A_33, A_34, A_36, A_37, A_38, A_40, A_41, A_42, A_43, A_44, A_45, A_46, A_47]
    exact ⟨Or.inr rfl, hb z⟩
set_option maxRecDepth 100000 in
theorem v_X0_hearLockRow : ∀ as M post, S_X0_hearLockRow as M post → wsum as ≤ 2 ∧ RUN (T_X0_hearLockRow post) 0 (entL 2 as) [] M := by
  rintro as M post ⟨v, c, rfl, hc, hc6, ha, hb⟩
  refine ⟨Nat.le_refl 2, run_wp 60 ?_⟩
  dsimp only [k_X0_hearLockRow_0, k_X0_hearLockRow_1, k_X0_hearLockRow_2, k_X0_hearLockRow_5, k_X0_hearLockRow_6, k_X0_hearLockRow_9, k_X0_hearLockRow_12, k_X0_hearLockRow_13, k_X0_hearLockRow_16, k_X0_hearLockRow_18, k_X0_hearLockRow_21, k_X0_hearLockRow_22, k_X0_hearLockRow_23, k_X0_hearLockRow_24, k_X0_hearLockRow_27, k_X0_hearLockRow_28, k_X0_hearLockRow_31, k_X0_hearLockRow_32, k_X0_hearLockRow_33, k_X0_hearLockRow_34, k_X0_hearLockRow_35, k_X0_hearLockRow_38, k_X0_hearLockRow_39, k_X0_hearLockRow_40, k_X0_hearLockRow_43, k_X0_hearLockRow_44, wp1, wp_s, cutIn, kont, Nat.reduceSub, Nat.reduceAdd, nth, o_const, o_lconst, o_ref, o_iload, o_lload, o_aload, o_istore, o_lstore, o_astore, o_iinc, o_bin, o_div, o_un, o_lbin, o_lsh, o_lcmp, o_i2l, o_l2i, o_if, o_icmp, o_goto, o_dup, o_dup2, o_pop, fav, o_getf, o_putI, o_putZ, o_putL, o_ald, o_ast, o_alen, popn, rst, o_callV, o_callT, o_callS, swx, o_sw, o_ret, o_iret, o_zret, o_cret, o_lret, o_aret, lg, lput, lput2, ls1, isL, entL, wsum, rdI1, rdI2, rdA1, rdA21, rdA22, rdL1, rdL22, rdL21, upN_at, rep, sh_0, F_0_0, F_0_1, F_0_2, F_0_3, F_0_4, F_0_5, F_0_6, F_0_7, F_0_8, sh_1, F_1_0, F_1_1, F_1_2, F_1_3, F_1_4, F_1_5, sh_3, F_3_0, F_3_1, F_3_2, F_3_3, F_3_4, F_3_5, sh_5, F_5_0, F_5_1, F_5_2, F_5_3, F_5_4, F_5_5, F_5_6, F_5_7, F_5_8, sh_12, F_12_0, F_12_1, F_12_2, F_12_3, F_12_4, F_12_5, sh_14, F_14_0, F_14_1, F_14_2, F_14_3, F_14_4, F_14_5, F_14_6, F_14_7, F_14_8, sh_21, F_21_0, F_21_1, F_21_2, F_21_3, F_21_4, F_21_5, F_21_6, F_21_7, F_21_8, sh_28, F_28_0, F_28_1, F_28_2, F_28_3, F_28_4, F_28_5, F_28_6, F_28_7, F_28_8, sh_35, F_35_0, sh_39, F_39_0, F_39_1, F_39_2, F_39_3, F_39_4, F_39_5, F_39_6, F_39_7, F_39_8, F_39_9, F_39_10, F_39_11, F_39_12, F_39_13, A_2, A_4, A_6, A_7, A_8, A_9, A_10, A_11, A_13, A_15, A_16, A_17, A_18, A_19, A_20, A_22, A_23, A_24, A_25, A_26, A_27, A_29, A_30, A_31, A_32, A_33, A_34, A_36, A_37, A_38, A_40, A_41, A_42, A_43, A_44, A_45, A_46, A_47]
  rw [hc, show (6 : Int32) = nI 6 from rfl]
  simp (disch := omega) only [nI_leI, nI_ltI, nI_eq, nI_1, nI_add, one_shl, nI_or, nI_xor, nI_and, bit_0, bit_1, true_or, or_true, true_and, and_true, eq_self, not_true_eq_false, not_false_eq_true, forall_const]
  exact ⟨fun z => absurd z (nI_pos (by omega)), fun _ => ⟨fun z => ⟨c, z, rfl, hb z⟩, fun z => ha (by omega)⟩⟩
set_option maxRecDepth 100000 in
theorem v_X0_hearHolder : ∀ as M post, S_X0_hearHolder as M post → wsum as ≤ 2 ∧ RUN (T_X0_hearHolder post) 0 (entL 2 as) [] M := by
  rintro as M post ⟨v, rfl, h⟩
  refine ⟨Nat.le_refl 2, run_wp 60 ?_⟩
  dsimp only [k_X0_hearHolder_0, k_X0_hearHolder_1, k_X0_hearHolder_2, k_X0_hearHolder_5, k_X0_hearHolder_6, k_X0_hearHolder_7, k_X0_hearHolder_10, k_X0_hearHolder_11, k_X0_hearHolder_12, k_X0_hearHolder_15, wp1, wp_s, cutIn, kont, Nat.reduceSub, Nat.reduceAdd, nth, o_const, o_lconst, o_ref, o_iload, o_lload, o_aload, o_istore, o_lstore, o_astore, o_iinc, o_bin, o_div, o_un, o_lbin, o_lsh, o_lcmp, o_i2l, o_l2i, o_if, o_icmp, o_goto, o_dup, o_dup2, o_pop, fav, o_getf, o_putI, o_putZ, o_putL, o_ald, o_ast, o_alen, popn, rst, o_callV, o_callT, o_callS, swx, o_sw, o_ret, o_iret, o_zret, o_cret, o_lret, o_aret, lg, lput, lput2, ls1, isL, entL, wsum, rdI1, rdI2, rdA1, rdA21, rdA22, rdL1, rdL22, rdL21, upN_at, rep, sh_0, F_0_0, F_0_1, F_0_2, F_0_3, F_0_4, F_0_5, F_0_6, F_0_7, F_0_8, sh_1, F_1_0, F_1_1, F_1_2, F_1_3, F_1_4, F_1_5, sh_3, F_3_0, F_3_1, F_3_2, F_3_3, F_3_4, F_3_5, sh_5, F_5_0, F_5_1, F_5_2, F_5_3, F_5_4, F_5_5, F_5_6, F_5_7, F_5_8, sh_12, F_12_0, F_12_1, F_12_2, F_12_3, F_12_4, F_12_5, sh_14, F_14_0, F_14_1, F_14_2, F_14_3, F_14_4, F_14_5, F_14_6, F_14_7, F_14_8, sh_21, F_21_0, F_21_1, F_21_2, F_21_3, F_21_4, F_21_5, F_21_6, F_21_7, F_21_8, sh_28, F_28_0, F_28_1, F_28_2, F_28_3, F_28_4, F_28_5, F_28_6, F_28_7, F_28_8, sh_35, F_35_0, sh_39, F_39_0, F_39_1, F_39_2, F_39_3, F_39_4, F_39_5, F_39_6, F_39_7, F_39_8, F_39_9, F_39_10, F_39_11, F_39_12, F_39_13, A_2, A_4, A_6, A_7, A_8, A_9, A_10, A_11, A_13, A_15, A_16, A_17, A_18, A_19, A_20, A_22, A_23, A_24, A_25, A_26, A_27, A_29, A_30, A_31, A_32, A_33, A_34, A_36, A_37, A_38, A_40, A_41, A_42, A_43, A_44, A_45, A_46, A_47]
  refine ⟨12, v, rfl, Or.inr ⟨rfl, fun z => ?_, fun z => ?_⟩⟩
  · dsimp only [k_X0_hearHolder_0, k_X0_hearHolder_1, k_X0_hearHolder_2, k_X0_hearHolder_5, k_X0_hearHolder_6, k_X0_hearHolder_7, k_X0_hearHolder_10, k_X0_hearHolder_11, k_X0_hearHolder_12, k_X0_hearHolder_15, wp1, wp_s, cutIn, kont, Nat.reduceSub, Nat.reduceAdd, nth, o_const, o_lconst, o_ref, o_iload, o_lload, o_aload, o_istore, o_lstore, o_astore, o_iinc, o_bin, o_div, o_un, o_lbin, o_lsh, o_lcmp, o_i2l, o_l2i, o_if, o_icmp, o_goto, o_dup, o_dup2, o_pop, fav, o_getf, o_putI, o_putZ, o_putL, o_ald, o_ast, o_alen, popn, rst, o_callV, o_callT, o_callS, swx, o_sw, o_ret, o_iret, o_zret, o_cret, o_lret, o_aret, lg, lput, lput2, ls1, isL, entL, wsum, rdI1, rdI2, rdA1, rdA21, rdA22, rdL1, rdL22, rdL21, upN_at, rep, sh_0, F_0_0, F_0_1, F_0_2, F_0_3, F_0_4, F_0_5, F_0_6, F_0_7, F_0_8, sh_1, F_1_0, F_1_1, F_1_2, F_1_3, F_1_4, F_1_5, sh_3, F_3_0, F_3_1, F_3_2, F_3_3, F_3_4, F_3_5, sh_5, F_5_0, F_5_1, F_5_2, F_5_3, F_5_4, F_5_5, F_5_6, F_5_7, F_5_8, sh_12, F_12_0, F_12_1, F_12_2, F_12_3, F_12_4, F_12_5, sh_14, F_14_0, F_14_1, F_14_2, F_14_3, F_14_4, F_14_5, F_14_6, F_14_7, F_14_8, sh_21, F_21_0, F_21_1, F_21_2, F_21_3, F_21_4, F_21_5, F_21_6, F_21_7, F_21_8, sh_28, F_28_0, F_28_1, F_28_2, F_28_3, F_28_4, F_28_5, F_28_6, F_28_7, F_28_8, sh_35, F_35_0, sh_39, F_39_0, F_39_1, F_39_2, F_39_3, F_39_4, F_39_5, F_39_6, F_39_7, F_39_8, F_39_9, F_39_10, F_39_11, F_39_12, F_39_13, A_2, A_4, A_6, A_7, A_8, A_9, A_10, A_11, A_13, A_15, A_16, A_17, A_18, A_19, A_20, A_22, A_23, A_24, A_25, A_26, A_27, A_29, A_30, A_31, A_32, A_33, A_34, A_36, A_37, A_38, A_40, A_41, A_42, A_43, A_44, A_45, A_46, A_47]
    exact ⟨Or.inr rfl, h.1 z⟩
  · dsimp only [k_X0_hearHolder_0, k_X0_hearHolder_1, k_X0_hearHolder_2, k_X0_hearHolder_5, k_X0_hearHolder_6, k_X0_hearHolder_7, k_X0_hearHolder_10, k_X0_hearHolder_11, k_X0_hearHolder_12, k_X0_hearHolder_15, wp1, wp_s, cutIn, kont, Nat.reduceSub, Nat.reduceAdd, nth, o_const, o_lconst, o_ref, o_iload, o_lload, o_aload, o_istore, o_lstore, o_astore, o_iinc, o_bin, o_div, o_un, o_lbin, o_lsh, o_lcmp, o_i2l, o_l2i, o_if, o_icmp, o_goto, o_dup, o_dup2, o_pop, fav, o_getf, o_putI, o_putZ, o_putL, o_ald, o_ast, o_alen, popn, rst, o_callV, o_callT, o_callS, swx, o_sw, o_ret, o_iret, o_zret, o_cret, o_lret, o_aret, lg, lput, lput2, ls1, isL, entL, wsum, rdI1, rdI2, rdA1, rdA21, rdA22, rdL1, rdL22, rdL21, upN_at, rep, sh_0, F_0_0, F_0_1, F_0_2, F_0_3, F_0_4, F_0_5, F_0_6, F_0_7, F_0_8, sh_1, F_1_0, F_1_1, F_1_2, F_1_3, F_1_4, F_1_5, sh_3, F_3_0, F_3_1, F_3_2, F_3_3, F_3_4, F_3_5, sh_5, F_5_0, F_5_1, F_5_2, F_5_3, F_5_4, F_5_5, F_5_6, F_5_7, F_5_8, sh_12, F_12_0, F_12_1, F_12_2, F_12_3, F_12_4, F_12_5, sh_14, F_14_0, F_14_1, F_14_2, F_14_3, F_14_4, F_14_5, F_14_6, F_14_7, F_14_8, sh_21, F_21_0, F_21_1, F_21_2, F_21_3, F_21_4, F_21_5, F_21_6, F_21_7, F_21_8, sh_28, F_28_0, F_28_1, F_28_2, F_28_3, F_28_4, F_28_5, F_28_6, F_28_7, F_28_8, sh_35, F_35_0, sh_39, F_39_0, F_39_1, F_39_2, F_39_3, F_39_4, F_39_5, F_39_6, F_39_7, F_39_8, F_39_9, F_39_10, F_39_11, F_39_12, F_39_13, A_2, A_4, A_6, A_7, A_8, A_9, A_10, A_11, A_13, A_15, A_16, A_17, A_18, A_19, A_20, A_22, A_23, A_24, A_25, A_26, A_27, A_29, A_30, A_31, A_32, A_33, A_34, A_36, A_37, A_38, A_40, A_41, A_42, A_43, A_44, A_45, A_46, A_47]
    exact ⟨Or.inl rfl, h.2 z⟩
set_option maxRecDepth 100000 in
theorem v_X0_hearHeld : ∀ as M post, S_X0_hearHeld as M post → wsum as ≤ 2 ∧ RUN (T_X0_hearHeld post) 0 (entL 2 as) [] M := by
  rintro as M post ⟨k, n, rfl, hk, hn, hn8, ha, hb⟩
  refine ⟨Nat.le_refl 2, run_wp 60 ?_⟩
  dsimp only [k_X0_hearHeld_0, k_X0_hearHeld_1, k_X0_hearHeld_2, k_X0_hearHeld_5, k_X0_hearHeld_6, k_X0_hearHeld_9, k_X0_hearHeld_10, k_X0_hearHeld_13, k_X0_hearHeld_16, k_X0_hearHeld_17, k_X0_hearHeld_20, k_X0_hearHeld_23, k_X0_hearHeld_24, k_X0_hearHeld_25, k_X0_hearHeld_27, k_X0_hearHeld_30, k_X0_hearHeld_31, k_X0_hearHeld_32, k_X0_hearHeld_33, k_X0_hearHeld_36, k_X0_hearHeld_39, k_X0_hearHeld_40, k_X0_hearHeld_41, k_X0_hearHeld_44, k_X0_hearHeld_45, k_X0_hearHeld_46, wp1, wp_s, cutIn, kont, Nat.reduceSub, Nat.reduceAdd, nth, o_const, o_lconst, o_ref, o_iload, o_lload, o_aload, o_istore, o_lstore, o_astore, o_iinc, o_bin, o_div, o_un, o_lbin, o_lsh, o_lcmp, o_i2l, o_l2i, o_if, o_icmp, o_goto, o_dup, o_dup2, o_pop, fav, o_getf, o_putI, o_putZ, o_putL, o_ald, o_ast, o_alen, popn, rst, o_callV, o_callT, o_callS, swx, o_sw, o_ret, o_iret, o_zret, o_cret, o_lret, o_aret, lg, lput, lput2, ls1, isL, entL, wsum, rdI1, rdI2, rdA1, rdA21, rdA22, rdL1, rdL22, rdL21, upN_at, rep, sh_0, F_0_0, F_0_1, F_0_2, F_0_3, F_0_4, F_0_5, F_0_6, F_0_7, F_0_8, sh_1, F_1_0, F_1_1, F_1_2, F_1_3, F_1_4, F_1_5, sh_3, F_3_0, F_3_1, F_3_2, F_3_3, F_3_4, F_3_5, sh_5, F_5_0, F_5_1, F_5_2, F_5_3, F_5_4, F_5_5, F_5_6, F_5_7, F_5_8, sh_12, F_12_0, F_12_1, F_12_2, F_12_3, F_12_4, F_12_5, sh_14, F_14_0, F_14_1, F_14_2, F_14_3, F_14_4, F_14_5, F_14_6, F_14_7, F_14_8, sh_21, F_21_0, F_21_1, F_21_2, F_21_3, F_21_4, F_21_5, F_21_6, F_21_7, F_21_8, sh_28, F_28_0, F_28_1, F_28_2, F_28_3, F_28_4, F_28_5, F_28_6, F_28_7, F_28_8, sh_35, F_35_0, sh_39, F_39_0, F_39_1, F_39_2, F_39_3, F_39_4, F_39_5, F_39_6, F_39_7, F_39_8, F_39_9, F_39_10, F_39_11, F_39_12, F_39_13, A_2, A_4, A_6, A_7, A_8, A_9, A_10, A_11, A_13, A_15, A_16, A_17, A_18, A_19, A_20, A_22, A_23, A_24, A_25, A_26, A_27, A_29, A_30, A_31, A_32, A_33, A_34, A_36, A_37, A_38, A_40, A_41, A_42, A_43, A_44, A_45, A_46, A_47]
  have hq : (0 ≤ nI k ∧ nI k < M.1 16) ↔ k < n := by
    rw [hn, nI_ltI (by omega) (by omega)]
    exact ⟨fun z => z.2, fun z => ⟨nI_pos' (by omega), z⟩⟩
  refine ⟨14, nI k, rfl, Or.inr ⟨rfl, fun z => ?_, fun z => ?_⟩⟩
  · have z := hq.mp z
    dsimp only [k_X0_hearHeld_0, k_X0_hearHeld_1, k_X0_hearHeld_2, k_X0_hearHeld_5, k_X0_hearHeld_6, k_X0_hearHeld_9, k_X0_hearHeld_10, k_X0_hearHeld_13, k_X0_hearHeld_16, k_X0_hearHeld_17, k_X0_hearHeld_20, k_X0_hearHeld_23, k_X0_hearHeld_24, k_X0_hearHeld_25, k_X0_hearHeld_27, k_X0_hearHeld_30, k_X0_hearHeld_31, k_X0_hearHeld_32, k_X0_hearHeld_33, k_X0_hearHeld_36, k_X0_hearHeld_39, k_X0_hearHeld_40, k_X0_hearHeld_41, k_X0_hearHeld_44, k_X0_hearHeld_45, k_X0_hearHeld_46, wp1, wp_s, cutIn, kont, Nat.reduceSub, Nat.reduceAdd, nth, o_const, o_lconst, o_ref, o_iload, o_lload, o_aload, o_istore, o_lstore, o_astore, o_iinc, o_bin, o_div, o_un, o_lbin, o_lsh, o_lcmp, o_i2l, o_l2i, o_if, o_icmp, o_goto, o_dup, o_dup2, o_pop, fav, o_getf, o_putI, o_putZ, o_putL, o_ald, o_ast, o_alen, popn, rst, o_callV, o_callT, o_callS, swx, o_sw, o_ret, o_iret, o_zret, o_cret, o_lret, o_aret, lg, lput, lput2, ls1, isL, entL, wsum, rdI1, rdI2, rdA1, rdA21, rdA22, rdL1, rdL22, rdL21, upN_at, rep, sh_0, F_0_0, F_0_1, F_0_2, F_0_3, F_0_4, F_0_5, F_0_6, F_0_7, F_0_8, sh_1, F_1_0, F_1_1, F_1_2, F_1_3, F_1_4, F_1_5, sh_3, F_3_0, F_3_1, F_3_2, F_3_3, F_3_4, F_3_5, sh_5, F_5_0, F_5_1, F_5_2, F_5_3, F_5_4, F_5_5, F_5_6, F_5_7, F_5_8, sh_12, F_12_0, F_12_1, F_12_2, F_12_3, F_12_4, F_12_5, sh_14, F_14_0, F_14_1, F_14_2, F_14_3, F_14_4, F_14_5, F_14_6, F_14_7, F_14_8, sh_21, F_21_0, F_21_1, F_21_2, F_21_3, F_21_4, F_21_5, F_21_6, F_21_7, F_21_8, sh_28, F_28_0, F_28_1, F_28_2, F_28_3, F_28_4, F_28_5, F_28_6, F_28_7, F_28_8, sh_35, F_35_0, sh_39, F_39_0, F_39_1, F_39_2, F_39_3, F_39_4, F_39_5, F_39_6, F_39_7, F_39_8, F_39_9, F_39_10, F_39_11, F_39_12, F_39_13, A_2, A_4, A_6, A_7, A_8, A_9, A_10, A_11, A_13, A_15, A_16, A_17, A_18, A_19, A_20, A_22, A_23, A_24, A_25, A_26, A_27, A_29, A_30, A_31, A_32, A_33, A_34, A_36, A_37, A_38, A_40, A_41, A_42, A_43, A_44, A_45, A_46, A_47]
    exact ⟨fun q => absurd q (by decide), fun _ => ⟨k, by omega, rfl, fun q => ⟨k, by omega, rfl, Or.inr rfl, ha z q⟩, fun q => ⟨Or.inl rfl, hb fun q2 => q q2.2⟩⟩⟩
  · dsimp only [k_X0_hearHeld_0, k_X0_hearHeld_1, k_X0_hearHeld_2, k_X0_hearHeld_5, k_X0_hearHeld_6, k_X0_hearHeld_9, k_X0_hearHeld_10, k_X0_hearHeld_13, k_X0_hearHeld_16, k_X0_hearHeld_17, k_X0_hearHeld_20, k_X0_hearHeld_23, k_X0_hearHeld_24, k_X0_hearHeld_25, k_X0_hearHeld_27, k_X0_hearHeld_30, k_X0_hearHeld_31, k_X0_hearHeld_32, k_X0_hearHeld_33, k_X0_hearHeld_36, k_X0_hearHeld_39, k_X0_hearHeld_40, k_X0_hearHeld_41, k_X0_hearHeld_44, k_X0_hearHeld_45, k_X0_hearHeld_46, wp1, wp_s, cutIn, kont, Nat.reduceSub, Nat.reduceAdd, nth, o_const, o_lconst, o_ref, o_iload, o_lload, o_aload, o_istore, o_lstore, o_astore, o_iinc, o_bin, o_div, o_un, o_lbin, o_lsh, o_lcmp, o_i2l, o_l2i, o_if, o_icmp, o_goto, o_dup, o_dup2, o_pop, fav, o_getf, o_putI, o_putZ, o_putL, o_ald, o_ast, o_alen, popn, rst, o_callV, o_callT, o_callS, swx, o_sw, o_ret, o_iret, o_zret, o_cret, o_lret, o_aret, lg, lput, lput2, ls1, isL, entL, wsum, rdI1, rdI2, rdA1, rdA21, rdA22, rdL1, rdL22, rdL21, upN_at, rep, sh_0, F_0_0, F_0_1, F_0_2, F_0_3, F_0_4, F_0_5, F_0_6, F_0_7, F_0_8, sh_1, F_1_0, F_1_1, F_1_2, F_1_3, F_1_4, F_1_5, sh_3, F_3_0, F_3_1, F_3_2, F_3_3, F_3_4, F_3_5, sh_5, F_5_0, F_5_1, F_5_2, F_5_3, F_5_4, F_5_5, F_5_6, F_5_7, F_5_8, sh_12, F_12_0, F_12_1, F_12_2, F_12_3, F_12_4, F_12_5, sh_14, F_14_0, F_14_1, F_14_2, F_14_3, F_14_4, F_14_5, F_14_6, F_14_7, F_14_8, sh_21, F_21_0, F_21_1, F_21_2, F_21_3, F_21_4, F_21_5, F_21_6, F_21_7, F_21_8, sh_28, F_28_0, F_28_1, F_28_2, F_28_3, F_28_4, F_28_5, F_28_6, F_28_7, F_28_8, sh_35, F_35_0, sh_39, F_39_0, F_39_1, F_39_2, F_39_3, F_39_4, F_39_5, F_39_6, F_39_7, F_39_8, F_39_9, F_39_10, F_39_11, F_39_12, F_39_13, A_2, A_4, A_6, A_7, A_8, A_9, A_10, A_11, A_13, A_15, A_16, A_17, A_18, A_19, A_20, A_22, A_23, A_24, A_25, A_26, A_27, A_29, A_30, A_31, A_32, A_33, A_34, A_36, A_37, A_38, A_40, A_41, A_42, A_43, A_44, A_45, A_46, A_47]
    exact ⟨fun _ => ⟨Or.inl rfl, hb fun q2 => z (hq.mpr q2.1)⟩, fun q => absurd rfl q⟩
theorem c_X0_hearItem : Ctr yX0_hearItem cX0_hearItem 2 (some .boolean) ({ frames := 1, cells := 0, slots := 0, locals := 20 } : Room) S_X0_hearItem := ctr_of (T := T_X0_hearItem) (by decide +kernel) (fun post C hr => t_X0_hearItem post C hr) v_X0_hearItem
theorem c_X0_hearKeyRow : Ctr yX0_hearKeyRow cX0_hearKeyRow 2 (some .boolean) ({ frames := 1, cells := 0, slots := 0, locals := 21 } : Room) S_X0_hearKeyRow := ctr_of (T := T_X0_hearKeyRow) (by decide +kernel) (fun post C hr => t_X0_hearKeyRow post C hr) v_X0_hearKeyRow
theorem c_X0_hearLockRow : Ctr yX0_hearLockRow cX0_hearLockRow 2 (some .boolean) ({ frames := 0, cells := 0, slots := 0, locals := 0 } : Room) S_X0_hearLockRow := ctr_of (T := T_X0_hearLockRow) (by decide +kernel) (fun post C hr => t_X0_hearLockRow post C hr) v_X0_hearLockRow
theorem c_X0_hearHolder : Ctr yX0_hearHolder cX0_hearHolder 2 (some .boolean) ({ frames := 1, cells := 0, slots := 0, locals := 21 } : Room) S_X0_hearHolder := ctr_of (T := T_X0_hearHolder) (by decide +kernel) (fun post C hr => t_X0_hearHolder post C hr) v_X0_hearHolder
theorem c_X0_hearHeld : Ctr yX0_hearHeld cX0_hearHeld 2 (some .boolean) ({ frames := 1, cells := 0, slots := 0, locals := 21 } : Room) S_X0_hearHeld := ctr_of (T := T_X0_hearHeld) (by decide +kernel) (fun post C hr => t_X0_hearHeld post C hr) v_X0_hearHeld
