/-! The class's face: what a lost key shuts, what a row brings, whom a thief must rob, how far rows are apart. -/
def S_X4_shut : SP := fun as M post => ∃ x n c p r h lk, as = [VR 0, VI x] ∧ XW M n c p r h lk ∧ ((∀ k, x = nI k → k < n → h k = -3) → post (some (VI (-1))) M) ∧ (∀ k, x = nI k → k < n → ¬ h k = -3 → ∀ f, post (some (VI (nI (opn r n lk c (us h n)) &&& (nI (opn r n lk c (us h n ^^^ 2 ^ k)) ^^^ -1)))) (sA 27 f M))
/-- the best, the first of them -/
def bmi (f : Nat → Nat) : Nat → Nat
  | 0 => 0
  | N + 1 => if N = 0 ∨ f (bmi f N) < f N then N else bmi f N
theorem bmi_le (f : Nat → Nat) : ∀ n, bmi f n ≤ n := by
  intro n
  induction n with
  | zero => exact Nat.le_refl 0
  | succ n ih => rw [bmi]; split <;> omega
/-- how many locks a row more opens -/
def brF (r : Nat → Nat) (h : Nat → Int32) (n : Nat) (lk : Nat → Nat) (c row : Nat) : Nat := ct (fun l => rs (fsp r (us h n) n) (lk l) 9 == 0 || rs (fsp r (us h n) n) (lk l) 9 == rs (fsp r (us h n) n) row 9) c
def S_X4_brings : SP := fun as M post => ∃ z n c p r h lk, as = [VR 0, VI z] ∧ XW M n c p r h lk ∧ (¬ (z = 0 ∨ z = 1) → post (some (VI (-1))) M) ∧ (z = 0 → ∀ f g, post (some (VI (nI (bmi (brF r h n lk c) 512)))) (sA 29 g (sA 27 f M))) ∧ (z = 1 → ∀ f g, post (some (VI (nI (brF r h n lk c (bmi (brF r h n lk c) 512))))) (sA 29 g (sA 27 f M)))
theorem dX4_shut_0 : decode cX4_shut 0 = .ok (.aload_n 0, 1) := by decide +kernel
theorem dX4_shut_1 : decode cX4_shut 1 = .ok (.getfield 19, 3) := by decide +kernel
theorem dX4_shut_4 : decode cX4_shut 4 = .ok (.getfield 71, 3) := by decide +kernel
theorem dX4_shut_7 : decode cX4_shut 7 = .ok (.invokevirtual 93, 3) := by decide +kernel
theorem dX4_shut_10 : decode cX4_shut 10 = .ok (.istore_n 2, 1) := by decide +kernel
theorem dX4_shut_11 : decode cX4_shut 11 = .ok (.aload_n 0, 1) := by decide +kernel
theorem dX4_shut_12 : decode cX4_shut 12 = .ok (.getfield 19, 3) := by decide +kernel
theorem dX4_shut_15 : decode cX4_shut 15 = .ok (.getfield 71, 3) := by decide +kernel
theorem dX4_shut_18 : decode cX4_shut 18 = .ok (.iload_n 1, 1) := by decide +kernel
theorem dX4_shut_19 : decode cX4_shut 19 = .ok (.invokevirtual 74, 3) := by decide +kernel
theorem dX4_shut_22 : decode cX4_shut 22 = .ok (.ifCond .eq 20, 3) := by decide +kernel
theorem dX4_shut_25 : decode cX4_shut 25 = .ok (.aload_n 0, 1) := by decide +kernel
theorem dX4_shut_26 : decode cX4_shut 26 = .ok (.getfield 19, 3) := by decide +kernel
theorem dX4_shut_29 : decode cX4_shut 29 = .ok (.getfield 71, 3) := by decide +kernel
theorem dX4_shut_32 : decode cX4_shut 32 = .ok (.getfield 84, 3) := by decide +kernel
theorem dX4_shut_35 : decode cX4_shut 35 = .ok (.iload_n 1, 1) := by decide +kernel
theorem dX4_shut_36 : decode cX4_shut 36 = .ok (.iaload, 1) := by decide +kernel
theorem dX4_shut_37 : decode cX4_shut 37 = .ok (.bipush (-3), 2) := by decide +kernel
theorem dX4_shut_39 : decode cX4_shut 39 = .ok (.if_icmp .ne 5, 3) := by decide +kernel
theorem dX4_shut_42 : decode cX4_shut 42 = .ok (.iconst (-1), 1) := by decide +kernel
theorem dX4_shut_43 : decode cX4_shut 43 = .ok (.ireturn, 1) := by decide +kernel
theorem dX4_shut_44 : decode cX4_shut 44 = .ok (.aload_n 0, 1) := by decide +kernel
theorem dX4_shut_45 : decode cX4_shut 45 = .ok (.iload_n 2, 1) := by decide +kernel
theorem dX4_shut_46 : decode cX4_shut 46 = .ok (.invokevirtual 143, 3) := by decide +kernel
theorem dX4_shut_49 : decode cX4_shut 49 = .ok (.aload_n 0, 1) := by decide +kernel
theorem dX4_shut_50 : decode cX4_shut 50 = .ok (.iload_n 2, 1) := by decide +kernel
theorem dX4_shut_51 : decode cX4_shut 51 = .ok (.iconst 1, 1) := by decide +kernel
theorem dX4_shut_52 : decode cX4_shut 52 = .ok (.iload_n 1, 1) := by decide +kernel
theorem dX4_shut_53 : decode cX4_shut 53 = .ok (.ishl, 1) := by decide +kernel
theorem dX4_shut_54 : decode cX4_shut 54 = .ok (.iconst (-1), 1) := by decide +kernel
theorem dX4_shut_55 : decode cX4_shut 55 = .ok (.ixor, 1) := by decide +kernel
theorem dX4_shut_56 : decode cX4_shut 56 = .ok (.iand, 1) := by decide +kernel
theorem dX4_shut_57 : decode cX4_shut 57 = .ok (.invokevirtual 143, 3) := by decide +kernel
theorem dX4_shut_60 : decode cX4_shut 60 = .ok (.iconst (-1), 1) := by decide +kernel
theorem dX4_shut_61 : decode cX4_shut 61 = .ok (.ixor, 1) := by decide +kernel
theorem dX4_shut_62 : decode cX4_shut 62 = .ok (.iand, 1) := by decide +kernel
theorem dX4_shut_63 : decode cX4_shut 63 = .ok (.ireturn, 1) := by decide +kernel
def T_X4_shut (post : PO) : List (Nat × OP) := [(0, o_aload 0 1), (1, o_getf 4 1 4), (4, o_getf 0 0 7), (7, o_callV 1 S_X1_usable 0 10), (10, o_istore 2 11), (11, o_aload 0 12), (12, o_getf 4 1 15), (15, o_getf 0 0 18), (18, o_iload 1 19), (19, o_callV 1 S_X1_has 1 22), (22, o_if (fun x => x = 0) 42 25), (25, o_aload 0 26), (26, o_getf 4 1 29), (29, o_getf 0 0 32), (32, o_getf 1 1 35), (35, o_iload 1 36), (36, o_ald 0 37), (37, o_const (-3) 39), (39, o_icmp (fun x y => x = y) 42 44), (42, o_const (-1) 43), (43, o_iret post), (44, o_aload 0 45), (45, o_iload 2 46), (46, o_callV 4 S_X4_openedBy 1 49), (49, o_aload 0 50), (50, o_iload 2 51), (51, o_const 1 52), (52, o_iload 1 53), (53, o_bin (fun x y => x <<< (y &&& 31)) 54), (54, o_const (-1) 55), (55, o_bin (fun x y => x ^^^ y) 56), (56, o_bin (fun x y => x &&& y) 57), (57, o_callV 4 S_X4_openedBy 1 60), (60, o_const (-1) 61), (61, o_bin (fun x y => x ^^^ y) 62), (62, o_bin (fun x y => x &&& y) 63), (63, o_iret post)]
theorem k_X4_shut_0 (post : PO) : lk (T_X4_shut post) 0 = o_aload 0 1 := rfl
theorem k_X4_shut_1 (post : PO) : lk (T_X4_shut post) 1 = o_getf 4 1 4 := rfl
theorem k_X4_shut_4 (post : PO) : lk (T_X4_shut post) 4 = o_getf 0 0 7 := rfl
theorem k_X4_shut_7 (post : PO) : lk (T_X4_shut post) 7 = o_callV 1 S_X1_usable 0 10 := rfl
theorem k_X4_shut_10 (post : PO) : lk (T_X4_shut post) 10 = o_istore 2 11 := rfl
theorem k_X4_shut_11 (post : PO) : lk (T_X4_shut post) 11 = o_aload 0 12 := rfl
theorem k_X4_shut_12 (post : PO) : lk (T_X4_shut post) 12 = o_getf 4 1 15 := rfl
theorem k_X4_shut_15 (post : PO) : lk (T_X4_shut post) 15 = o_getf 0 0 18 := rfl
theorem k_X4_shut_18 (post : PO) : lk (T_X4_shut post) 18 = o_iload 1 19 := rfl
theorem k_X4_shut_19 (post : PO) : lk (T_X4_shut post) 19 = o_callV 1 S_X1_has 1 22 := rfl
theorem k_X4_shut_22 (post : PO) : lk (T_X4_shut post) 22 = o_if (fun x => x = 0) 42 25 := rfl
theorem k_X4_shut_25 (post : PO) : lk (T_X4_shut post) 25 = o_aload 0 26 := rfl
theorem k_X4_shut_26 (post : PO) : lk (T_X4_shut post) 26 = o_getf 4 1 29 := rfl
theorem k_X4_shut_29 (post : PO) : lk (T_X4_shut post) 29 = o_getf 0 0 32 := rfl
theorem k_X4_shut_32 (post : PO) : lk (T_X4_shut post) 32 = o_getf 1 1 35 := rfl
theorem k_X4_shut_35 (post : PO) : lk (T_X4_shut post) 35 = o_iload 1 36 := rfl
theorem k_X4_shut_36 (post : PO) : lk (T_X4_shut post) 36 = o_ald 0 37 := rfl
theorem k_X4_shut_37 (post : PO) : lk (T_X4_shut post) 37 = o_const (-3) 39 := rfl
theorem k_X4_shut_39 (post : PO) : lk (T_X4_shut post) 39 = o_icmp (fun x y => x = y) 42 44 := rfl
theorem k_X4_shut_42 (post : PO) : lk (T_X4_shut post) 42 = o_const (-1) 43 := rfl
theorem k_X4_shut_43 (post : PO) : lk (T_X4_shut post) 43 = o_iret post := rfl
theorem k_X4_shut_44 (post : PO) : lk (T_X4_shut post) 44 = o_aload 0 45 := rfl
theorem k_X4_shut_45 (post : PO) : lk (T_X4_shut post) 45 = o_iload 2 46 := rfl
theorem k_X4_shut_46 (post : PO) : lk (T_X4_shut post) 46 = o_callV 4 S_X4_openedBy 1 49 := rfl
theorem k_X4_shut_49 (post : PO) : lk (T_X4_shut post) 49 = o_aload 0 50 := rfl
theorem k_X4_shut_50 (post : PO) : lk (T_X4_shut post) 50 = o_iload 2 51 := rfl
theorem k_X4_shut_51 (post : PO) : lk (T_X4_shut post) 51 = o_const 1 52 := rfl
theorem k_X4_shut_52 (post : PO) : lk (T_X4_shut post) 52 = o_iload 1 53 := rfl
theorem k_X4_shut_53 (post : PO) : lk (T_X4_shut post) 53 = o_bin (fun x y => x <<< (y &&& 31)) 54 := rfl
theorem k_X4_shut_54 (post : PO) : lk (T_X4_shut post) 54 = o_const (-1) 55 := rfl
theorem k_X4_shut_55 (post : PO) : lk (T_X4_shut post) 55 = o_bin (fun x y => x ^^^ y) 56 := rfl
theorem k_X4_shut_56 (post : PO) : lk (T_X4_shut post) 56 = o_bin (fun x y => x &&& y) 57 := rfl
theorem k_X4_shut_57 (post : PO) : lk (T_X4_shut post) 57 = o_callV 4 S_X4_openedBy 1 60 := rfl
theorem k_X4_shut_60 (post : PO) : lk (T_X4_shut post) 60 = o_const (-1) 61 := rfl
theorem k_X4_shut_61 (post : PO) : lk (T_X4_shut post) 61 = o_bin (fun x y => x ^^^ y) 62 := rfl
theorem k_X4_shut_62 (post : PO) : lk (T_X4_shut post) 62 = o_bin (fun x y => x &&& y) 63 := rfl
theorem k_X4_shut_63 (post : PO) : lk (T_X4_shut post) 63 = o_iret post := rfl
set_option maxRecDepth 100000 in
theorem t_X4_shut {p : Program} {l : Launch} {e : Env} {s : State} {m : MethodId} {args : Array Value} {below : List Frame} {meth : Method} {c : Code} {D : va_G} {dA : Nat → ClassId} {ad : Nat → Nat} (post : PO) (C : CX p s m args meth c cX4_shut 3 yX4_shut.cls D dA ad (AA ad s.heap.size)) (hr : meth.sig.returnType = (some .int)) : SndL (WW p l e ({ frames := 4, cells := 0, slots := 0, locals := 91 } : Room) s m args below meth c 0 0 (MQ below (CQ D dA ad post (AA ad s.heap.size)) args s 0 0 (AA ad s.heap.size)) 3 D dA ad (AA ad s.heap.size)) (T_X4_shut post) := by
  refine snd_c (s_aload_n C rfl dX4_shut_0) ?_
  refine snd_c (s_getf C (ci := 4) (j := 1) (T := TX4) rfl inX4 (by decide) fl_RX4_19 dX4_shut_1) ?_
  refine snd_c (s_getf C (ci := 0) (j := 0) (T := TX0) rfl inX0 (by decide) fl_RX4_71 dX4_shut_4) ?_
  refine snd_c (s_callV C (ci := 1) c_X1_usable rfl cw_RX4_93 ⟨rfl, rfl⟩ ⟨by decide +kernel, by decide +kernel, by decide +kernel⟩ ⟨by decide, by decide⟩ ⟨Nat.zero_le _, Nat.zero_le _⟩ dX4_shut_7) ?_
  refine snd_c (s_istore_n C rfl (by decide) dX4_shut_10) ?_
  refine snd_c (s_aload_n C rfl dX4_shut_11) ?_
  refine snd_c (s_getf C (ci := 4) (j := 1) (T := TX4) rfl inX4 (by decide) fl_RX4_19 dX4_shut_12) ?_
  refine snd_c (s_getf C (ci := 0) (j := 0) (T := TX0) rfl inX0 (by decide) fl_RX4_71 dX4_shut_15) ?_
  refine snd_c (s_iload_n C rfl dX4_shut_18) ?_
  refine snd_c (s_callV C (ci := 1) c_X1_has rfl cw_RX4_74 ⟨rfl, rfl⟩ ⟨by decide +kernel, by decide +kernel, by decide +kernel⟩ ⟨by decide, by decide⟩ ⟨Nat.zero_le _, Nat.zero_le _⟩ dX4_shut_19) ?_
  refine snd_c (s_if_eq C dX4_shut_22 (by decide)) ?_
  refine snd_c (s_aload_n C rfl dX4_shut_25) ?_
  refine snd_c (s_getf C (ci := 4) (j := 1) (T := TX4) rfl inX4 (by decide) fl_RX4_19 dX4_shut_26) ?_
  refine snd_c (s_getf C (ci := 0) (j := 0) (T := TX0) rfl inX0 (by decide) fl_RX4_71 dX4_shut_29) ?_
  refine snd_c (s_getf C (ci := 1) (j := 1) (T := TX1) rfl inX1 (by decide) fl_RX4_84 dX4_shut_32) ?_
  refine snd_c (s_iload_n C rfl dX4_shut_35) ?_
  refine snd_c (s_iald C dX4_shut_36) ?_
  refine snd_c (s_bipush C dX4_shut_37 rfl) ?_
  refine snd_c (s_icmp_ne C dX4_shut_39 (by decide)) ?_
  refine snd_c (s_iconst C dX4_shut_42 rfl) ?_
  refine snd_c (s_iret C hr dX4_shut_43) ?_
  refine snd_c (s_aload_n C rfl dX4_shut_44) ?_
  refine snd_c (s_iload_n C rfl dX4_shut_45) ?_
  refine snd_c (s_callV C (ci := 4) c_X4_openedBy rfl cw_RX4_143 ⟨rfl, rfl⟩ ⟨by decide +kernel, by decide +kernel, by decide +kernel⟩ ⟨by decide, by decide⟩ ⟨Nat.zero_le _, Nat.zero_le _⟩ dX4_shut_46) ?_
  refine snd_c (s_aload_n C rfl dX4_shut_49) ?_
  refine snd_c (s_iload_n C rfl dX4_shut_50) ?_
  refine snd_c (s_iconst C dX4_shut_51 rfl) ?_
  refine snd_c (s_iload_n C rfl dX4_shut_52) ?_
  refine snd_c (s_ishl C dX4_shut_53) ?_
  refine snd_c (s_iconst C dX4_shut_54 rfl) ?_
  refine snd_c (s_ixor C dX4_shut_55) ?_
  refine snd_c (s_iand C dX4_shut_56) ?_
  refine snd_c (s_callV C (ci := 4) c_X4_openedBy rfl cw_RX4_143 ⟨rfl, rfl⟩ ⟨by decide +kernel, by decide +kernel, by decide +kernel⟩ ⟨by decide, by decide⟩ ⟨Nat.zero_le _, Nat.zero_le _⟩ dX4_shut_57) ?_
  refine snd_c (s_iconst C dX4_shut_60 rfl) ?_
  refine snd_c (s_ixor C dX4_shut_61) ?_
  refine snd_c (s_iand C dX4_shut_62) ?_
  refine snd_c (s_iret C hr dX4_shut_63) ?_
  exact trivial
theorem cw_RX4_157 : ∀ w ∈ ([.methodLink RX4 157 yX4_noteLacks, .instanceMethod yX4_noteLacks, .selects yX4_noteLacks.cls yX4_noteLacks yX4_noteLacks, .initialized yX4_noteLacks.cls, .code yX4_noteLacks cX4_noteLacks 2 none] : List Cond), w ∈ tb := tb_all [537, 539, 21, 54, 540] (by decide +kernel) (by decide +kernel)
theorem cw_RX4_160 : ∀ w ∈ ([.methodLink RX4 160 yX4_openedWith, .instanceMethod yX4_openedWith, .selects yX4_openedWith.cls yX4_openedWith yX4_openedWith, .initialized yX4_openedWith.cls, .code yX4_openedWith cX4_openedWith 5 (some .int)] : List Cond), w ∈ tb := tb_all [541, 543, 22, 54, 544] (by decide +kernel) (by decide +kernel)
theorem dX4_brings_0 : decode cX4_brings 0 = .ok (.iload_n 1, 1) := by decide +kernel
theorem dX4_brings_1 : decode cX4_brings 1 = .ok (.invokestatic 78, 3) := by decide +kernel
theorem dX4_brings_4 : decode cX4_brings 4 = .ok (.ifCond .ne 5, 3) := by decide +kernel
theorem dX4_brings_7 : decode cX4_brings 7 = .ok (.iconst (-1), 1) := by decide +kernel
theorem dX4_brings_8 : decode cX4_brings 8 = .ok (.ireturn, 1) := by decide +kernel
theorem dX4_brings_9 : decode cX4_brings 9 = .ok (.aload_n 0, 1) := by decide +kernel
theorem dX4_brings_10 : decode cX4_brings 10 = .ok (.invokevirtual 157, 3) := by decide +kernel
theorem dX4_brings_13 : decode cX4_brings 13 = .ok (.iconst 0, 1) := by decide +kernel
theorem dX4_brings_14 : decode cX4_brings 14 = .ok (.istore_n 2, 1) := by decide +kernel
theorem dX4_brings_15 : decode cX4_brings 15 = .ok (.iconst (-1), 1) := by decide +kernel
theorem dX4_brings_16 : decode cX4_brings 16 = .ok (.istore_n 3, 1) := by decide +kernel
theorem dX4_brings_17 : decode cX4_brings 17 = .ok (.iconst 0, 1) := by decide +kernel
theorem dX4_brings_18 : decode cX4_brings 18 = .ok (.istore 4, 2) := by decide +kernel
theorem dX4_brings_20 : decode cX4_brings 20 = .ok (.iload 4, 2) := by decide +kernel
theorem dX4_brings_22 : decode cX4_brings 22 = .ok (.sipush 512, 3) := by decide +kernel
theorem dX4_brings_25 : decode cX4_brings 25 = .ok (.if_icmp .ge 29, 3) := by decide +kernel
theorem dX4_brings_28 : decode cX4_brings 28 = .ok (.aload_n 0, 1) := by decide +kernel
theorem dX4_brings_29 : decode cX4_brings 29 = .ok (.iload 4, 2) := by decide +kernel
theorem dX4_brings_31 : decode cX4_brings 31 = .ok (.invokevirtual 160, 3) := by decide +kernel
theorem dX4_brings_34 : decode cX4_brings 34 = .ok (.istore 5, 2) := by decide +kernel
theorem dX4_brings_36 : decode cX4_brings 36 = .ok (.iload 5, 2) := by decide +kernel
theorem dX4_brings_38 : decode cX4_brings 38 = .ok (.iload_n 3, 1) := by decide +kernel
theorem dX4_brings_39 : decode cX4_brings 39 = .ok (.if_icmp .le 9, 3) := by decide +kernel
theorem dX4_brings_42 : decode cX4_brings 42 = .ok (.iload 5, 2) := by decide +kernel
theorem dX4_brings_44 : decode cX4_brings 44 = .ok (.istore_n 3, 1) := by decide +kernel
theorem dX4_brings_45 : decode cX4_brings 45 = .ok (.iload 4, 2) := by decide +kernel
theorem dX4_brings_47 : decode cX4_brings 47 = .ok (.istore_n 2, 1) := by decide +kernel
theorem dX4_brings_48 : decode cX4_brings 48 = .ok (.iinc 4 1, 3) := by decide +kernel
theorem dX4_brings_51 : decode cX4_brings 51 = .ok (.goto (-31), 3) := by decide +kernel
theorem dX4_brings_54 : decode cX4_brings 54 = .ok (.iload_n 1, 1) := by decide +kernel
theorem dX4_brings_55 : decode cX4_brings 55 = .ok (.ifCond .ne 7, 3) := by decide +kernel
theorem dX4_brings_58 : decode cX4_brings 58 = .ok (.iload_n 2, 1) := by decide +kernel
theorem dX4_brings_59 : decode cX4_brings 59 = .ok (.goto 4, 3) := by decide +kernel
theorem dX4_brings_62 : decode cX4_brings 62 = .ok (.iload_n 3, 1) := by decide +kernel
theorem dX4_brings_63 : decode cX4_brings 63 = .ok (.ireturn, 1) := by decide +kernel
def T_X4_brings (post : PO) : List (Nat × OP) := [(0, o_iload 1 1), (1, o_callS S_X4_isEither 1 4), (4, o_if (fun x => x = 0) 7 9), (7, o_const (-1) 8), (8, o_iret post), (9, o_aload 0 10), (10, o_callV 4 S_X4_noteLacks 0 13), (13, o_const 0 14), (14, o_istore 2 15), (15, o_const (-1) 16), (16, o_istore 3 17), (17, o_const 0 18), (18, o_istore 4 20), (20, o_iload 4 22), (22, o_const 512 25), (25, o_icmp (fun x y => y ≤ x) 54 28), (28, o_aload 0 29), (29, o_iload 4 31), (31, o_callV 4 S_X4_openedWith 1 34), (34, o_istore 5 36), (36, o_iload 5 38), (38, o_iload 3 39), (39, o_icmp (fun x y => x ≤ y) 48 42), (42, o_iload 5 44), (44, o_istore 3 45), (45, o_iload 4 47), (47, o_istore 2 48), (48, o_iinc 4 1 51), (51, o_goto 20), (54, o_iload 1 55), (55, o_if (fun x => x = 0) 58 62), (58, o_iload 2 59), (59, o_goto 63), (62, o_iload 3 63), (63, o_iret post)]
theorem k_X4_brings_0 (post : PO) : lk (T_X4_brings post) 0 = o_iload 1 1 := rfl
theorem k_X4_brings_1 (post : PO) : lk (T_X4_brings post) 1 = o_callS S_X4_isEither 1 4 := rfl
theorem k_X4_brings_4 (post : PO) : lk (T_X4_brings post) 4 = o_if (fun x => x = 0) 7 9 := rfl
theorem k_X4_brings_7 (post : PO) : lk (T_X4_brings post) 7 = o_const (-1) 8 := rfl
theorem k_X4_brings_8 (post : PO) : lk (T_X4_brings post) 8 = o_iret post := rfl
theorem k_X4_brings_9 (post : PO) : lk (T_X4_brings post) 9 = o_aload 0 10 := rfl
theorem k_X4_brings_10 (post : PO) : lk (T_X4_brings post) 10 = o_callV 4 S_X4_noteLacks 0 13 := rfl
theorem k_X4_brings_13 (post : PO) : lk (T_X4_brings post) 13 = o_const 0 14 := rfl
theorem k_X4_brings_14 (post : PO) : lk (T_X4_brings post) 14 = o_istore 2 15 := rfl
theorem k_X4_brings_15 (post : PO) : lk (T_X4_brings post) 15 = o_const (-1) 16 := rfl
theorem k_X4_brings_16 (post : PO) : lk (T_X4_brings post) 16 = o_istore 3 17 := rfl
theorem k_X4_brings_17 (post : PO) : lk (T_X4_brings post) 17 = o_const 0 18 := rfl
theorem k_X4_brings_18 (post : PO) : lk (T_X4_brings post) 18 = o_istore 4 20 := rfl
theorem k_X4_brings_20 (post : PO) : lk (T_X4_brings post) 20 = o_iload 4 22 := rfl
theorem k_X4_brings_22 (post : PO) : lk (T_X4_brings post) 22 = o_const 512 25 := rfl
theorem k_X4_brings_25 (post : PO) : lk (T_X4_brings post) 25 = o_icmp (fun x y => y ≤ x) 54 28 := rfl
theorem k_X4_brings_28 (post : PO) : lk (T_X4_brings post) 28 = o_aload 0 29 := rfl
theorem k_X4_brings_29 (post : PO) : lk (T_X4_brings post) 29 = o_iload 4 31 := rfl
theorem k_X4_brings_31 (post : PO) : lk (T_X4_brings post) 31 = o_callV 4 S_X4_openedWith 1 34 := rfl
theorem k_X4_brings_34 (post : PO) : lk (T_X4_brings post) 34 = o_istore 5 36 := rfl
theorem k_X4_brings_36 (post : PO) : lk (T_X4_brings post) 36 = o_iload 5 38 := rfl
theorem k_X4_brings_38 (post : PO) : lk (T_X4_brings post) 38 = o_iload 3 39 := rfl
theorem k_X4_brings_39 (post : PO) : lk (T_X4_brings post) 39 = o_icmp (fun x y => x ≤ y) 48 42 := rfl
theorem k_X4_brings_42 (post : PO) : lk (T_X4_brings post) 42 = o_iload 5 44 := rfl
theorem k_X4_brings_44 (post : PO) : lk (T_X4_brings post) 44 = o_istore 3 45 := rfl
theorem k_X4_brings_45 (post : PO) : lk (T_X4_brings post) 45 = o_iload 4 47 := rfl
theorem k_X4_brings_47 (post : PO) : lk (T_X4_brings post) 47 = o_istore 2 48 := rfl
theorem k_X4_brings_48 (post : PO) : lk (T_X4_brings post) 48 = o_iinc 4 1 51 := rfl
theorem k_X4_brings_51 (post : PO) : lk (T_X4_brings post) 51 = o_goto 20 := rfl
theorem k_X4_brings_54 (post : PO) : lk (T_X4_brings post) 54 = o_iload 1 55 := rfl
theorem k_X4_brings_55 (post : PO) : lk (T_X4_brings post) 55 = o_if (fun x => x = 0) 58 62 := rfl
theorem k_X4_brings_58 (post : PO) : lk (T_X4_brings post) 58 = o_iload 2 59 := rfl
theorem k_X4_brings_59 (post : PO) : lk (T_X4_brings post) 59 = o_goto 63 := rfl
theorem k_X4_brings_62 (post : PO) : lk (T_X4_brings post) 62 = o_iload 3 63 := rfl
theorem k_X4_brings_63 (post : PO) : lk (T_X4_brings post) 63 = o_iret post := rfl
set_option maxRecDepth 100000 in
theorem t_X4_brings {p : Program} {l : Launch} {e : Env} {s : State} {m : MethodId} {args : Array Value} {below : List Frame} {meth : Method} {c : Code} {D : va_G} {dA : Nat → ClassId} {ad : Nat → Nat} (post : PO) (C : CX p s m args meth c cX4_brings 6 yX4_brings.cls D dA ad (AA ad s.heap.size)) (hr : meth.sig.returnType = (some .int)) : SndL (WW p l e ({ frames := 4, cells := 0, slots := 0, locals := 89 } : Room) s m args below meth c 0 0 (MQ below (CQ D dA ad post (AA ad s.heap.size)) args s 0 0 (AA ad s.heap.size)) 6 D dA ad (AA ad s.heap.size)) (T_X4_brings post) := by
  refine snd_c (s_iload_n C rfl dX4_brings_0) ?_
  refine snd_c (s_callS C c_X4_isEither cw_RX4_78 ⟨rfl, rfl⟩ ⟨by decide +kernel, by decide +kernel, by decide +kernel⟩ ⟨by decide, by decide⟩ ⟨Nat.zero_le _, Nat.zero_le _⟩ dX4_brings_1) ?_
  refine snd_c (s_if_ne C dX4_brings_4 (by decide)) ?_
  refine snd_c (s_iconst C dX4_brings_7 rfl) ?_
  refine snd_c (s_iret C hr dX4_brings_8) ?_
  refine snd_c (s_aload_n C rfl dX4_brings_9) ?_
  refine snd_c (s_callV C (ci := 4) c_X4_noteLacks rfl cw_RX4_157 ⟨rfl, rfl⟩ ⟨by decide +kernel, by decide +kernel, by decide +kernel⟩ ⟨by decide, by decide⟩ ⟨Nat.zero_le _, Nat.zero_le _⟩ dX4_brings_10) ?_
  refine snd_c (s_iconst C dX4_brings_13 rfl) ?_
  refine snd_c (s_istore_n C rfl (by decide) dX4_brings_14) ?_
  refine snd_c (s_iconst C dX4_brings_15 rfl) ?_
  refine snd_c (s_istore_n C rfl (by decide) dX4_brings_16) ?_
  refine snd_c (s_iconst C dX4_brings_17 rfl) ?_
  refine snd_c (s_istore C (by decide) dX4_brings_18) ?_
  refine snd_c (s_iload C dX4_brings_20) ?_
  refine snd_c (s_sipush C dX4_brings_22 rfl) ?_
  refine snd_c (s_icmp_ge C dX4_brings_25 (by decide)) ?_
  refine snd_c (s_aload_n C rfl dX4_brings_28) ?_
  refine snd_c (s_iload C dX4_brings_29) ?_
  refine snd_c (s_callV C (ci := 4) c_X4_openedWith rfl cw_RX4_160 ⟨rfl, rfl⟩ ⟨by decide +kernel, by decide +kernel, by decide +kernel⟩ ⟨by decide, by decide⟩ ⟨Nat.zero_le _, Nat.zero_le _⟩ dX4_brings_31) ?_
  refine snd_c (s_istore C (by decide) dX4_brings_34) ?_
  refine snd_c (s_iload C dX4_brings_36) ?_
  refine snd_c (s_iload_n C rfl dX4_brings_38) ?_
  refine snd_c (s_icmp_le C dX4_brings_39 (by decide)) ?_
  refine snd_c (s_iload C dX4_brings_42) ?_
  refine snd_c (s_istore_n C rfl (by decide) dX4_brings_44) ?_
  refine snd_c (s_iload C dX4_brings_45) ?_
  refine snd_c (s_istore_n C rfl (by decide) dX4_brings_47) ?_
  refine snd_c (s_iinc C (by decide) rfl dX4_brings_48) ?_
  refine snd_c (s_goto C dX4_brings_51 (by decide)) ?_
  refine snd_c (s_iload_n C rfl dX4_brings_54) ?_
  refine snd_c (s_if_ne C dX4_brings_55 (by decide)) ?_
  refine snd_c (s_iload_n C rfl dX4_brings_58) ?_
  refine snd_c (s_goto C dX4_brings_59 (by decide)) ?_
  refine snd_c (s_iload_n C rfl dX4_brings_62) ?_
  refine snd_c (s_iret C hr dX4_brings_63) ?_
  exact trivial
theorem x256 {a k : Nat} (ha : a < 256) (hk : k < 8) : a ^^^ 2 ^ k < 256 := Nat.xor_lt_two_pow (n := 8) ha (Nat.pow_lt_pow_right (by omega) hk)
set_option maxRecDepth 100000 in
theorem v_X4_shut : ∀ as M post, S_X4_shut as M post → wsum as ≤ 3 ∧ RUN (T_X4_shut post) 0 (entL 3 as) [] M := by
  rintro as M post ⟨x, n, c, p, r, h0, lk, rfl, hX, h1, h2⟩
  have hX0 := hX
  obtain ⟨hn, hn8, hc, hc6, hp, hp4, hr, hhk, hl⟩ := hX
  have hul := us_lt h0 hn8
  refine ⟨by show 2 ≤ 3; omega, run_wp 60 ?_⟩
  dsimp only [k_X4_shut_0, k_X4_shut_1, k_X4_shut_4, k_X4_shut_7, k_X4_shut_10, k_X4_shut_11, k_X4_shut_12, k_X4_shut_15, k_X4_shut_18, k_X4_shut_19, k_X4_shut_22, k_X4_shut_25, k_X4_shut_26, k_X4_shut_29, k_X4_shut_32, k_X4_shut_35, k_X4_shut_36, k_X4_shut_37, k_X4_shut_39, k_X4_shut_42, k_X4_shut_43, k_X4_shut_44, k_X4_shut_45, k_X4_shut_46, k_X4_shut_49, k_X4_shut_50, k_X4_shut_51, k_X4_shut_52, k_X4_shut_53, k_X4_shut_54, k_X4_shut_55, k_X4_shut_56, k_X4_shut_57, k_X4_shut_60, k_X4_shut_61, k_X4_shut_62, k_X4_shut_63, wp1, wp_s, cutIn, kont, Nat.reduceSub, Nat.reduceAdd, nth, o_const, o_lconst, o_ref, o_iload, o_lload, o_aload, o_istore, o_lstore, o_astore, o_iinc, o_bin, o_div, o_un, o_lbin, o_lsh, o_lcmp, o_i2l, o_l2i, o_if, o_icmp, o_goto, o_dup, o_dup2, o_pop, fav, o_getf, o_putI, o_putZ, o_putL, o_ald, o_ast, o_alen, popn, rst, o_callV, o_callT, o_callS, swx, o_sw, o_ret, o_iret, o_zret, o_cret, o_lret, o_aret, lg, lput, lput2, ls1, isL, entL, wsum, rdI1, rdI2, rdA1, rdA21, rdA22, rdL1, rdL22, rdL21, upN_at, rep, sh_0, F_0_0, F_0_1, F_0_2, F_0_3, F_0_4, F_0_5, F_0_6, F_0_7, F_0_8, sh_1, F_1_0, F_1_1, F_1_2, F_1_3, F_1_4, F_1_5, sh_3, F_3_0, F_3_1, F_3_2, F_3_3, F_3_4, F_3_5, sh_5, F_5_0, F_5_1, F_5_2, F_5_3, F_5_4, F_5_5, F_5_6, F_5_7, F_5_8, sh_12, F_12_0, F_12_1, F_12_2, F_12_3, F_12_4, F_12_5, sh_14, F_14_0, F_14_1, F_14_2, F_14_3, F_14_4, F_14_5, F_14_6, F_14_7, F_14_8, sh_21, F_21_0, F_21_1, F_21_2, F_21_3, F_21_4, F_21_5, F_21_6, F_21_7, F_21_8, sh_28, F_28_0, F_28_1, F_28_2, F_28_3, F_28_4, F_28_5, F_28_6, F_28_7, F_28_8, sh_35, F_35_0, sh_39, F_39_0, F_39_1, F_39_2, F_39_3, F_39_4, F_39_5, F_39_6, F_39_7, F_39_8, F_39_9, F_39_10, F_39_11, F_39_12, F_39_13, A_2, A_4, A_6, A_7, A_8, A_9, A_10, A_11, A_13, A_15, A_16, A_17, A_18, A_19, A_20, A_22, A_23, A_24, A_25, A_26, A_27, A_29, A_30, A_31, A_32, A_33, A_34, A_36, A_37, A_38, A_40, A_41, A_42, A_43, A_44, A_45, A_46, A_47]
  refine ⟨n, rfl, hn, hn8, ?_⟩
  rw [show mk (fun k => !(M.2.2 3 k == -3)) n = us h0 n from us_congr hhk]
  dsimp only [k_X4_shut_0, k_X4_shut_1, k_X4_shut_4, k_X4_shut_7, k_X4_shut_10, k_X4_shut_11, k_X4_shut_12, k_X4_shut_15, k_X4_shut_18, k_X4_shut_19, k_X4_shut_22, k_X4_shut_25, k_X4_shut_26, k_X4_shut_29, k_X4_shut_32, k_X4_shut_35, k_X4_shut_36, k_X4_shut_37, k_X4_shut_39, k_X4_shut_42, k_X4_shut_43, k_X4_shut_44, k_X4_shut_45, k_X4_shut_46, k_X4_shut_49, k_X4_shut_50, k_X4_shut_51, k_X4_shut_52, k_X4_shut_53, k_X4_shut_54, k_X4_shut_55, k_X4_shut_56, k_X4_shut_57, k_X4_shut_60, k_X4_shut_61, k_X4_shut_62, k_X4_shut_63, wp1, wp_s, cutIn, kont, Nat.reduceSub, Nat.reduceAdd, nth, o_const, o_lconst, o_ref, o_iload, o_lload, o_aload, o_istore, o_lstore, o_astore, o_iinc, o_bin, o_div, o_un, o_lbin, o_lsh, o_lcmp, o_i2l, o_l2i, o_if, o_icmp, o_goto, o_dup, o_dup2, o_pop, fav, o_getf, o_putI, o_putZ, o_putL, o_ald, o_ast, o_alen, popn, rst, o_callV, o_callT, o_callS, swx, o_sw, o_ret, o_iret, o_zret, o_cret, o_lret, o_aret, lg, lput, lput2, ls1, isL, entL, wsum, rdI1, rdI2, rdA1, rdA21, rdA22, rdL1, rdL22, rdL21, upN_at, rep, sh_0, F_0_0, F_0_1, F_0_2, F_0_3, F_0_4, F_0_5, F_0_6, F_0_7, F_0_8, sh_1, F_1_0, F_1_1, F_1_2, F_1_3, F_1_4, F_1_5, sh_3, F_3_0, F_3_1, F_3_2, F_3_3, F_3_4, F_3_5, sh_5, F_5_0, F_5_1, F_5_2, F_5_3, F_5_4, F_5_5, F_5_6, F_5_7, F_5_8, sh_12, F_12_0, F_12_1, F_12_2, F_12_3, F_12_4, F_12_5, sh_14, F_14_0, F_14_1, F_14_2, F_14_3, F_14_4, F_14_5, F_14_6, F_14_7, F_14_8, sh_21, F_21_0, F_21_1, F_21_2, F_21_3, F_21_4, F_21_5, F_21_6, F_21_7, F_21_8, sh_28, F_28_0, F_28_1, F_28_2, F_28_3, F_28_4, F_28_5, F_28_6, F_28_7, F_28_8, sh_35, F_35_0, sh_39, F_39_0, F_39_1, F_39_2, F_39_3, F_39_4, F_39_5, F_39_6, F_39_7, F_39_8, F_39_9, F_39_10, F_39_11, F_39_12, F_39_13, A_2, A_4, A_6, A_7, A_8, A_9, A_10, A_11, A_13, A_15, A_16, A_17, A_18, A_19, A_20, A_22, A_23, A_24, A_25, A_26, A_27, A_29, A_30, A_31, A_32, A_33, A_34, A_36, A_37, A_38, A_40, A_41, A_42, A_43, A_44, A_45, A_46, A_47]
  refine ⟨5, x, rfl, Or.inl ⟨rfl, fun z => ?_, fun z => ?_⟩⟩
  · rw [hn] at z
    obtain ⟨k, rfl, hk⟩ := rg (by omega) z
    dsimp only [k_X4_shut_0, k_X4_shut_1, k_X4_shut_4, k_X4_shut_7, k_X4_shut_10, k_X4_shut_11, k_X4_shut_12, k_X4_shut_15, k_X4_shut_18, k_X4_shut_19, k_X4_shut_22, k_X4_shut_25, k_X4_shut_26, k_X4_shut_29, k_X4_shut_32, k_X4_shut_35, k_X4_shut_36, k_X4_shut_37, k_X4_shut_39, k_X4_shut_42, k_X4_shut_43, k_X4_shut_44, k_X4_shut_45, k_X4_shut_46, k_X4_shut_49, k_X4_shut_50, k_X4_shut_51, k_X4_shut_52, k_X4_shut_53, k_X4_shut_54, k_X4_shut_55, k_X4_shut_56, k_X4_shut_57, k_X4_shut_60, k_X4_shut_61, k_X4_shut_62, k_X4_shut_63, wp1, wp_s, cutIn, kont, Nat.reduceSub, Nat.reduceAdd, nth, o_const, o_lconst, o_ref, o_iload, o_lload, o_aload, o_istore, o_lstore, o_astore, o_iinc, o_bin, o_div, o_un, o_lbin, o_lsh, o_lcmp, o_i2l, o_l2i, o_if, o_icmp, o_goto, o_dup, o_dup2, o_pop, fav, o_getf, o_putI, o_putZ, o_putL, o_ald, o_ast, o_alen, popn, rst, o_callV, o_callT, o_callS, swx, o_sw, o_ret, o_iret, o_zret, o_cret, o_lret, o_aret, lg, lput, lput2, ls1, isL, entL, wsum, rdI1, rdI2, rdA1, rdA21, rdA22, rdL1, rdL22, rdL21, upN_at, rep, sh_0, F_0_0, F_0_1, F_0_2, F_0_3, F_0_4, F_0_5, F_0_6, F_0_7, F_0_8, sh_1, F_1_0, F_1_1, F_1_2, F_1_3, F_1_4, F_1_5, sh_3, F_3_0, F_3_1, F_3_2, F_3_3, F_3_4, F_3_5, sh_5, F_5_0, F_5_1, F_5_2, F_5_3, F_5_4, F_5_5, F_5_6, F_5_7, F_5_8, sh_12, F_12_0, F_12_1, F_12_2, F_12_3, F_12_4, F_12_5, sh_14, F_14_0, F_14_1, F_14_2, F_14_3, F_14_4, F_14_5, F_14_6, F_14_7, F_14_8, sh_21, F_21_0, F_21_1, F_21_2, F_21_3, F_21_4, F_21_5, F_21_6, F_21_7, F_21_8, sh_28, F_28_0, F_28_1, F_28_2, F_28_3, F_28_4, F_28_5, F_28_6, F_28_7, F_28_8, sh_35, F_35_0, sh_39, F_39_0, F_39_1, F_39_2, F_39_3, F_39_4, F_39_5, F_39_6, F_39_7, F_39_8, F_39_9, F_39_10, F_39_11, F_39_12, F_39_13, A_2, A_4, A_6, A_7, A_8, A_9, A_10, A_11, A_13, A_15, A_16, A_17, A_18, A_19, A_20, A_22, A_23, A_24, A_25, A_26, A_27, A_29, A_30, A_31, A_32, A_33, A_34, A_36, A_37, A_38, A_40, A_41, A_42, A_43, A_44, A_45, A_46, A_47]
    refine ⟨fun q => absurd q (by decide), fun _ => ⟨k, by omega, rfl, fun q => h1 fun k' e1 e2 => ?_, fun q => ?_⟩⟩
    · rw [hhk k hk] at q
      rw [← nI_inj (by omega) (by omega) e1]; exact q
    · rw [hhk k hk] at q
      refine ⟨us h0 n, n, c, p, r, h0, lk, rfl, by omega, hX0, fun f => ?_⟩
      dsimp only [k_X4_shut_0, k_X4_shut_1, k_X4_shut_4, k_X4_shut_7, k_X4_shut_10, k_X4_shut_11, k_X4_shut_12, k_X4_shut_15, k_X4_shut_18, k_X4_shut_19, k_X4_shut_22, k_X4_shut_25, k_X4_shut_26, k_X4_shut_29, k_X4_shut_32, k_X4_shut_35, k_X4_shut_36, k_X4_shut_37, k_X4_shut_39, k_X4_shut_42, k_X4_shut_43, k_X4_shut_44, k_X4_shut_45, k_X4_shut_46, k_X4_shut_49, k_X4_shut_50, k_X4_shut_51, k_X4_shut_52, k_X4_shut_53, k_X4_shut_54, k_X4_shut_55, k_X4_shut_56, k_X4_shut_57, k_X4_shut_60, k_X4_shut_61, k_X4_shut_62, k_X4_shut_63, wp1, wp_s, cutIn, kont, Nat.reduceSub, Nat.reduceAdd, nth, o_const, o_lconst, o_ref, o_iload, o_lload, o_aload, o_istore, o_lstore, o_astore, o_iinc, o_bin, o_div, o_un, o_lbin, o_lsh, o_lcmp, o_i2l, o_l2i, o_if, o_icmp, o_goto, o_dup, o_dup2, o_pop, fav, o_getf, o_putI, o_putZ, o_putL, o_ald, o_ast, o_alen, popn, rst, o_callV, o_callT, o_callS, swx, o_sw, o_ret, o_iret, o_zret, o_cret, o_lret, o_aret, lg, lput, lput2, ls1, isL, entL, wsum, rdI1, rdI2, rdA1, rdA21, rdA22, rdL1, rdL22, rdL21, upN_at, rep, sh_0, F_0_0, F_0_1, F_0_2, F_0_3, F_0_4, F_0_5, F_0_6, F_0_7, F_0_8, sh_1, F_1_0, F_1_1, F_1_2, F_1_3, F_1_4, F_1_5, sh_3, F_3_0, F_3_1, F_3_2, F_3_3, F_3_4, F_3_5, sh_5, F_5_0, F_5_1, F_5_2, F_5_3, F_5_4, F_5_5, F_5_6, F_5_7, F_5_8, sh_12, F_12_0, F_12_1, F_12_2, F_12_3, F_12_4, F_12_5, sh_14, F_14_0, F_14_1, F_14_2, F_14_3, F_14_4, F_14_5, F_14_6, F_14_7, F_14_8, sh_21, F_21_0, F_21_1, F_21_2, F_21_3, F_21_4, F_21_5, F_21_6, F_21_7, F_21_8, sh_28, F_28_0, F_28_1, F_28_2, F_28_3, F_28_4, F_28_5, F_28_6, F_28_7, F_28_8, sh_35, F_35_0, sh_39, F_39_0, F_39_1, F_39_2, F_39_3, F_39_4, F_39_5, F_39_6, F_39_7, F_39_8, F_39_9, F_39_10, F_39_11, F_39_12, F_39_13, A_2, A_4, A_6, A_7, A_8, A_9, A_10, A_11, A_13, A_15, A_16, A_17, A_18, A_19, A_20, A_22, A_23, A_24, A_25, A_26, A_27, A_29, A_30, A_31, A_32, A_33, A_34, A_36, A_37, A_38, A_40, A_41, A_42, A_43, A_44, A_45, A_46, A_47]
      rw [one_shl (by omega), clr (by omega) (by omega) (by rw [us_bit]; simp [q]; exact hk)]
      have hx := x256 hul (show k < 8 by omega)
      refine ⟨_, n, c, p, r, h0, lk, rfl, by omega, XW_27 hX0 f, fun f2 => ?_⟩
      dsimp only [k_X4_shut_0, k_X4_shut_1, k_X4_shut_4, k_X4_shut_7, k_X4_shut_10, k_X4_shut_11, k_X4_shut_12, k_X4_shut_15, k_X4_shut_18, k_X4_shut_19, k_X4_shut_22, k_X4_shut_25, k_X4_shut_26, k_X4_shut_29, k_X4_shut_32, k_X4_shut_35, k_X4_shut_36, k_X4_shut_37, k_X4_shut_39, k_X4_shut_42, k_X4_shut_43, k_X4_shut_44, k_X4_shut_45, k_X4_shut_46, k_X4_shut_49, k_X4_shut_50, k_X4_shut_51, k_X4_shut_52, k_X4_shut_53, k_X4_shut_54, k_X4_shut_55, k_X4_shut_56, k_X4_shut_57, k_X4_shut_60, k_X4_shut_61, k_X4_shut_62, k_X4_shut_63, wp1, wp_s, cutIn, kont, Nat.reduceSub, Nat.reduceAdd, nth, o_const, o_lconst, o_ref, o_iload, o_lload, o_aload, o_istore, o_lstore, o_astore, o_iinc, o_bin, o_div, o_un, o_lbin, o_lsh, o_lcmp, o_i2l, o_l2i, o_if, o_icmp, o_goto, o_dup, o_dup2, o_pop, fav, o_getf, o_putI, o_putZ, o_putL, o_ald, o_ast, o_alen, popn, rst, o_callV, o_callT, o_callS, swx, o_sw, o_ret, o_iret, o_zret, o_cret, o_lret, o_aret, lg, lput, lput2, ls1, isL, entL, wsum, rdI1, rdI2, rdA1, rdA21, rdA22, rdL1, rdL22, rdL21, upN_at, rep, sh_0, F_0_0, F_0_1, F_0_2, F_0_3, F_0_4, F_0_5, F_0_6, F_0_7, F_0_8, sh_1, F_1_0, F_1_1, F_1_2, F_1_3, F_1_4, F_1_5, sh_3, F_3_0, F_3_1, F_3_2, F_3_3, F_3_4, F_3_5, sh_5, F_5_0, F_5_1, F_5_2, F_5_3, F_5_4, F_5_5, F_5_6, F_5_7, F_5_8, sh_12, F_12_0, F_12_1, F_12_2, F_12_3, F_12_4, F_12_5, sh_14, F_14_0, F_14_1, F_14_2, F_14_3, F_14_4, F_14_5, F_14_6, F_14_7, F_14_8, sh_21, F_21_0, F_21_1, F_21_2, F_21_3, F_21_4, F_21_5, F_21_6, F_21_7, F_21_8, sh_28, F_28_0, F_28_1, F_28_2, F_28_3, F_28_4, F_28_5, F_28_6, F_28_7, F_28_8, sh_35, F_35_0, sh_39, F_39_0, F_39_1, F_39_2, F_39_3, F_39_4, F_39_5, F_39_6, F_39_7, F_39_8, F_39_9, F_39_10, F_39_11, F_39_12, F_39_13, A_2, A_4, A_6, A_7, A_8, A_9, A_10, A_11, A_13, A_15, A_16, A_17, A_18, A_19, A_20, A_22, A_23, A_24, A_25, A_26, A_27, A_29, A_30, A_31, A_32, A_33, A_34, A_36, A_37, A_38, A_40, A_41, A_42, A_43, A_44, A_45, A_46, A_47]
      rw [sA_sA]
      exact h2 k rfl hk q f2
  · rw [hn] at z
    dsimp only [k_X4_shut_0, k_X4_shut_1, k_X4_shut_4, k_X4_shut_7, k_X4_shut_10, k_X4_shut_11, k_X4_shut_12, k_X4_shut_15, k_X4_shut_18, k_X4_shut_19, k_X4_shut_22, k_X4_shut_25, k_X4_shut_26, k_X4_shut_29, k_X4_shut_32, k_X4_shut_35, k_X4_shut_36, k_X4_shut_37, k_X4_shut_39, k_X4_shut_42, k_X4_shut_43, k_X4_shut_44, k_X4_shut_45, k_X4_shut_46, k_X4_shut_49, k_X4_shut_50, k_X4_shut_51, k_X4_shut_52, k_X4_shut_53, k_X4_shut_54, k_X4_shut_55, k_X4_shut_56, k_X4_shut_57, k_X4_shut_60, k_X4_shut_61, k_X4_shut_62, k_X4_shut_63, wp1, wp_s, cutIn, kont, Nat.reduceSub, Nat.reduceAdd, nth, o_const, o_lconst, o_ref, o_iload, o_lload, o_aload, o_istore, o_lstore, o_astore, o_iinc, o_bin, o_div, o_un, o_lbin, o_lsh, o_lcmp, o_i2l, o_l2i, o_if, o_icmp, o_goto, o_dup, o_dup2, o_pop, fav, o_getf, o_putI, o_putZ, o_putL, o_ald, o_ast, o_alen, popn, rst, o_callV, o_callT, o_callS, swx, o_sw, o_ret, o_iret, o_zret, o_cret, o_lret, o_aret, lg, lput, lput2, ls1, isL, entL, wsum, rdI1, rdI2, rdA1, rdA21, rdA22, rdL1, rdL22, rdL21, upN_at, rep, sh_0, F_0_0, F_0_1, F_0_2, F_0_3, F_0_4, F_0_5, F_0_6, F_0_7, F_0_8, sh_1, F_1_0, F_1_1, F_1_2, F_1_3, F_1_4, F_1_5, sh_3, F_3_0, F_3_1, F_3_2, F_3_3, F_3_4, F_3_5, sh_5, F_5_0, F_5_1, F_5_2, F_5_3, F_5_4, F_5_5, F_5_6, F_5_7, F_5_8, sh_12, F_12_0, F_12_1, F_12_2, F_12_3, F_12_4, F_12_5, sh_14, F_14_0, F_14_1, F_14_2, F_14_3, F_14_4, F_14_5, F_14_6, F_14_7, F_14_8, sh_21, F_21_0, F_21_1, F_21_2, F_21_3, F_21_4, F_21_5, F_21_6, F_21_7, F_21_8, sh_28, F_28_0, F_28_1, F_28_2, F_28_3, F_28_4, F_28_5, F_28_6, F_28_7, F_28_8, sh_35, F_35_0, sh_39, F_39_0, F_39_1, F_39_2, F_39_3, F_39_4, F_39_5, F_39_6, F_39_7, F_39_8, F_39_9, F_39_10, F_39_11, F_39_12, F_39_13, A_2, A_4, A_6, A_7, A_8, A_9, A_10, A_11, A_13, A_15, A_16, A_17, A_18, A_19, A_20, A_22, A_23, A_24, A_25, A_26, A_27, A_29, A_30, A_31, A_32, A_33, A_34, A_36, A_37, A_38, A_40, A_41, A_42, A_43, A_44, A_45, A_46, A_47]
    exact ⟨fun _ => h1 fun k e1 e2 => absurd ⟨by rw [e1]; exact nI_pos' (by omega), by rw [e1, nI_ltI (by omega) (by omega)]; exact e2⟩ z, fun q => absurd rfl q⟩
theorem bm_s0 {f : Nat → Nat} {N : Nat} (h0 : N ≠ 0) (h : f N ≤ f (bmi f N)) : bmi f (N + 1) = bmi f N := by
  rw [bmi, if_neg (by omega)]
theorem bm_s1 {f : Nat → Nat} {N : Nat} (h : N = 0 ∨ f (bmi f N) < f N) : bmi f (N + 1) = N := by
  rw [bmi, if_pos h]
def mostI (f : Nat → Nat) (i : Nat) : Int32 := if i = 0 then -1 else nI (f (bmi f i))
theorem nm1 : ∀ k, k < 100 → ¬ nI k ≤ -1 := by decide +kernel
set_option maxRecDepth 100000 in
theorem v_X4_brings : ∀ as M post, S_X4_brings as M post → wsum as ≤ 6 ∧ RUN (T_X4_brings post) 0 (entL 6 as) [] M := by
  rintro as M post ⟨z, n, c, p, r, h0, lk, rfl, hX, h1, h2, h3⟩
  have hX0 := hX
  obtain ⟨hn, hn8, hc, hc6, hp, hp4, hr, hhk, hl⟩ := hX
  have hblt := fsp_lt (r := r) (T := us h0 n) n (fun k hk => (hr k hk).2)
  have hF : ∀ i, brF r h0 n lk c i ≤ 6 := fun i => Nat.le_trans (ct_le _ c) hc6
  refine ⟨by show 2 ≤ 6; omega, run_of [20] (fun μ pc lv st M' => st = [] ∧ pc = 20 ∧ (z = 0 ∨ z = 1) ∧ ∃ i f g, i ≤ 512 ∧ (∀ j, j < 9 → f j = nI (fsp r (us h0 n) n j)) ∧ (∀ l, l < c → g l = nI (rs (fsp r (us h0 n) n) (lk l) 9)) ∧ M' = sA 29 g (sA 27 f M) ∧ 1000 - i = μ ∧ lv = [some (VR 0), some (VI z), some (VI (nI (bmi (brF r h0 n lk c) i))), some (VI (mostI (brF r h0 n lk c) i)), some (VI (nI i)), none]) 60 2000 ?_ ?_⟩
  · rintro μ pc lv st M' ⟨rfl, rfl, hz, i, f, g, hi, hf, hg, rfl, rfl, rfl⟩
    have hbl := bmi_le (brF r h0 n lk c) i
    dsimp only [k_X4_brings_0, k_X4_brings_1, k_X4_brings_4, k_X4_brings_7, k_X4_brings_8, k_X4_brings_9, k_X4_brings_10, k_X4_brings_13, k_X4_brings_14, k_X4_brings_15, k_X4_brings_16, k_X4_brings_17, k_X4_brings_18, k_X4_brings_20, k_X4_brings_22, k_X4_brings_25, k_X4_brings_28, k_X4_brings_29, k_X4_brings_31, k_X4_brings_34, k_X4_brings_36, k_X4_brings_38, k_X4_brings_39, k_X4_brings_42, k_X4_brings_44, k_X4_brings_45, k_X4_brings_47, k_X4_brings_48, k_X4_brings_51, k_X4_brings_54, k_X4_brings_55, k_X4_brings_58, k_X4_brings_59, k_X4_brings_62, k_X4_brings_63, wp1, wp_s, cutIn, kont, Nat.reduceSub, Nat.reduceAdd, nth, o_const, o_lconst, o_ref, o_iload, o_lload, o_aload, o_istore, o_lstore, o_astore, o_iinc, o_bin, o_div, o_un, o_lbin, o_lsh, o_lcmp, o_i2l, o_l2i, o_if, o_icmp, o_goto, o_dup, o_dup2, o_pop, fav, o_getf, o_putI, o_putZ, o_putL, o_ald, o_ast, o_alen, popn, rst, o_callV, o_callT, o_callS, swx, o_sw, o_ret, o_iret, o_zret, o_cret, o_lret, o_aret, lg, lput, lput2, ls1, isL, entL, wsum, rdI1, rdI2, rdA1, rdA21, rdA22, rdL1, rdL22, rdL21, upN_at, rep, sh_0, F_0_0, F_0_1, F_0_2, F_0_3, F_0_4, F_0_5, F_0_6, F_0_7, F_0_8, sh_1, F_1_0, F_1_1, F_1_2, F_1_3, F_1_4, F_1_5, sh_3, F_3_0, F_3_1, F_3_2, F_3_3, F_3_4, F_3_5, sh_5, F_5_0, F_5_1, F_5_2, F_5_3, F_5_4, F_5_5, F_5_6, F_5_7, F_5_8, sh_12, F_12_0, F_12_1, F_12_2, F_12_3, F_12_4, F_12_5, sh_14, F_14_0, F_14_1, F_14_2, F_14_3, F_14_4, F_14_5, F_14_6, F_14_7, F_14_8, sh_21, F_21_0, F_21_1, F_21_2, F_21_3, F_21_4, F_21_5, F_21_6, F_21_7, F_21_8, sh_28, F_28_0, F_28_1, F_28_2, F_28_3, F_28_4, F_28_5, F_28_6, F_28_7, F_28_8, sh_35, F_35_0, sh_39, F_39_0, F_39_1, F_39_2, F_39_3, F_39_4, F_39_5, F_39_6, F_39_7, F_39_8, F_39_9, F_39_10, F_39_11, F_39_12, F_39_13, A_2, A_4, A_6, A_7, A_8, A_9, A_10, A_11, A_13, A_15, A_16, A_17, A_18, A_19, A_20, A_22, A_23, A_24, A_25, A_26, A_27, A_29, A_30, A_31, A_32, A_33, A_34, A_36, A_37, A_38, A_40, A_41, A_42, A_43, A_44, A_45, A_46, A_47]
    rw [show (512 : Int32) = nI 512 from rfl]
    simp (disch := omega) only [nI_leI, nI_ltI, nI_eq, nI_1, nI_add, one_shl, nI_or, nI_xor, nI_and, bit_0, bit_1, true_or, or_true, true_and, and_true, eq_self, not_true_eq_false, not_false_eq_true, forall_const]
    refine ⟨fun q => ?_, fun q => ⟨i, fsp r (us h0 n) n, n, c, p, r, h0, lk, fun l => rs (fsp r (us h0 n) n) (lk l) 9, rfl, by omega, fun j hj => ⟨hf j hj, hblt j hj⟩, XW_of hX0 rfl rfl rfl rfl rfl rfl, fun l hl2 => ⟨hg l hl2, rs_lt hblt 9 (Nat.le_refl 9) _ (hl l hl2).2⟩, ?_⟩⟩
    · have e : i = 512 := by omega
      subst e
      refine ⟨fun q2 => h2 q2 f g, fun q2 => ?_⟩
      have := h3 (hz.elim (fun q3 => absurd q3 q2) id) f g
      unfold mostI
      rw [if_neg (by omega)]; exact this
    · have hFi := hF i
      rw [show ct (fun l => rs (fsp r (us h0 n) n) (lk l) 9 == 0 || rs (fsp r (us h0 n) n) (lk l) 9 == rs (fsp r (us h0 n) n) i 9) c = brF r h0 n lk c i from rfl]
      dsimp only [k_X4_brings_0, k_X4_brings_1, k_X4_brings_4, k_X4_brings_7, k_X4_brings_8, k_X4_brings_9, k_X4_brings_10, k_X4_brings_13, k_X4_brings_14, k_X4_brings_15, k_X4_brings_16, k_X4_brings_17, k_X4_brings_18, k_X4_brings_20, k_X4_brings_22, k_X4_brings_25, k_X4_brings_28, k_X4_brings_29, k_X4_brings_31, k_X4_brings_34, k_X4_brings_36, k_X4_brings_38, k_X4_brings_39, k_X4_brings_42, k_X4_brings_44, k_X4_brings_45, k_X4_brings_47, k_X4_brings_48, k_X4_brings_51, k_X4_brings_54, k_X4_brings_55, k_X4_brings_58, k_X4_brings_59, k_X4_brings_62, k_X4_brings_63, wp1, wp_s, cutIn, kont, Nat.reduceSub, Nat.reduceAdd, nth, o_const, o_lconst, o_ref, o_iload, o_lload, o_aload, o_istore, o_lstore, o_astore, o_iinc, o_bin, o_div, o_un, o_lbin, o_lsh, o_lcmp, o_i2l, o_l2i, o_if, o_icmp, o_goto, o_dup, o_dup2, o_pop, fav, o_getf, o_putI, o_putZ, o_putL, o_ald, o_ast, o_alen, popn, rst, o_callV, o_callT, o_callS, swx, o_sw, o_ret, o_iret, o_zret, o_cret, o_lret, o_aret, lg, lput, lput2, ls1, isL, entL, wsum, rdI1, rdI2, rdA1, rdA21, rdA22, rdL1, rdL22, rdL21, upN_at, rep, sh_0, F_0_0, F_0_1, F_0_2, F_0_3, F_0_4, F_0_5, F_0_6, F_0_7, F_0_8, sh_1, F_1_0, F_1_1, F_1_2, F_1_3, F_1_4, F_1_5, sh_3, F_3_0, F_3_1, F_3_2, F_3_3, F_3_4, F_3_5, sh_5, F_5_0, F_5_1, F_5_2, F_5_3, F_5_4, F_5_5, F_5_6, F_5_7, F_5_8, sh_12, F_12_0, F_12_1, F_12_2, F_12_3, F_12_4, F_12_5, sh_14, F_14_0, F_14_1, F_14_2, F_14_3, F_14_4, F_14_5, F_14_6, F_14_7, F_14_8, sh_21, F_21_0, F_21_1, F_21_2, F_21_3, F_21_4, F_21_5, F_21_6, F_21_7, F_21_8, sh_28, F_28_0, F_28_1, F_28_2, F_28_3, F_28_4, F_28_5, F_28_6, F_28_7, F_28_8, sh_35, F_35_0, sh_39, F_39_0, F_39_1, F_39_2, F_39_3, F_39_4, F_39_5, F_39_6, F_39_7, F_39_8, F_39_9, F_39_10, F_39_11, F_39_12, F_39_13, A_2, A_4, A_6, A_7, A_8, A_9, A_10, A_11, A_13, A_15, A_16, A_17, A_18, A_19, A_20, A_22, A_23, A_24, A_25, A_26, A_27, A_29, A_30, A_31, A_32, A_33, A_34, A_36, A_37, A_38, A_40, A_41, A_42, A_43, A_44, A_45, A_46, A_47]
      have hms : mostI (brF r h0 n lk c) (i + 1) = nI (brF r h0 n lk c (bmi (brF r h0 n lk c) (i + 1))) := by unfold mostI; rw [if_neg (by omega)]
      by_cases hi0 : i = 0
      · subst hi0
        have e := bm_s1 (f := brF r h0 n lk c) (N := 0) (Or.inl rfl)
        refine ⟨fun q2 => absurd q2 (nm1 _ (by omega)), fun _ => cut _ _ ⟨rfl, rfl, hz, 0 + 1, f, g, by omega, hf, hg, rfl, rfl, rfl⟩ (by omega) ⟨rfl, rfl, vi_eq (by rw [e]), vi_eq (by rw [hms, e]), rfl, trivial⟩⟩
      · have hm0 : mostI (brF r h0 n lk c) i = nI (brF r h0 n lk c (bmi (brF r h0 n lk c) i)) := by unfold mostI; rw [if_neg hi0]
        have hFb := hF (bmi (brF r h0 n lk c) i)
        rw [hm0, nI_leI (by omega) (by omega)]
        refine ⟨fun q2 => ?_, fun q2 => ?_⟩
        · have e := bm_s0 hi0 q2
          exact cut _ _ ⟨rfl, rfl, hz, i + 1, f, g, by omega, hf, hg, rfl, rfl, rfl⟩ (by omega) ⟨rfl, rfl, vi_eq (by rw [e]), vi_eq (by rw [hms, e]), vi_eq (nI_1 _), trivial⟩
        · have e := bm_s1 (f := brF r h0 n lk c) (N := i) (Or.inr (by omega))
          exact cut _ _ ⟨rfl, rfl, hz, i + 1, f, g, by omega, hf, hg, rfl, rfl, rfl⟩ (by omega) ⟨rfl, rfl, vi_eq (by rw [e]), vi_eq (by rw [hms, e]), vi_eq (nI_1 _), trivial⟩
  · dsimp only [k_X4_brings_0, k_X4_brings_1, k_X4_brings_4, k_X4_brings_7, k_X4_brings_8, k_X4_brings_9, k_X4_brings_10, k_X4_brings_13, k_X4_brings_14, k_X4_brings_15, k_X4_brings_16, k_X4_brings_17, k_X4_brings_18, k_X4_brings_20, k_X4_brings_22, k_X4_brings_25, k_X4_brings_28, k_X4_brings_29, k_X4_brings_31, k_X4_brings_34, k_X4_brings_36, k_X4_brings_38, k_X4_brings_39, k_X4_brings_42, k_X4_brings_44, k_X4_brings_45, k_X4_brings_47, k_X4_brings_48, k_X4_brings_51, k_X4_brings_54, k_X4_brings_55, k_X4_brings_58, k_X4_brings_59, k_X4_brings_62, k_X4_brings_63, wp1, wp_s, cutIn, kont, Nat.reduceSub, Nat.reduceAdd, nth, o_const, o_lconst, o_ref, o_iload, o_lload, o_aload, o_istore, o_lstore, o_astore, o_iinc, o_bin, o_div, o_un, o_lbin, o_lsh, o_lcmp, o_i2l, o_l2i, o_if, o_icmp, o_goto, o_dup, o_dup2, o_pop, fav, o_getf, o_putI, o_putZ, o_putL, o_ald, o_ast, o_alen, popn, rst, o_callV, o_callT, o_callS, swx, o_sw, o_ret, o_iret, o_zret, o_cret, o_lret, o_aret, lg, lput, lput2, ls1, isL, entL, wsum, rdI1, rdI2, rdA1, rdA21, rdA22, rdL1, rdL22, rdL21, upN_at, rep, sh_0, F_0_0, F_0_1, F_0_2, F_0_3, F_0_4, F_0_5, F_0_6, F_0_7, F_0_8, sh_1, F_1_0, F_1_1, F_1_2, F_1_3, F_1_4, F_1_5, sh_3, F_3_0, F_3_1, F_3_2, F_3_3, F_3_4, F_3_5, sh_5, F_5_0, F_5_1, F_5_2, F_5_3, F_5_4, F_5_5, F_5_6, F_5_7, F_5_8, sh_12, F_12_0, F_12_1, F_12_2, F_12_3, F_12_4, F_12_5, sh_14, F_14_0, F_14_1, F_14_2, F_14_3, F_14_4, F_14_5, F_14_6, F_14_7, F_14_8, sh_21, F_21_0, F_21_1, F_21_2, F_21_3, F_21_4, F_21_5, F_21_6, F_21_7, F_21_8, sh_28, F_28_0, F_28_1, F_28_2, F_28_3, F_28_4, F_28_5, F_28_6, F_28_7, F_28_8, sh_35, F_35_0, sh_39, F_39_0, F_39_1, F_39_2, F_39_3, F_39_4, F_39_5, F_39_6, F_39_7, F_39_8, F_39_9, F_39_10, F_39_11, F_39_12, F_39_13, A_2, A_4, A_6, A_7, A_8, A_9, A_10, A_11, A_13, A_15, A_16, A_17, A_18, A_19, A_20, A_22, A_23, A_24, A_25, A_26, A_27, A_29, A_30, A_31, A_32, A_33, A_34, A_36, A_37, A_38, A_40, A_41, A_42, A_43, A_44, A_45, A_46, A_47]
    refine ⟨z, rfl, fun q => ?_, fun q => ?_⟩
    · dsimp only [k_X4_brings_0, k_X4_brings_1, k_X4_brings_4, k_X4_brings_7, k_X4_brings_8, k_X4_brings_9, k_X4_brings_10, k_X4_brings_13, k_X4_brings_14, k_X4_brings_15, k_X4_brings_16, k_X4_brings_17, k_X4_brings_18, k_X4_brings_20, k_X4_brings_22, k_X4_brings_25, k_X4_brings_28, k_X4_brings_29, k_X4_brings_31, k_X4_brings_34, k_X4_brings_36, k_X4_brings_38, k_X4_brings_39, k_X4_brings_42, k_X4_brings_44, k_X4_brings_45, k_X4_brings_47, k_X4_brings_48, k_X4_brings_51, k_X4_brings_54, k_X4_brings_55, k_X4_brings_58, k_X4_brings_59, k_X4_brings_62, k_X4_brings_63, wp1, wp_s, cutIn, kont, Nat.reduceSub, Nat.reduceAdd, nth, o_const, o_lconst, o_ref, o_iload, o_lload, o_aload, o_istore, o_lstore, o_astore, o_iinc, o_bin, o_div, o_un, o_lbin, o_lsh, o_lcmp, o_i2l, o_l2i, o_if, o_icmp, o_goto, o_dup, o_dup2, o_pop, fav, o_getf, o_putI, o_putZ, o_putL, o_ald, o_ast, o_alen, popn, rst, o_callV, o_callT, o_callS, swx, o_sw, o_ret, o_iret, o_zret, o_cret, o_lret, o_aret, lg, lput, lput2, ls1, isL, entL, wsum, rdI1, rdI2, rdA1, rdA21, rdA22, rdL1, rdL22, rdL21, upN_at, rep, sh_0, F_0_0, F_0_1, F_0_2, F_0_3, F_0_4, F_0_5, F_0_6, F_0_7, F_0_8, sh_1, F_1_0, F_1_1, F_1_2, F_1_3, F_1_4, F_1_5, sh_3, F_3_0, F_3_1, F_3_2, F_3_3, F_3_4, F_3_5, sh_5, F_5_0, F_5_1, F_5_2, F_5_3, F_5_4, F_5_5, F_5_6, F_5_7, F_5_8, sh_12, F_12_0, F_12_1, F_12_2, F_12_3, F_12_4, F_12_5, sh_14, F_14_0, F_14_1, F_14_2, F_14_3, F_14_4, F_14_5, F_14_6, F_14_7, F_14_8, sh_21, F_21_0, F_21_1, F_21_2, F_21_3, F_21_4, F_21_5, F_21_6, F_21_7, F_21_8, sh_28, F_28_0, F_28_1, F_28_2, F_28_3, F_28_4, F_28_5, F_28_6, F_28_7, F_28_8, sh_35, F_35_0, sh_39, F_39_0, F_39_1, F_39_2, F_39_3, F_39_4, F_39_5, F_39_6, F_39_7, F_39_8, F_39_9, F_39_10, F_39_11, F_39_12, F_39_13, A_2, A_4, A_6, A_7, A_8, A_9, A_10, A_11, A_13, A_15, A_16, A_17, A_18, A_19, A_20, A_22, A_23, A_24, A_25, A_26, A_27, A_29, A_30, A_31, A_32, A_33, A_34, A_36, A_37, A_38, A_40, A_41, A_42, A_43, A_44, A_45, A_46, A_47]
      refine ⟨fun q => absurd q (by decide), fun _ => ⟨n, c, p, r, h0, lk, rfl, hX0, fun f g hf hg => ?_⟩⟩
      dsimp only [k_X4_brings_0, k_X4_brings_1, k_X4_brings_4, k_X4_brings_7, k_X4_brings_8, k_X4_brings_9, k_X4_brings_10, k_X4_brings_13, k_X4_brings_14, k_X4_brings_15, k_X4_brings_16, k_X4_brings_17, k_X4_brings_18, k_X4_brings_20, k_X4_brings_22, k_X4_brings_25, k_X4_brings_28, k_X4_brings_29, k_X4_brings_31, k_X4_brings_34, k_X4_brings_36, k_X4_brings_38, k_X4_brings_39, k_X4_brings_42, k_X4_brings_44, k_X4_brings_45, k_X4_brings_47, k_X4_brings_48, k_X4_brings_51, k_X4_brings_54, k_X4_brings_55, k_X4_brings_58, k_X4_brings_59, k_X4_brings_62, k_X4_brings_63, wp1, wp_s, cutIn, kont, Nat.reduceSub, Nat.reduceAdd, nth, o_const, o_lconst, o_ref, o_iload, o_lload, o_aload, o_istore, o_lstore, o_astore, o_iinc, o_bin, o_div, o_un, o_lbin, o_lsh, o_lcmp, o_i2l, o_l2i, o_if, o_icmp, o_goto, o_dup, o_dup2, o_pop, fav, o_getf, o_putI, o_putZ, o_putL, o_ald, o_ast, o_alen, popn, rst, o_callV, o_callT, o_callS, swx, o_sw, o_ret, o_iret, o_zret, o_cret, o_lret, o_aret, lg, lput, lput2, ls1, isL, entL, wsum, rdI1, rdI2, rdA1, rdA21, rdA22, rdL1, rdL22, rdL21, upN_at, rep, sh_0, F_0_0, F_0_1, F_0_2, F_0_3, F_0_4, F_0_5, F_0_6, F_0_7, F_0_8, sh_1, F_1_0, F_1_1, F_1_2, F_1_3, F_1_4, F_1_5, sh_3, F_3_0, F_3_1, F_3_2, F_3_3, F_3_4, F_3_5, sh_5, F_5_0, F_5_1, F_5_2, F_5_3, F_5_4, F_5_5, F_5_6, F_5_7, F_5_8, sh_12, F_12_0, F_12_1, F_12_2, F_12_3, F_12_4, F_12_5, sh_14, F_14_0, F_14_1, F_14_2, F_14_3, F_14_4, F_14_5, F_14_6, F_14_7, F_14_8, sh_21, F_21_0, F_21_1, F_21_2, F_21_3, F_21_4, F_21_5, F_21_6, F_21_7, F_21_8, sh_28, F_28_0, F_28_1, F_28_2, F_28_3, F_28_4, F_28_5, F_28_6, F_28_7, F_28_8, sh_35, F_35_0, sh_39, F_39_0, F_39_1, F_39_2, F_39_3, F_39_4, F_39_5, F_39_6, F_39_7, F_39_8, F_39_9, F_39_10, F_39_11, F_39_12, F_39_13, A_2, A_4, A_6, A_7, A_8, A_9, A_10, A_11, A_13, A_15, A_16, A_17, A_18, A_19, A_20, A_22, A_23, A_24, A_25, A_26, A_27, A_29, A_30, A_31, A_32, A_33, A_34, A_36, A_37, A_38, A_40, A_41, A_42, A_43, A_44, A_45, A_46, A_47]
      exact cut _ _ ⟨rfl, rfl, q, 0, f, g, by omega, hf, hg, rfl, rfl, rfl⟩ (by omega) ⟨rfl, rfl, rfl, rfl, rfl, trivial⟩
    · dsimp only [k_X4_brings_0, k_X4_brings_1, k_X4_brings_4, k_X4_brings_7, k_X4_brings_8, k_X4_brings_9, k_X4_brings_10, k_X4_brings_13, k_X4_brings_14, k_X4_brings_15, k_X4_brings_16, k_X4_brings_17, k_X4_brings_18, k_X4_brings_20, k_X4_brings_22, k_X4_brings_25, k_X4_brings_28, k_X4_brings_29, k_X4_brings_31, k_X4_brings_34, k_X4_brings_36, k_X4_brings_38, k_X4_brings_39, k_X4_brings_42, k_X4_brings_44, k_X4_brings_45, k_X4_brings_47, k_X4_brings_48, k_X4_brings_51, k_X4_brings_54, k_X4_brings_55, k_X4_brings_58, k_X4_brings_59, k_X4_brings_62, k_X4_brings_63, wp1, wp_s, cutIn, kont, Nat.reduceSub, Nat.reduceAdd, nth, o_const, o_lconst, o_ref, o_iload, o_lload, o_aload, o_istore, o_lstore, o_astore, o_iinc, o_bin, o_div, o_un, o_lbin, o_lsh, o_lcmp, o_i2l, o_l2i, o_if, o_icmp, o_goto, o_dup, o_dup2, o_pop, fav, o_getf, o_putI, o_putZ, o_putL, o_ald, o_ast, o_alen, popn, rst, o_callV, o_callT, o_callS, swx, o_sw, o_ret, o_iret, o_zret, o_cret, o_lret, o_aret, lg, lput, lput2, ls1, isL, entL, wsum, rdI1, rdI2, rdA1, rdA21, rdA22, rdL1, rdL22, rdL21, upN_at, rep, sh_0, F_0_0, F_0_1, F_0_2, F_0_3, F_0_4, F_0_5, F_0_6, F_0_7, F_0_8, sh_1, F_1_0, F_1_1, F_1_2, F_1_3, F_1_4, F_1_5, sh_3, F_3_0, F_3_1, F_3_2, F_3_3, F_3_4, F_3_5, sh_5, F_5_0, F_5_1, F_5_2, F_5_3, F_5_4, F_5_5, F_5_6, F_5_7, F_5_8, sh_12, F_12_0, F_12_1, F_12_2, F_12_3, F_12_4, F_12_5, sh_14, F_14_0, F_14_1, F_14_2, F_14_3, F_14_4, F_14_5, F_14_6, F_14_7, F_14_8, sh_21, F_21_0, F_21_1, F_21_2, F_21_3, F_21_4, F_21_5, F_21_6, F_21_7, F_21_8, sh_28, F_28_0, F_28_1, F_28_2, F_28_3, F_28_4, F_28_5, F_28_6, F_28_7, F_28_8, sh_35, F_35_0, sh_39, F_39_0, F_39_1, F_39_2, F_39_3, F_39_4, F_39_5, F_39_6, F_39_7, F_39_8, F_39_9, F_39_10, F_39_11, F_39_12, F_39_13, A_2, A_4, A_6, A_7, A_8, A_9, A_10, A_11, A_13, A_15, A_16, A_17, A_18, A_19, A_20, A_22, A_23, A_24, A_25, A_26, A_27, A_29, A_30, A_31, A_32, A_33, A_34, A_36, A_37, A_38, A_40, A_41, A_42, A_43, A_44, A_45, A_46, A_47]
      exact ⟨fun _ => h1 q, fun q => absurd rfl q⟩
theorem c_X4_shut : Ctr yX4_shut cX4_shut 3 (some .int) ({ frames := 4, cells := 0, slots := 0, locals := 91 } : Room) S_X4_shut := ctr_of (T := T_X4_shut) (by decide +kernel) (fun post C hr => t_X4_shut post C hr) v_X4_shut
theorem c_X4_brings : Ctr yX4_brings cX4_brings 6 (some .int) ({ frames := 4, cells := 0, slots := 0, locals := 89 } : Room) S_X4_brings := ctr_of (T := T_X4_brings) (by decide +kernel) (fun post C hr => t_X4_brings post C hr) v_X4_brings
def bx (h : Nat → Int32) (n : Nat) : Nat := mk (fun k => h k == -4) n
def rbP (r : Nat → Nat) (h : Nat → Int32) (n p : Nat) (lk : Nat → Nat) (c lo g : Nat) : Bool := decide (lo &&& opn r n lk c (hd h g p n ||| bx h n) = lo)
def S_X4_rob : SP := fun as M post => ∃ x n c p r h lk, as = [VR 0, VI x] ∧ XW M n c p r h lk ∧ (¬ In x (2 ^ c - 1) → post (some (VI (-1))) M) ∧ (∀ lo, x = nI lo → lo &&& (2 ^ c - 1) = lo → ∀ f, post (some (VI (bsI (mnf (rbP r h n p lk c lo) (fun g => cn g 9) (2 ^ p))))) (sA 27 f M))
def apP (r : Nat → Nat) (h : Nat → Int32) (n row : Nat) : Bool := decide (row ≠ 0) && decide (rs (fsp r (us h n) n) row 9 = 0)
def wI (m : Option Nat) (w : Nat → Nat) : Int32 := match m with
  | none => -9
  | some b => nI (w b)
def S_X4_apart : SP := fun as M post => ∃ n c p r h lk, as = [VR 0] ∧ XW M n c p r h lk ∧ ∀ f, post (some (VI (wI (mnf (apP r h n) (fun T => cn T 9) 512) (fun T => cn T 9)))) (sA 27 f M)
theorem cw_RX4_163 : ∀ w ∈ ([.methodLink RX4 163 yX0_allLocks, .instanceMethod yX0_allLocks, .selects yX0_allLocks.cls yX0_allLocks yX0_allLocks, .initialized yX0_allLocks.cls, .code yX0_allLocks cX0_allLocks 1 (some .int)] : List Cond), w ∈ tb := tb_all [549, 550, 551, 56, 552] (by decide +kernel) (by decide +kernel)
theorem cw_RX4_166 : ∀ w ∈ ([.methodLink RX4 166 yX1_keptBy, .instanceMethod yX1_keptBy, .selects yX1_keptBy.cls yX1_keptBy yX1_keptBy, .initialized yX1_keptBy.cls, .code yX1_keptBy cX1_keptBy 4 (some .int)] : List Cond), w ∈ tb := tb_all [553, 402, 403, 57, 404] (by decide +kernel) (by decide +kernel)
theorem dX4_rob_0 : decode cX4_rob 0 = .ok (.iload_n 1, 1) := by decide +kernel
theorem dX4_rob_1 : decode cX4_rob 1 = .ok (.aload_n 0, 1) := by decide +kernel
theorem dX4_rob_2 : decode cX4_rob 2 = .ok (.getfield 19, 3) := by decide +kernel
theorem dX4_rob_5 : decode cX4_rob 5 = .ok (.invokevirtual 163, 3) := by decide +kernel
theorem dX4_rob_8 : decode cX4_rob 8 = .ok (.invokestatic 97, 3) := by decide +kernel
theorem dX4_rob_11 : decode cX4_rob 11 = .ok (.ifCond .ne 5, 3) := by decide +kernel
theorem dX4_rob_14 : decode cX4_rob 14 = .ok (.iconst (-1), 1) := by decide +kernel
theorem dX4_rob_15 : decode cX4_rob 15 = .ok (.ireturn, 1) := by decide +kernel
theorem dX4_rob_16 : decode cX4_rob 16 = .ok (.aload_n 0, 1) := by decide +kernel
theorem dX4_rob_17 : decode cX4_rob 17 = .ok (.getfield 19, 3) := by decide +kernel
theorem dX4_rob_20 : decode cX4_rob 20 = .ok (.getfield 71, 3) := by decide +kernel
theorem dX4_rob_23 : decode cX4_rob 23 = .ok (.bipush (-4), 2) := by decide +kernel
theorem dX4_rob_25 : decode cX4_rob 25 = .ok (.invokevirtual 166, 3) := by decide +kernel
theorem dX4_rob_28 : decode cX4_rob 28 = .ok (.istore_n 2, 1) := by decide +kernel
theorem dX4_rob_29 : decode cX4_rob 29 = .ok (.bipush (-9), 2) := by decide +kernel
theorem dX4_rob_31 : decode cX4_rob 31 = .ok (.istore_n 3, 1) := by decide +kernel
theorem dX4_rob_32 : decode cX4_rob 32 = .ok (.iconst 5, 1) := by decide +kernel
theorem dX4_rob_33 : decode cX4_rob 33 = .ok (.istore 4, 2) := by decide +kernel
theorem dX4_rob_35 : decode cX4_rob 35 = .ok (.iconst 0, 1) := by decide +kernel
theorem dX4_rob_36 : decode cX4_rob 36 = .ok (.istore 5, 2) := by decide +kernel
theorem dX4_rob_38 : decode cX4_rob 38 = .ok (.iload 5, 2) := by decide +kernel
theorem dX4_rob_40 : decode cX4_rob 40 = .ok (.aload_n 0, 1) := by decide +kernel
theorem dX4_rob_41 : decode cX4_rob 41 = .ok (.getfield 19, 3) := by decide +kernel
theorem dX4_rob_44 : decode cX4_rob 44 = .ok (.invokevirtual 137, 3) := by decide +kernel
theorem dX4_rob_47 : decode cX4_rob 47 = .ok (.if_icmp .gt 51, 3) := by decide +kernel
theorem dX4_rob_50 : decode cX4_rob 50 = .ok (.iload 5, 2) := by decide +kernel
theorem dX4_rob_52 : decode cX4_rob 52 = .ok (.invokestatic 132, 3) := by decide +kernel
theorem dX4_rob_55 : decode cX4_rob 55 = .ok (.iload 4, 2) := by decide +kernel
theorem dX4_rob_57 : decode cX4_rob 57 = .ok (.if_icmp .ge 35, 3) := by decide +kernel
theorem dX4_rob_60 : decode cX4_rob 60 = .ok (.iload_n 1, 1) := by decide +kernel
theorem dX4_rob_61 : decode cX4_rob 61 = .ok (.aload_n 0, 1) := by decide +kernel
theorem dX4_rob_62 : decode cX4_rob 62 = .ok (.aload_n 0, 1) := by decide +kernel
theorem dX4_rob_63 : decode cX4_rob 63 = .ok (.getfield 19, 3) := by decide +kernel
theorem dX4_rob_66 : decode cX4_rob 66 = .ok (.iload 5, 2) := by decide +kernel
theorem dX4_rob_68 : decode cX4_rob 68 = .ok (.invokevirtual 140, 3) := by decide +kernel
theorem dX4_rob_71 : decode cX4_rob 71 = .ok (.iload_n 2, 1) := by decide +kernel
theorem dX4_rob_72 : decode cX4_rob 72 = .ok (.ior, 1) := by decide +kernel
theorem dX4_rob_73 : decode cX4_rob 73 = .ok (.invokevirtual 143, 3) := by decide +kernel
theorem dX4_rob_76 : decode cX4_rob 76 = .ok (.invokestatic 97, 3) := by decide +kernel
theorem dX4_rob_79 : decode cX4_rob 79 = .ok (.ifCond .eq 13, 3) := by decide +kernel
theorem dX4_rob_82 : decode cX4_rob 82 = .ok (.iload 5, 2) := by decide +kernel
theorem dX4_rob_84 : decode cX4_rob 84 = .ok (.istore_n 3, 1) := by decide +kernel
theorem dX4_rob_85 : decode cX4_rob 85 = .ok (.iload 5, 2) := by decide +kernel
theorem dX4_rob_87 : decode cX4_rob 87 = .ok (.invokestatic 132, 3) := by decide +kernel
theorem dX4_rob_90 : decode cX4_rob 90 = .ok (.istore 4, 2) := by decide +kernel
theorem dX4_rob_92 : decode cX4_rob 92 = .ok (.iinc 5 1, 3) := by decide +kernel
theorem dX4_rob_95 : decode cX4_rob 95 = .ok (.goto (-57), 3) := by decide +kernel
theorem dX4_rob_98 : decode cX4_rob 98 = .ok (.iload_n 3, 1) := by decide +kernel
theorem dX4_rob_99 : decode cX4_rob 99 = .ok (.ireturn, 1) := by decide +kernel
def T_X4_rob (post : PO) : List (Nat × OP) := [(0, o_iload 1 1), (1, o_aload 0 2), (2, o_getf 4 1 5), (5, o_callV 0 S_X0_allLocks 0 8), (8, o_callS S_X4_within 2 11), (11, o_if (fun x => x = 0) 14 16), (14, o_const (-1) 15), (15, o_iret post), (16, o_aload 0 17), (17, o_getf 4 1 20), (20, o_getf 0 0 23), (23, o_const (-4) 25), (25, o_callV 1 S_X1_keptBy 1 28), (28, o_istore 2 29), (29, o_const (-9) 31), (31, o_istore 3 32), (32, o_const 5 33), (33, o_istore 4 35), (35, o_const 0 36), (36, o_istore 5 38), (38, o_iload 5 40), (40, o_aload 0 41), (41, o_getf 4 1 44), (44, o_callV 0 S_X0_everybody 0 47), (47, o_icmp (fun x y => y < x) 98 50), (50, o_iload 5 52), (52, o_callS S_J6_bitCount_0f7a4 1 55), (55, o_iload 4 57), (57, o_icmp (fun x y => y ≤ x) 92 60), (60, o_iload 1 61), (61, o_aload 0 62), (62, o_aload 0 63), (63, o_getf 4 1 66), (66, o_iload 5 68), (68, o_callV 0 S_X0_heldBy 1 71), (71, o_iload 2 72), (72, o_bin (fun x y => x ||| y) 73), (73, o_callV 4 S_X4_openedBy 1 76), (76, o_callS S_X4_within 2 79), (79, o_if (fun x => x = 0) 92 82), (82, o_iload 5 84), (84, o_istore 3 85), (85, o_iload 5 87), (87, o_callS S_J6_bitCount_0f7a4 1 90), (90, o_istore 4 92), (92, o_iinc 5 1 95), (95, o_goto 38), (98, o_iload 3 99), (99, o_iret post)]
theorem k_X4_rob_0 (post : PO) : lk (T_X4_rob post) 0 = o_iload 1 1 := rfl
theorem k_X4_rob_1 (post : PO) : lk (T_X4_rob post) 1 = o_aload 0 2 := rfl
theorem k_X4_rob_2 (post : PO) : lk (T_X4_rob post) 2 = o_getf 4 1 5 := rfl
theorem k_X4_rob_5 (post : PO) : lk (T_X4_rob post) 5 = o_callV 0 S_X0_allLocks 0 8 := rfl
theorem k_X4_rob_8 (post : PO) : lk (T_X4_rob post) 8 = o_callS S_X4_within 2 11 := rfl
theorem k_X4_rob_11 (post : PO) : lk (T_X4_rob post) 11 = o_if (fun x => x = 0) 14 16 := rfl
theorem k_X4_rob_14 (post : PO) : lk (T_X4_rob post) 14 = o_const (-1) 15 := rfl
theorem k_X4_rob_15 (post : PO) : lk (T_X4_rob post) 15 = o_iret post := rfl
theorem k_X4_rob_16 (post : PO) : lk (T_X4_rob post) 16 = o_aload 0 17 := rfl
theorem k_X4_rob_17 (post : PO) : lk (T_X4_rob post) 17 = o_getf 4 1 20 := rfl
theorem k_X4_rob_20 (post : PO) : lk (T_X4_rob post) 20 = o_getf 0 0 23 := rfl
theorem k_X4_rob_23 (post : PO) : lk (T_X4_rob post) 23 = o_const (-4) 25 := rfl
theorem k_X4_rob_25 (post : PO) : lk (T_X4_rob post) 25 = o_callV 1 S_X1_keptBy 1 28 := rfl
theorem k_X4_rob_28 (post : PO) : lk (T_X4_rob post) 28 = o_istore 2 29 := rfl
theorem k_X4_rob_29 (post : PO) : lk (T_X4_rob post) 29 = o_const (-9) 31 := rfl
theorem k_X4_rob_31 (post : PO) : lk (T_X4_rob post) 31 = o_istore 3 32 := rfl
theorem k_X4_rob_32 (post : PO) : lk (T_X4_rob post) 32 = o_const 5 33 := rfl
theorem k_X4_rob_33 (post : PO) : lk (T_X4_rob post) 33 = o_istore 4 35 := rfl
theorem k_X4_rob_35 (post : PO) : lk (T_X4_rob post) 35 = o_const 0 36 := rfl
theorem k_X4_rob_36 (post : PO) : lk (T_X4_rob post) 36 = o_istore 5 38 := rfl
theorem k_X4_rob_38 (post : PO) : lk (T_X4_rob post) 38 = o_iload 5 40 := rfl
theorem k_X4_rob_40 (post : PO) : lk (T_X4_rob post) 40 = o_aload 0 41 := rfl
theorem k_X4_rob_41 (post : PO) : lk (T_X4_rob post) 41 = o_getf 4 1 44 := rfl
theorem k_X4_rob_44 (post : PO) : lk (T_X4_rob post) 44 = o_callV 0 S_X0_everybody 0 47 := rfl
theorem k_X4_rob_47 (post : PO) : lk (T_X4_rob post) 47 = o_icmp (fun x y => y < x) 98 50 := rfl
theorem k_X4_rob_50 (post : PO) : lk (T_X4_rob post) 50 = o_iload 5 52 := rfl
theorem k_X4_rob_52 (post : PO) : lk (T_X4_rob post) 52 = o_callS S_J6_bitCount_0f7a4 1 55 := rfl
theorem k_X4_rob_55 (post : PO) : lk (T_X4_rob post) 55 = o_iload 4 57 := rfl
theorem k_X4_rob_57 (post : PO) : lk (T_X4_rob post) 57 = o_icmp (fun x y => y ≤ x) 92 60 := rfl
theorem k_X4_rob_60 (post : PO) : lk (T_X4_rob post) 60 = o_iload 1 61 := rfl
theorem k_X4_rob_61 (post : PO) : lk (T_X4_rob post) 61 = o_aload 0 62 := rfl
theorem k_X4_rob_62 (post : PO) : lk (T_X4_rob post) 62 = o_aload 0 63 := rfl
theorem k_X4_rob_63 (post : PO) : lk (T_X4_rob post) 63 = o_getf 4 1 66 := rfl
theorem k_X4_rob_66 (post : PO) : lk (T_X4_rob post) 66 = o_iload 5 68 := rfl
theorem k_X4_rob_68 (post : PO) : lk (T_X4_rob post) 68 = o_callV 0 S_X0_heldBy 1 71 := rfl
theorem k_X4_rob_71 (post : PO) : lk (T_X4_rob post) 71 = o_iload 2 72 := rfl
theorem k_X4_rob_72 (post : PO) : lk (T_X4_rob post) 72 = o_bin (fun x y => x ||| y) 73 := rfl
theorem k_X4_rob_73 (post : PO) : lk (T_X4_rob post) 73 = o_callV 4 S_X4_openedBy 1 76 := rfl
theorem k_X4_rob_76 (post : PO) : lk (T_X4_rob post) 76 = o_callS S_X4_within 2 79 := rfl
theorem k_X4_rob_79 (post : PO) : lk (T_X4_rob post) 79 = o_if (fun x => x = 0) 92 82 := rfl
theorem k_X4_rob_82 (post : PO) : lk (T_X4_rob post) 82 = o_iload 5 84 := rfl
theorem k_X4_rob_84 (post : PO) : lk (T_X4_rob post) 84 = o_istore 3 85 := rfl
theorem k_X4_rob_85 (post : PO) : lk (T_X4_rob post) 85 = o_iload 5 87 := rfl
theorem k_X4_rob_87 (post : PO) : lk (T_X4_rob post) 87 = o_callS S_J6_bitCount_0f7a4 1 90 := rfl
theorem k_X4_rob_90 (post : PO) : lk (T_X4_rob post) 90 = o_istore 4 92 := rfl
theorem k_X4_rob_92 (post : PO) : lk (T_X4_rob post) 92 = o_iinc 5 1 95 := rfl
theorem k_X4_rob_95 (post : PO) : lk (T_X4_rob post) 95 = o_goto 38 := rfl
theorem k_X4_rob_98 (post : PO) : lk (T_X4_rob post) 98 = o_iload 3 99 := rfl
theorem k_X4_rob_99 (post : PO) : lk (T_X4_rob post) 99 = o_iret post := rfl
set_option maxRecDepth 100000 in
theorem t_X4_rob {p : Program} {l : Launch} {e : Env} {s : State} {m : MethodId} {args : Array Value} {below : List Frame} {meth : Method} {c : Code} {D : va_G} {dA : Nat → ClassId} {ad : Nat → Nat} (post : PO) (C : CX p s m args meth c cX4_rob 6 yX4_rob.cls D dA ad (AA ad s.heap.size)) (hr : meth.sig.returnType = (some .int)) : SndL (WW p l e ({ frames := 4, cells := 0, slots := 0, locals := 91 } : Room) s m args below meth c 0 0 (MQ below (CQ D dA ad post (AA ad s.heap.size)) args s 0 0 (AA ad s.heap.size)) 6 D dA ad (AA ad s.heap.size)) (T_X4_rob post) := by
  refine snd_c (s_iload_n C rfl dX4_rob_0) ?_
  refine snd_c (s_aload_n C rfl dX4_rob_1) ?_
  refine snd_c (s_getf C (ci := 4) (j := 1) (T := TX4) rfl inX4 (by decide) fl_RX4_19 dX4_rob_2) ?_
  refine snd_c (s_callV C (ci := 0) c_X0_allLocks rfl cw_RX4_163 ⟨rfl, rfl⟩ ⟨by decide +kernel, by decide +kernel, by decide +kernel⟩ ⟨by decide, by decide⟩ ⟨Nat.zero_le _, Nat.zero_le _⟩ dX4_rob_5) ?_
  refine snd_c (s_callS C c_X4_within cw_RX4_97 ⟨rfl, rfl⟩ ⟨by decide +kernel, by decide +kernel, by decide +kernel⟩ ⟨by decide, by decide⟩ ⟨Nat.zero_le _, Nat.zero_le _⟩ dX4_rob_8) ?_
  refine snd_c (s_if_ne C dX4_rob_11 (by decide)) ?_
  refine snd_c (s_iconst C dX4_rob_14 rfl) ?_
  refine snd_c (s_iret C hr dX4_rob_15) ?_
  refine snd_c (s_aload_n C rfl dX4_rob_16) ?_
  refine snd_c (s_getf C (ci := 4) (j := 1) (T := TX4) rfl inX4 (by decide) fl_RX4_19 dX4_rob_17) ?_
  refine snd_c (s_getf C (ci := 0) (j := 0) (T := TX0) rfl inX0 (by decide) fl_RX4_71 dX4_rob_20) ?_
  refine snd_c (s_bipush C dX4_rob_23 rfl) ?_
  refine snd_c (s_callV C (ci := 1) c_X1_keptBy rfl cw_RX4_166 ⟨rfl, rfl⟩ ⟨by decide +kernel, by decide +kernel, by decide +kernel⟩ ⟨by decide, by decide⟩ ⟨Nat.zero_le _, Nat.zero_le _⟩ dX4_rob_25) ?_
  refine snd_c (s_istore_n C rfl (by decide) dX4_rob_28) ?_
  refine snd_c (s_bipush C dX4_rob_29 rfl) ?_
  refine snd_c (s_istore_n C rfl (by decide) dX4_rob_31) ?_
  refine snd_c (s_iconst C dX4_rob_32 rfl) ?_
  refine snd_c (s_istore C (by decide) dX4_rob_33) ?_
  refine snd_c (s_iconst C dX4_rob_35 rfl) ?_
  refine snd_c (s_istore C (by decide) dX4_rob_36) ?_
  refine snd_c (s_iload C dX4_rob_38) ?_
  refine snd_c (s_aload_n C rfl dX4_rob_40) ?_
  refine snd_c (s_getf C (ci := 4) (j := 1) (T := TX4) rfl inX4 (by decide) fl_RX4_19 dX4_rob_41) ?_
  refine snd_c (s_callV C (ci := 0) c_X0_everybody rfl cw_RX4_137 ⟨rfl, rfl⟩ ⟨by decide +kernel, by decide +kernel, by decide +kernel⟩ ⟨by decide, by decide⟩ ⟨Nat.zero_le _, Nat.zero_le _⟩ dX4_rob_44) ?_
  refine snd_c (s_icmp_gt C dX4_rob_47 (by decide)) ?_
  refine snd_c (s_iload C dX4_rob_50) ?_
  refine snd_c (s_callS C c_J6_bitCount_0f7a4 cw_RX4_132 ⟨rfl, rfl⟩ ⟨by decide +kernel, by decide +kernel, by decide +kernel⟩ ⟨by decide, by decide⟩ ⟨Nat.zero_le _, Nat.zero_le _⟩ dX4_rob_52) ?_
  refine snd_c (s_iload C dX4_rob_55) ?_
  refine snd_c (s_icmp_ge C dX4_rob_57 (by decide)) ?_
  refine snd_c (s_iload_n C rfl dX4_rob_60) ?_
  refine snd_c (s_aload_n C rfl dX4_rob_61) ?_
  refine snd_c (s_aload_n C rfl dX4_rob_62) ?_
  refine snd_c (s_getf C (ci := 4) (j := 1) (T := TX4) rfl inX4 (by decide) fl_RX4_19 dX4_rob_63) ?_
  refine snd_c (s_iload C dX4_rob_66) ?_
  refine snd_c (s_callV C (ci := 0) c_X0_heldBy rfl cw_RX4_140 ⟨rfl, rfl⟩ ⟨by decide +kernel, by decide +kernel, by decide +kernel⟩ ⟨by decide, by decide⟩ ⟨Nat.zero_le _, Nat.zero_le _⟩ dX4_rob_68) ?_
  refine snd_c (s_iload_n C rfl dX4_rob_71) ?_
  refine snd_c (s_ior C dX4_rob_72) ?_
  refine snd_c (s_callV C (ci := 4) c_X4_openedBy rfl cw_RX4_143 ⟨rfl, rfl⟩ ⟨by decide +kernel, by decide +kernel, by decide +kernel⟩ ⟨by decide, by decide⟩ ⟨Nat.zero_le _, Nat.zero_le _⟩ dX4_rob_73) ?_
  refine snd_c (s_callS C c_X4_within cw_RX4_97 ⟨rfl, rfl⟩ ⟨by decide +kernel, by decide +kernel, by decide +kernel⟩ ⟨by decide, by decide⟩ ⟨Nat.zero_le _, Nat.zero_le _⟩ dX4_rob_76) ?_
  refine snd_c (s_if_eq C dX4_rob_79 (by decide)) ?_
  refine snd_c (s_iload C dX4_rob_82) ?_
  refine snd_c (s_istore_n C rfl (by decide) dX4_rob_84) ?_
  refine snd_c (s_iload C dX4_rob_85) ?_
  refine snd_c (s_callS C c_J6_bitCount_0f7a4 cw_RX4_132 ⟨rfl, rfl⟩ ⟨by decide +kernel, by decide +kernel, by decide +kernel⟩ ⟨by decide, by decide⟩ ⟨Nat.zero_le _, Nat.zero_le _⟩ dX4_rob_87) ?_
  refine snd_c (s_istore C (by decide) dX4_rob_90) ?_
  refine snd_c (s_iinc C (by decide) rfl dX4_rob_92) ?_
  refine snd_c (s_goto C dX4_rob_95 (by decide)) ?_
  refine snd_c (s_iload_n C rfl dX4_rob_98) ?_
  refine snd_c (s_iret C hr dX4_rob_99) ?_
  exact trivial
theorem dX4_apart_0 : decode cX4_apart 0 = .ok (.aload_n 0, 1) := by decide +kernel
theorem dX4_apart_1 : decode cX4_apart 1 = .ok (.aload_n 0, 1) := by decide +kernel
theorem dX4_apart_2 : decode cX4_apart 2 = .ok (.getfield 19, 3) := by decide +kernel
theorem dX4_apart_5 : decode cX4_apart 5 = .ok (.getfield 71, 3) := by decide +kernel
theorem dX4_apart_8 : decode cX4_apart 8 = .ok (.invokevirtual 93, 3) := by decide +kernel
theorem dX4_apart_11 : decode cX4_apart 11 = .ok (.invokevirtual 169, 3) := by decide +kernel
theorem dX4_apart_14 : decode cX4_apart 14 = .ok (.bipush 10, 2) := by decide +kernel
theorem dX4_apart_16 : decode cX4_apart 16 = .ok (.istore_n 1, 1) := by decide +kernel
theorem dX4_apart_17 : decode cX4_apart 17 = .ok (.iconst 1, 1) := by decide +kernel
theorem dX4_apart_18 : decode cX4_apart 18 = .ok (.istore_n 2, 1) := by decide +kernel
theorem dX4_apart_19 : decode cX4_apart 19 = .ok (.iload_n 2, 1) := by decide +kernel
theorem dX4_apart_20 : decode cX4_apart 20 = .ok (.sipush 512, 3) := by decide +kernel
theorem dX4_apart_23 : decode cX4_apart 23 = .ok (.if_icmp .ge 33, 3) := by decide +kernel
theorem dX4_apart_26 : decode cX4_apart 26 = .ok (.iload_n 2, 1) := by decide +kernel
theorem dX4_apart_27 : decode cX4_apart 27 = .ok (.invokestatic 132, 3) := by decide +kernel
theorem dX4_apart_30 : decode cX4_apart 30 = .ok (.iload_n 1, 1) := by decide +kernel
theorem dX4_apart_31 : decode cX4_apart 31 = .ok (.if_icmp .ge 19, 3) := by decide +kernel
theorem dX4_apart_34 : decode cX4_apart 34 = .ok (.aload_n 0, 1) := by decide +kernel
theorem dX4_apart_35 : decode cX4_apart 35 = .ok (.getfield 39, 3) := by decide +kernel
theorem dX4_apart_38 : decode cX4_apart 38 = .ok (.iload_n 2, 1) := by decide +kernel
theorem dX4_apart_39 : decode cX4_apart 39 = .ok (.invokevirtual 172, 3) := by decide +kernel
theorem dX4_apart_42 : decode cX4_apart 42 = .ok (.ifCond .eq 8, 3) := by decide +kernel
theorem dX4_apart_45 : decode cX4_apart 45 = .ok (.iload_n 2, 1) := by decide +kernel
theorem dX4_apart_46 : decode cX4_apart 46 = .ok (.invokestatic 132, 3) := by decide +kernel
theorem dX4_apart_49 : decode cX4_apart 49 = .ok (.istore_n 1, 1) := by decide +kernel
theorem dX4_apart_50 : decode cX4_apart 50 = .ok (.iinc 2 1, 3) := by decide +kernel
theorem dX4_apart_53 : decode cX4_apart 53 = .ok (.goto (-34), 3) := by decide +kernel
theorem dX4_apart_56 : decode cX4_apart 56 = .ok (.iload_n 1, 1) := by decide +kernel
theorem dX4_apart_57 : decode cX4_apart 57 = .ok (.bipush 9, 2) := by decide +kernel
theorem dX4_apart_59 : decode cX4_apart 59 = .ok (.if_icmp .le 8, 3) := by decide +kernel
theorem dX4_apart_62 : decode cX4_apart 62 = .ok (.bipush (-9), 2) := by decide +kernel
theorem dX4_apart_64 : decode cX4_apart 64 = .ok (.goto 4, 3) := by decide +kernel
theorem dX4_apart_67 : decode cX4_apart 67 = .ok (.iload_n 1, 1) := by decide +kernel
theorem dX4_apart_68 : decode cX4_apart 68 = .ok (.ireturn, 1) := by decide +kernel
def T_X4_apart (post : PO) : List (Nat × OP) := [(0, o_aload 0 1), (1, o_aload 0 2), (2, o_getf 4 1 5), (5, o_getf 0 0 8), (8, o_callV 1 S_X1_usable 0 11), (11, o_callV 4 S_X4_fillSpan 1 14), (14, o_const 10 16), (16, o_istore 1 17), (17, o_const 1 18), (18, o_istore 2 19), (19, o_iload 2 20), (20, o_const 512 23), (23, o_icmp (fun x y => y ≤ x) 56 26), (26, o_iload 2 27), (27, o_callS S_J6_bitCount_0f7a4 1 30), (30, o_iload 1 31), (31, o_icmp (fun x y => y ≤ x) 50 34), (34, o_aload 0 35), (35, o_getf 4 5 38), (38, o_iload 2 39), (39, o_callV 2 S_X2_makes 1 42), (42, o_if (fun x => x = 0) 50 45), (45, o_iload 2 46), (46, o_callS S_J6_bitCount_0f7a4 1 49), (49, o_istore 1 50), (50, o_iinc 2 1 53), (53, o_goto 19), (56, o_iload 1 57), (57, o_const 9 59), (59, o_icmp (fun x y => x ≤ y) 67 62), (62, o_const (-9) 64), (64, o_goto 68), (67, o_iload 1 68), (68, o_iret post)]
theorem k_X4_apart_0 (post : PO) : lk (T_X4_apart post) 0 = o_aload 0 1 := rfl
theorem k_X4_apart_1 (post : PO) : lk (T_X4_apart post) 1 = o_aload 0 2 := rfl
theorem k_X4_apart_2 (post : PO) : lk (T_X4_apart post) 2 = o_getf 4 1 5 := rfl
theorem k_X4_apart_5 (post : PO) : lk (T_X4_apart post) 5 = o_getf 0 0 8 := rfl
theorem k_X4_apart_8 (post : PO) : lk (T_X4_apart post) 8 = o_callV 1 S_X1_usable 0 11 := rfl
theorem k_X4_apart_11 (post : PO) : lk (T_X4_apart post) 11 = o_callV 4 S_X4_fillSpan 1 14 := rfl
theorem k_X4_apart_14 (post : PO) : lk (T_X4_apart post) 14 = o_const 10 16 := rfl
theorem k_X4_apart_16 (post : PO) : lk (T_X4_apart post) 16 = o_istore 1 17 := rfl
theorem k_X4_apart_17 (post : PO) : lk (T_X4_apart post) 17 = o_const 1 18 := rfl
theorem k_X4_apart_18 (post : PO) : lk (T_X4_apart post) 18 = o_istore 2 19 := rfl
theorem k_X4_apart_19 (post : PO) : lk (T_X4_apart post) 19 = o_iload 2 20 := rfl
theorem k_X4_apart_20 (post : PO) : lk (T_X4_apart post) 20 = o_const 512 23 := rfl
theorem k_X4_apart_23 (post : PO) : lk (T_X4_apart post) 23 = o_icmp (fun x y => y ≤ x) 56 26 := rfl
theorem k_X4_apart_26 (post : PO) : lk (T_X4_apart post) 26 = o_iload 2 27 := rfl
theorem k_X4_apart_27 (post : PO) : lk (T_X4_apart post) 27 = o_callS S_J6_bitCount_0f7a4 1 30 := rfl
theorem k_X4_apart_30 (post : PO) : lk (T_X4_apart post) 30 = o_iload 1 31 := rfl
theorem k_X4_apart_31 (post : PO) : lk (T_X4_apart post) 31 = o_icmp (fun x y => y ≤ x) 50 34 := rfl
theorem k_X4_apart_34 (post : PO) : lk (T_X4_apart post) 34 = o_aload 0 35 := rfl
theorem k_X4_apart_35 (post : PO) : lk (T_X4_apart post) 35 = o_getf 4 5 38 := rfl
theorem k_X4_apart_38 (post : PO) : lk (T_X4_apart post) 38 = o_iload 2 39 := rfl
theorem k_X4_apart_39 (post : PO) : lk (T_X4_apart post) 39 = o_callV 2 S_X2_makes 1 42 := rfl
theorem k_X4_apart_42 (post : PO) : lk (T_X4_apart post) 42 = o_if (fun x => x = 0) 50 45 := rfl
theorem k_X4_apart_45 (post : PO) : lk (T_X4_apart post) 45 = o_iload 2 46 := rfl
theorem k_X4_apart_46 (post : PO) : lk (T_X4_apart post) 46 = o_callS S_J6_bitCount_0f7a4 1 49 := rfl
theorem k_X4_apart_49 (post : PO) : lk (T_X4_apart post) 49 = o_istore 1 50 := rfl
theorem k_X4_apart_50 (post : PO) : lk (T_X4_apart post) 50 = o_iinc 2 1 53 := rfl
theorem k_X4_apart_53 (post : PO) : lk (T_X4_apart post) 53 = o_goto 19 := rfl
theorem k_X4_apart_56 (post : PO) : lk (T_X4_apart post) 56 = o_iload 1 57 := rfl
theorem k_X4_apart_57 (post : PO) : lk (T_X4_apart post) 57 = o_const 9 59 := rfl
theorem k_X4_apart_59 (post : PO) : lk (T_X4_apart post) 59 = o_icmp (fun x y => x ≤ y) 67 62 := rfl
theorem k_X4_apart_62 (post : PO) : lk (T_X4_apart post) 62 = o_const (-9) 64 := rfl
theorem k_X4_apart_64 (post : PO) : lk (T_X4_apart post) 64 = o_goto 68 := rfl
theorem k_X4_apart_67 (post : PO) : lk (T_X4_apart post) 67 = o_iload 1 68 := rfl
theorem k_X4_apart_68 (post : PO) : lk (T_X4_apart post) 68 = o_iret post := rfl
set_option maxRecDepth 100000 in
theorem t_X4_apart {p : Program} {l : Launch} {e : Env} {s : State} {m : MethodId} {args : Array Value} {below : List Frame} {meth : Method} {c : Code} {D : va_G} {dA : Nat → ClassId} {ad : Nat → Nat} (post : PO) (C : CX p s m args meth c cX4_apart 3 yX4_apart.cls D dA ad (AA ad s.heap.size)) (hr : meth.sig.returnType = (some .int)) : SndL (WW p l e ({ frames := 3, cells := 0, slots := 0, locals := 68 } : Room) s m args below meth c 0 0 (MQ below (CQ D dA ad post (AA ad s.heap.size)) args s 0 0 (AA ad s.heap.size)) 3 D dA ad (AA ad s.heap.size)) (T_X4_apart post) := by
  refine snd_c (s_aload_n C rfl dX4_apart_0) ?_
  refine snd_c (s_aload_n C rfl dX4_apart_1) ?_
  refine snd_c (s_getf C (ci := 4) (j := 1) (T := TX4) rfl inX4 (by decide) fl_RX4_19 dX4_apart_2) ?_
  refine snd_c (s_getf C (ci := 0) (j := 0) (T := TX0) rfl inX0 (by decide) fl_RX4_71 dX4_apart_5) ?_
  refine snd_c (s_callV C (ci := 1) c_X1_usable rfl cw_RX4_93 ⟨rfl, rfl⟩ ⟨by decide +kernel, by decide +kernel, by decide +kernel⟩ ⟨by decide, by decide⟩ ⟨Nat.zero_le _, Nat.zero_le _⟩ dX4_apart_8) ?_
  refine snd_c (s_callV C (ci := 4) c_X4_fillSpan rfl cw_RX4_169 ⟨rfl, rfl⟩ ⟨by decide +kernel, by decide +kernel, by decide +kernel⟩ ⟨by decide, by decide⟩ ⟨Nat.zero_le _, Nat.zero_le _⟩ dX4_apart_11) ?_
  refine snd_c (s_bipush C dX4_apart_14 rfl) ?_
  refine snd_c (s_istore_n C rfl (by decide) dX4_apart_16) ?_
  refine snd_c (s_iconst C dX4_apart_17 rfl) ?_
  refine snd_c (s_istore_n C rfl (by decide) dX4_apart_18) ?_
  refine snd_c (s_iload_n C rfl dX4_apart_19) ?_
  refine snd_c (s_sipush C dX4_apart_20 rfl) ?_
  refine snd_c (s_icmp_ge C dX4_apart_23 (by decide)) ?_
  refine snd_c (s_iload_n C rfl dX4_apart_26) ?_
  refine snd_c (s_callS C c_J6_bitCount_0f7a4 cw_RX4_132 ⟨rfl, rfl⟩ ⟨by decide +kernel, by decide +kernel, by decide +kernel⟩ ⟨by decide, by decide⟩ ⟨Nat.zero_le _, Nat.zero_le _⟩ dX4_apart_27) ?_
  refine snd_c (s_iload_n C rfl dX4_apart_30) ?_
  refine snd_c (s_icmp_ge C dX4_apart_31 (by decide)) ?_
  refine snd_c (s_aload_n C rfl dX4_apart_34) ?_
  refine snd_c (s_getf C (ci := 4) (j := 5) (T := TX4) rfl inX4 (by decide) fl_RX4_39 dX4_apart_35) ?_
  refine snd_c (s_iload_n C rfl dX4_apart_38) ?_
  refine snd_c (s_callV C (ci := 2) c_X2_makes rfl cw_RX4_172 ⟨rfl, rfl⟩ ⟨by decide +kernel, by decide +kernel, by decide +kernel⟩ ⟨by decide, by decide⟩ ⟨Nat.zero_le _, Nat.zero_le _⟩ dX4_apart_39) ?_
  refine snd_c (s_if_eq C dX4_apart_42 (by decide)) ?_
  refine snd_c (s_iload_n C rfl dX4_apart_45) ?_
  refine snd_c (s_callS C c_J6_bitCount_0f7a4 cw_RX4_132 ⟨rfl, rfl⟩ ⟨by decide +kernel, by decide +kernel, by decide +kernel⟩ ⟨by decide, by decide⟩ ⟨Nat.zero_le _, Nat.zero_le _⟩ dX4_apart_46) ?_
  refine snd_c (s_istore_n C rfl (by decide) dX4_apart_49) ?_
  refine snd_c (s_iinc C (by decide) rfl dX4_apart_50) ?_
  refine snd_c (s_goto C dX4_apart_53 (by decide)) ?_
  refine snd_c (s_iload_n C rfl dX4_apart_56) ?_
  refine snd_c (s_bipush C dX4_apart_57 rfl) ?_
  refine snd_c (s_icmp_le C dX4_apart_59 (by decide)) ?_
  refine snd_c (s_bipush C dX4_apart_62 rfl) ?_
  refine snd_c (s_goto C dX4_apart_64 (by decide)) ?_
  refine snd_c (s_iload_n C rfl dX4_apart_67) ?_
  refine snd_c (s_iret C hr dX4_apart_68) ?_
  exact trivial
theorem cn4 : ∀ g, g < 16 → cn g 9 ≤ 4 := by decide
theorem lsI_le {P : Nat → Bool} {w : Nat → Nat} {lim n : Nat} (hw : w n ≤ lim) (hb : ∀ b, mnf P w n = some b → w b < 2 ^ 31) (hl : lim < 1000) : lsI (mnf P w n) w lim ≤ nI (w n) ↔ ∃ b, mnf P w n = some b ∧ w b ≤ w n := by
  cases hm : mnf P w n with
  | none =>
    unfold lsI
    dsimp only
    rw [nI_leI (by omega) (by omega)]
    exact ⟨fun z => by omega, fun ⟨b, z, _⟩ => by cases z⟩
  | some b =>
    unfold lsI
    dsimp only
    rw [nI_leI (hb b hm) (by omega)]
    exact ⟨fun z => ⟨b, rfl, z⟩, fun ⟨b', z, z2⟩ => by cases z; exact z2⟩
set_option maxRecDepth 100000 in
theorem v_X4_rob : ∀ as M post, S_X4_rob as M post → wsum as ≤ 6 ∧ RUN (T_X4_rob post) 0 (entL 6 as) [] M := by
  rintro as M post ⟨x, n, c, p, r, h0, lk, rfl, hX, h1, h2⟩
  have hX0 := hX
  obtain ⟨hn, hn8, hc, hc6, hp, hp4, hr, hhk, hl⟩ := hX
  have hev := ev_lt hp4
  have hpp := Nat.one_le_two_pow (n := p)
  have hec : 2 ^ c - 1 < 64 := by
    have := Nat.pow_le_pow_right (n := 2) (by omega) hc6
    omega
  have hbx : bx h0 n < 256 := Nat.lt_of_lt_of_le (mk_lt _ n) (Nat.pow_le_pow_right (n := 2) (by omega) hn8)
  have hbe : mk (fun k => M.2.2 3 k == -4) n = bx h0 n := mk_congr fun k hk => by rw [hhk k hk]
  refine ⟨by show 2 ≤ 6; omega, run_of [38] (fun μ pc lv st M' => st = [] ∧ pc = 38 ∧ ∃ lo g f, x = nI lo ∧ lo &&& (2 ^ c - 1) = lo ∧ lo < 64 ∧ g ≤ 2 ^ p ∧ M' = sA 27 f M ∧ 1000 - g = μ ∧ lv = [some (VR 0), some (VI x), some (VI (nI (bx h0 n))), some (VI (bsI (mnf (rbP r h0 n p lk c lo) (fun g => cn g 9) g))), some (VI (lsI (mnf (rbP r h0 n p lk c lo) (fun g => cn g 9) g) (fun g => cn g 9) 4)), some (VI (nI g))]) 60 2000 ?_ ?_⟩
  · rintro μ pc lv st M' ⟨rfl, rfl, lo, g, f, rfl, hlo, hlo2, hg, rfl, rfl, rfl⟩
    dsimp only [k_X4_rob_0, k_X4_rob_1, k_X4_rob_2, k_X4_rob_5, k_X4_rob_8, k_X4_rob_11, k_X4_rob_14, k_X4_rob_15, k_X4_rob_16, k_X4_rob_17, k_X4_rob_20, k_X4_rob_23, k_X4_rob_25, k_X4_rob_28, k_X4_rob_29, k_X4_rob_31, k_X4_rob_32, k_X4_rob_33, k_X4_rob_35, k_X4_rob_36, k_X4_rob_38, k_X4_rob_40, k_X4_rob_41, k_X4_rob_44, k_X4_rob_47, k_X4_rob_50, k_X4_rob_52, k_X4_rob_55, k_X4_rob_57, k_X4_rob_60, k_X4_rob_61, k_X4_rob_62, k_X4_rob_63, k_X4_rob_66, k_X4_rob_68, k_X4_rob_71, k_X4_rob_72, k_X4_rob_73, k_X4_rob_76, k_X4_rob_79, k_X4_rob_82, k_X4_rob_84, k_X4_rob_85, k_X4_rob_87, k_X4_rob_90, k_X4_rob_92, k_X4_rob_95, k_X4_rob_98, k_X4_rob_99, wp1, wp_s, cutIn, kont, Nat.reduceSub, Nat.reduceAdd, nth, o_const, o_lconst, o_ref, o_iload, o_lload, o_aload, o_istore, o_lstore, o_astore, o_iinc, o_bin, o_div, o_un, o_lbin, o_lsh, o_lcmp, o_i2l, o_l2i, o_if, o_icmp, o_goto, o_dup, o_dup2, o_pop, fav, o_getf, o_putI, o_putZ, o_putL, o_ald, o_ast, o_alen, popn, rst, o_callV, o_callT, o_callS, swx, o_sw, o_ret, o_iret, o_zret, o_cret, o_lret, o_aret, lg, lput, lput2, ls1, isL, entL, wsum, rdI1, rdI2, rdA1, rdA21, rdA22, rdL1, rdL22, rdL21, upN_at, rep, sh_0, F_0_0, F_0_1, F_0_2, F_0_3, F_0_4, F_0_5, F_0_6, F_0_7, F_0_8, sh_1, F_1_0, F_1_1, F_1_2, F_1_3, F_1_4, F_1_5, sh_3, F_3_0, F_3_1, F_3_2, F_3_3, F_3_4, F_3_5, sh_5, F_5_0, F_5_1, F_5_2, F_5_3, F_5_4, F_5_5, F_5_6, F_5_7, F_5_8, sh_12, F_12_0, F_12_1, F_12_2, F_12_3, F_12_4, F_12_5, sh_14, F_14_0, F_14_1, F_14_2, F_14_3, F_14_4, F_14_5, F_14_6, F_14_7, F_14_8, sh_21, F_21_0, F_21_1, F_21_2, F_21_3, F_21_4, F_21_5, F_21_6, F_21_7, F_21_8, sh_28, F_28_0, F_28_1, F_28_2, F_28_3, F_28_4, F_28_5, F_28_6, F_28_7, F_28_8, sh_35, F_35_0, sh_39, F_39_0, F_39_1, F_39_2, F_39_3, F_39_4, F_39_5, F_39_6, F_39_7, F_39_8, F_39_9, F_39_10, F_39_11, F_39_12, F_39_13, A_2, A_4, A_6, A_7, A_8, A_9, A_10, A_11, A_13, A_15, A_16, A_17, A_18, A_19, A_20, A_22, A_23, A_24, A_25, A_26, A_27, A_29, A_30, A_31, A_32, A_33, A_34, A_36, A_37, A_38, A_40, A_41, A_42, A_43, A_44, A_45, A_46, A_47]
    refine ⟨p, rfl, hp, hp4, ?_⟩
    dsimp only [k_X4_rob_0, k_X4_rob_1, k_X4_rob_2, k_X4_rob_5, k_X4_rob_8, k_X4_rob_11, k_X4_rob_14, k_X4_rob_15, k_X4_rob_16, k_X4_rob_17, k_X4_rob_20, k_X4_rob_23, k_X4_rob_25, k_X4_rob_28, k_X4_rob_29, k_X4_rob_31, k_X4_rob_32, k_X4_rob_33, k_X4_rob_35, k_X4_rob_36, k_X4_rob_38, k_X4_rob_40, k_X4_rob_41, k_X4_rob_44, k_X4_rob_47, k_X4_rob_50, k_X4_rob_52, k_X4_rob_55, k_X4_rob_57, k_X4_rob_60, k_X4_rob_61, k_X4_rob_62, k_X4_rob_63, k_X4_rob_66, k_X4_rob_68, k_X4_rob_71, k_X4_rob_72, k_X4_rob_73, k_X4_rob_76, k_X4_rob_79, k_X4_rob_82, k_X4_rob_84, k_X4_rob_85, k_X4_rob_87, k_X4_rob_90, k_X4_rob_92, k_X4_rob_95, k_X4_rob_98, k_X4_rob_99, wp1, wp_s, cutIn, kont, Nat.reduceSub, Nat.reduceAdd, nth, o_const, o_lconst, o_ref, o_iload, o_lload, o_aload, o_istore, o_lstore, o_astore, o_iinc, o_bin, o_div, o_un, o_lbin, o_lsh, o_lcmp, o_i2l, o_l2i, o_if, o_icmp, o_goto, o_dup, o_dup2, o_pop, fav, o_getf, o_putI, o_putZ, o_putL, o_ald, o_ast, o_alen, popn, rst, o_callV, o_callT, o_callS, swx, o_sw, o_ret, o_iret, o_zret, o_cret, o_lret, o_aret, lg, lput, lput2, ls1, isL, entL, wsum, rdI1, rdI2, rdA1, rdA21, rdA22, rdL1, rdL22, rdL21, upN_at, rep, sh_0, F_0_0, F_0_1, F_0_2, F_0_3, F_0_4, F_0_5, F_0_6, F_0_7, F_0_8, sh_1, F_1_0, F_1_1, F_1_2, F_1_3, F_1_4, F_1_5, sh_3, F_3_0, F_3_1, F_3_2, F_3_3, F_3_4, F_3_5, sh_5, F_5_0, F_5_1, F_5_2, F_5_3, F_5_4, F_5_5, F_5_6, F_5_7, F_5_8, sh_12, F_12_0, F_12_1, F_12_2, F_12_3, F_12_4, F_12_5, sh_14, F_14_0, F_14_1, F_14_2, F_14_3, F_14_4, F_14_5, F_14_6, F_14_7, F_14_8, sh_21, F_21_0, F_21_1, F_21_2, F_21_3, F_21_4, F_21_5, F_21_6, F_21_7, F_21_8, sh_28, F_28_0, F_28_1, F_28_2, F_28_3, F_28_4, F_28_5, F_28_6, F_28_7, F_28_8, sh_35, F_35_0, sh_39, F_39_0, F_39_1, F_39_2, F_39_3, F_39_4, F_39_5, F_39_6, F_39_7, F_39_8, F_39_9, F_39_10, F_39_11, F_39_12, F_39_13, A_2, A_4, A_6, A_7, A_8, A_9, A_10, A_11, A_13, A_15, A_16, A_17, A_18, A_19, A_20, A_22, A_23, A_24, A_25, A_26, A_27, A_29, A_30, A_31, A_32, A_33, A_34, A_36, A_37, A_38, A_40, A_41, A_42, A_43, A_44, A_45, A_46, A_47]
    simp (disch := omega) only [nI_leI, nI_ltI, nI_eq, nI_1, nI_add, one_shl, nI_or, nI_xor, nI_and, bit_0, bit_1, true_or, or_true, true_and, and_true, eq_self, not_true_eq_false, not_false_eq_true, forall_const]
    refine ⟨fun q => ?_, fun q => ?_⟩
    · have h := h2 lo rfl hlo f
      rw [show 2 ^ p = g by omega] at h
      exact h
    · have hg1 : g + 1 ≤ 2 ^ p := by omega
      have hg2 : 1000 - (g + 1) < 1000 - g := by omega
      have hg3 : g < 16 := by omega
      refine ⟨g, rfl, by omega, ?_⟩
      have hcg := cn4 g (by omega)
      have hle := lsI_le (P := rbP r h0 n p lk c lo) (w := fun g => cn g 9) (lim := 4) (n := g) hcg (fun b hb => by have := cn_le b 9; show cn b 9 < 2 ^ 31; omega) (by omega)
      dsimp only [k_X4_rob_0, k_X4_rob_1, k_X4_rob_2, k_X4_rob_5, k_X4_rob_8, k_X4_rob_11, k_X4_rob_14, k_X4_rob_15, k_X4_rob_16, k_X4_rob_17, k_X4_rob_20, k_X4_rob_23, k_X4_rob_25, k_X4_rob_28, k_X4_rob_29, k_X4_rob_31, k_X4_rob_32, k_X4_rob_33, k_X4_rob_35, k_X4_rob_36, k_X4_rob_38, k_X4_rob_40, k_X4_rob_41, k_X4_rob_44, k_X4_rob_47, k_X4_rob_50, k_X4_rob_52, k_X4_rob_55, k_X4_rob_57, k_X4_rob_60, k_X4_rob_61, k_X4_rob_62, k_X4_rob_63, k_X4_rob_66, k_X4_rob_68, k_X4_rob_71, k_X4_rob_72, k_X4_rob_73, k_X4_rob_76, k_X4_rob_79, k_X4_rob_82, k_X4_rob_84, k_X4_rob_85, k_X4_rob_87, k_X4_rob_90, k_X4_rob_92, k_X4_rob_95, k_X4_rob_98, k_X4_rob_99, wp1, wp_s, cutIn, kont, Nat.reduceSub, Nat.reduceAdd, nth, o_const, o_lconst, o_ref, o_iload, o_lload, o_aload, o_istore, o_lstore, o_astore, o_iinc, o_bin, o_div, o_un, o_lbin, o_lsh, o_lcmp, o_i2l, o_l2i, o_if, o_icmp, o_goto, o_dup, o_dup2, o_pop, fav, o_getf, o_putI, o_putZ, o_putL, o_ald, o_ast, o_alen, popn, rst, o_callV, o_callT, o_callS, swx, o_sw, o_ret, o_iret, o_zret, o_cret, o_lret, o_aret, lg, lput, lput2, ls1, isL, entL, wsum, rdI1, rdI2, rdA1, rdA21, rdA22, rdL1, rdL22, rdL21, upN_at, rep, sh_0, F_0_0, F_0_1, F_0_2, F_0_3, F_0_4, F_0_5, F_0_6, F_0_7, F_0_8, sh_1, F_1_0, F_1_1, F_1_2, F_1_3, F_1_4, F_1_5, sh_3, F_3_0, F_3_1, F_3_2, F_3_3, F_3_4, F_3_5, sh_5, F_5_0, F_5_1, F_5_2, F_5_3, F_5_4, F_5_5, F_5_6, F_5_7, F_5_8, sh_12, F_12_0, F_12_1, F_12_2, F_12_3, F_12_4, F_12_5, sh_14, F_14_0, F_14_1, F_14_2, F_14_3, F_14_4, F_14_5, F_14_6, F_14_7, F_14_8, sh_21, F_21_0, F_21_1, F_21_2, F_21_3, F_21_4, F_21_5, F_21_6, F_21_7, F_21_8, sh_28, F_28_0, F_28_1, F_28_2, F_28_3, F_28_4, F_28_5, F_28_6, F_28_7, F_28_8, sh_35, F_35_0, sh_39, F_39_0, F_39_1, F_39_2, F_39_3, F_39_4, F_39_5, F_39_6, F_39_7, F_39_8, F_39_9, F_39_10, F_39_11, F_39_12, F_39_13, A_2, A_4, A_6, A_7, A_8, A_9, A_10, A_11, A_13, A_15, A_16, A_17, A_18, A_19, A_20, A_22, A_23, A_24, A_25, A_26, A_27, A_29, A_30, A_31, A_32, A_33, A_34, A_36, A_37, A_38, A_40, A_41, A_42, A_43, A_44, A_45, A_46, A_47]
      rw [hle]
      refine ⟨fun q2 => ?_, fun q2 => ⟨g, p, n, rfl, by omega, hp, hp4, hn, hn8, ?_⟩⟩
      · have hs := mnf_s0 (P := rbP r h0 n p lk c lo) (w := fun g => cn g 9) (n := g) (fun _ => q2)
        exact cut _ _ ⟨rfl, rfl, lo, g + 1, f, rfl, hlo, hlo2, hg1, rfl, rfl, rfl⟩ hg2 ⟨rfl, rfl, rfl, vi_eq (by rw [hs]), vi_eq (by rw [hs]), vi_eq (nI_1 _), trivial⟩
      · rw [show mk (hh ((sA 27 f M).2.2 3) g p) n = hd h0 g p n from hd_congr hhk _ p]
        have hdl := hd_lt h0 g p hn8
        dsimp only [k_X4_rob_0, k_X4_rob_1, k_X4_rob_2, k_X4_rob_5, k_X4_rob_8, k_X4_rob_11, k_X4_rob_14, k_X4_rob_15, k_X4_rob_16, k_X4_rob_17, k_X4_rob_20, k_X4_rob_23, k_X4_rob_25, k_X4_rob_28, k_X4_rob_29, k_X4_rob_31, k_X4_rob_32, k_X4_rob_33, k_X4_rob_35, k_X4_rob_36, k_X4_rob_38, k_X4_rob_40, k_X4_rob_41, k_X4_rob_44, k_X4_rob_47, k_X4_rob_50, k_X4_rob_52, k_X4_rob_55, k_X4_rob_57, k_X4_rob_60, k_X4_rob_61, k_X4_rob_62, k_X4_rob_63, k_X4_rob_66, k_X4_rob_68, k_X4_rob_71, k_X4_rob_72, k_X4_rob_73, k_X4_rob_76, k_X4_rob_79, k_X4_rob_82, k_X4_rob_84, k_X4_rob_85, k_X4_rob_87, k_X4_rob_90, k_X4_rob_92, k_X4_rob_95, k_X4_rob_98, k_X4_rob_99, wp1, wp_s, cutIn, kont, Nat.reduceSub, Nat.reduceAdd, nth, o_const, o_lconst, o_ref, o_iload, o_lload, o_aload, o_istore, o_lstore, o_astore, o_iinc, o_bin, o_div, o_un, o_lbin, o_lsh, o_lcmp, o_i2l, o_l2i, o_if, o_icmp, o_goto, o_dup, o_dup2, o_pop, fav, o_getf, o_putI, o_putZ, o_putL, o_ald, o_ast, o_alen, popn, rst, o_callV, o_callT, o_callS, swx, o_sw, o_ret, o_iret, o_zret, o_cret, o_lret, o_aret, lg, lput, lput2, ls1, isL, entL, wsum, rdI1, rdI2, rdA1, rdA21, rdA22, rdL1, rdL22, rdL21, upN_at, rep, sh_0, F_0_0, F_0_1, F_0_2, F_0_3, F_0_4, F_0_5, F_0_6, F_0_7, F_0_8, sh_1, F_1_0, F_1_1, F_1_2, F_1_3, F_1_4, F_1_5, sh_3, F_3_0, F_3_1, F_3_2, F_3_3, F_3_4, F_3_5, sh_5, F_5_0, F_5_1, F_5_2, F_5_3, F_5_4, F_5_5, F_5_6, F_5_7, F_5_8, sh_12, F_12_0, F_12_1, F_12_2, F_12_3, F_12_4, F_12_5, sh_14, F_14_0, F_14_1, F_14_2, F_14_3, F_14_4, F_14_5, F_14_6, F_14_7, F_14_8, sh_21, F_21_0, F_21_1, F_21_2, F_21_3, F_21_4, F_21_5, F_21_6, F_21_7, F_21_8, sh_28, F_28_0, F_28_1, F_28_2, F_28_3, F_28_4, F_28_5, F_28_6, F_28_7, F_28_8, sh_35, F_35_0, sh_39, F_39_0, F_39_1, F_39_2, F_39_3, F_39_4, F_39_5, F_39_6, F_39_7, F_39_8, F_39_9, F_39_10, F_39_11, F_39_12, F_39_13, A_2, A_4, A_6, A_7, A_8, A_9, A_10, A_11, A_13, A_15, A_16, A_17, A_18, A_19, A_20, A_22, A_23, A_24, A_25, A_26, A_27, A_29, A_30, A_31, A_32, A_33, A_34, A_36, A_37, A_38, A_40, A_41, A_42, A_43, A_44, A_45, A_46, A_47]
        rw [nI_or]
        have hor : hd h0 g p n ||| bx h0 n < 256 := Nat.or_lt_two_pow (n := 8) hdl hbx
        refine ⟨_, n, c, p, r, h0, lk, rfl, by omega, XW_27 hX0 f, fun f2 => ?_⟩
        have hol := opn_lt r n lk hc6 (hd h0 g p n ||| bx h0 n)
        dsimp only [k_X4_rob_0, k_X4_rob_1, k_X4_rob_2, k_X4_rob_5, k_X4_rob_8, k_X4_rob_11, k_X4_rob_14, k_X4_rob_15, k_X4_rob_16, k_X4_rob_17, k_X4_rob_20, k_X4_rob_23, k_X4_rob_25, k_X4_rob_28, k_X4_rob_29, k_X4_rob_31, k_X4_rob_32, k_X4_rob_33, k_X4_rob_35, k_X4_rob_36, k_X4_rob_38, k_X4_rob_40, k_X4_rob_41, k_X4_rob_44, k_X4_rob_47, k_X4_rob_50, k_X4_rob_52, k_X4_rob_55, k_X4_rob_57, k_X4_rob_60, k_X4_rob_61, k_X4_rob_62, k_X4_rob_63, k_X4_rob_66, k_X4_rob_68, k_X4_rob_71, k_X4_rob_72, k_X4_rob_73, k_X4_rob_76, k_X4_rob_79, k_X4_rob_82, k_X4_rob_84, k_X4_rob_85, k_X4_rob_87, k_X4_rob_90, k_X4_rob_92, k_X4_rob_95, k_X4_rob_98, k_X4_rob_99, wp1, wp_s, cutIn, kont, Nat.reduceSub, Nat.reduceAdd, nth, o_const, o_lconst, o_ref, o_iload, o_lload, o_aload, o_istore, o_lstore, o_astore, o_iinc, o_bin, o_div, o_un, o_lbin, o_lsh, o_lcmp, o_i2l, o_l2i, o_if, o_icmp, o_goto, o_dup, o_dup2, o_pop, fav, o_getf, o_putI, o_putZ, o_putL, o_ald, o_ast, o_alen, popn, rst, o_callV, o_callT, o_callS, swx, o_sw, o_ret, o_iret, o_zret, o_cret, o_lret, o_aret, lg, lput, lput2, ls1, isL, entL, wsum, rdI1, rdI2, rdA1, rdA21, rdA22, rdL1, rdL22, rdL21, upN_at, rep, sh_0, F_0_0, F_0_1, F_0_2, F_0_3, F_0_4, F_0_5, F_0_6, F_0_7, F_0_8, sh_1, F_1_0, F_1_1, F_1_2, F_1_3, F_1_4, F_1_5, sh_3, F_3_0, F_3_1, F_3_2, F_3_3, F_3_4, F_3_5, sh_5, F_5_0, F_5_1, F_5_2, F_5_3, F_5_4, F_5_5, F_5_6, F_5_7, F_5_8, sh_12, F_12_0, F_12_1, F_12_2, F_12_3, F_12_4, F_12_5, sh_14, F_14_0, F_14_1, F_14_2, F_14_3, F_14_4, F_14_5, F_14_6, F_14_7, F_14_8, sh_21, F_21_0, F_21_1, F_21_2, F_21_3, F_21_4, F_21_5, F_21_6, F_21_7, F_21_8, sh_28, F_28_0, F_28_1, F_28_2, F_28_3, F_28_4, F_28_5, F_28_6, F_28_7, F_28_8, sh_35, F_35_0, sh_39, F_39_0, F_39_1, F_39_2, F_39_3, F_39_4, F_39_5, F_39_6, F_39_7, F_39_8, F_39_9, F_39_10, F_39_11, F_39_12, F_39_13, A_2, A_4, A_6, A_7, A_8, A_9, A_10, A_11, A_13, A_15, A_16, A_17, A_18, A_19, A_20, A_22, A_23, A_24, A_25, A_26, A_27, A_29, A_30, A_31, A_32, A_33, A_34, A_36, A_37, A_38, A_40, A_41, A_42, A_43, A_44, A_45, A_46, A_47]
        refine ⟨_, _, rfl, fun q3 => ?_, fun q3 => ?_⟩
        · rw [In_nI (by omega) (by omega)] at q3
          dsimp only [k_X4_rob_0, k_X4_rob_1, k_X4_rob_2, k_X4_rob_5, k_X4_rob_8, k_X4_rob_11, k_X4_rob_14, k_X4_rob_15, k_X4_rob_16, k_X4_rob_17, k_X4_rob_20, k_X4_rob_23, k_X4_rob_25, k_X4_rob_28, k_X4_rob_29, k_X4_rob_31, k_X4_rob_32, k_X4_rob_33, k_X4_rob_35, k_X4_rob_36, k_X4_rob_38, k_X4_rob_40, k_X4_rob_41, k_X4_rob_44, k_X4_rob_47, k_X4_rob_50, k_X4_rob_52, k_X4_rob_55, k_X4_rob_57, k_X4_rob_60, k_X4_rob_61, k_X4_rob_62, k_X4_rob_63, k_X4_rob_66, k_X4_rob_68, k_X4_rob_71, k_X4_rob_72, k_X4_rob_73, k_X4_rob_76, k_X4_rob_79, k_X4_rob_82, k_X4_rob_84, k_X4_rob_85, k_X4_rob_87, k_X4_rob_90, k_X4_rob_92, k_X4_rob_95, k_X4_rob_98, k_X4_rob_99, wp1, wp_s, cutIn, kont, Nat.reduceSub, Nat.reduceAdd, nth, o_const, o_lconst, o_ref, o_iload, o_lload, o_aload, o_istore, o_lstore, o_astore, o_iinc, o_bin, o_div, o_un, o_lbin, o_lsh, o_lcmp, o_i2l, o_l2i, o_if, o_icmp, o_goto, o_dup, o_dup2, o_pop, fav, o_getf, o_putI, o_putZ, o_putL, o_ald, o_ast, o_alen, popn, rst, o_callV, o_callT, o_callS, swx, o_sw, o_ret, o_iret, o_zret, o_cret, o_lret, o_aret, lg, lput, lput2, ls1, isL, entL, wsum, rdI1, rdI2, rdA1, rdA21, rdA22, rdL1, rdL22, rdL21, upN_at, rep, sh_0, F_0_0, F_0_1, F_0_2, F_0_3, F_0_4, F_0_5, F_0_6, F_0_7, F_0_8, sh_1, F_1_0, F_1_1, F_1_2, F_1_3, F_1_4, F_1_5, sh_3, F_3_0, F_3_1, F_3_2, F_3_3, F_3_4, F_3_5, sh_5, F_5_0, F_5_1, F_5_2, F_5_3, F_5_4, F_5_5, F_5_6, F_5_7, F_5_8, sh_12, F_12_0, F_12_1, F_12_2, F_12_3, F_12_4, F_12_5, sh_14, F_14_0, F_14_1, F_14_2, F_14_3, F_14_4, F_14_5, F_14_6, F_14_7, F_14_8, sh_21, F_21_0, F_21_1, F_21_2, F_21_3, F_21_4, F_21_5, F_21_6, F_21_7, F_21_8, sh_28, F_28_0, F_28_1, F_28_2, F_28_3, F_28_4, F_28_5, F_28_6, F_28_7, F_28_8, sh_35, F_35_0, sh_39, F_39_0, F_39_1, F_39_2, F_39_3, F_39_4, F_39_5, F_39_6, F_39_7, F_39_8, F_39_9, F_39_10, F_39_11, F_39_12, F_39_13, A_2, A_4, A_6, A_7, A_8, A_9, A_10, A_11, A_13, A_15, A_16, A_17, A_18, A_19, A_20, A_22, A_23, A_24, A_25, A_26, A_27, A_29, A_30, A_31, A_32, A_33, A_34, A_36, A_37, A_38, A_40, A_41, A_42, A_43, A_44, A_45, A_46, A_47]
          refine ⟨fun q => absurd q (by decide), fun _ => ⟨g, rfl, by omega, ?_⟩⟩
          have hs := mnf_s1 (P := rbP r h0 n p lk c lo) (w := fun g => cn g 9) (n := g) (by simp [rbP, q3]) (fun b hb => Nat.lt_of_not_le fun z => q2 ⟨b, hb, z⟩)
          dsimp only [k_X4_rob_0, k_X4_rob_1, k_X4_rob_2, k_X4_rob_5, k_X4_rob_8, k_X4_rob_11, k_X4_rob_14, k_X4_rob_15, k_X4_rob_16, k_X4_rob_17, k_X4_rob_20, k_X4_rob_23, k_X4_rob_25, k_X4_rob_28, k_X4_rob_29, k_X4_rob_31, k_X4_rob_32, k_X4_rob_33, k_X4_rob_35, k_X4_rob_36, k_X4_rob_38, k_X4_rob_40, k_X4_rob_41, k_X4_rob_44, k_X4_rob_47, k_X4_rob_50, k_X4_rob_52, k_X4_rob_55, k_X4_rob_57, k_X4_rob_60, k_X4_rob_61, k_X4_rob_62, k_X4_rob_63, k_X4_rob_66, k_X4_rob_68, k_X4_rob_71, k_X4_rob_72, k_X4_rob_73, k_X4_rob_76, k_X4_rob_79, k_X4_rob_82, k_X4_rob_84, k_X4_rob_85, k_X4_rob_87, k_X4_rob_90, k_X4_rob_92, k_X4_rob_95, k_X4_rob_98, k_X4_rob_99, wp1, wp_s, cutIn, kont, Nat.reduceSub, Nat.reduceAdd, nth, o_const, o_lconst, o_ref, o_iload, o_lload, o_aload, o_istore, o_lstore, o_astore, o_iinc, o_bin, o_div, o_un, o_lbin, o_lsh, o_lcmp, o_i2l, o_l2i, o_if, o_icmp, o_goto, o_dup, o_dup2, o_pop, fav, o_getf, o_putI, o_putZ, o_putL, o_ald, o_ast, o_alen, popn, rst, o_callV, o_callT, o_callS, swx, o_sw, o_ret, o_iret, o_zret, o_cret, o_lret, o_aret, lg, lput, lput2, ls1, isL, entL, wsum, rdI1, rdI2, rdA1, rdA21, rdA22, rdL1, rdL22, rdL21, upN_at, rep, sh_0, F_0_0, F_0_1, F_0_2, F_0_3, F_0_4, F_0_5, F_0_6, F_0_7, F_0_8, sh_1, F_1_0, F_1_1, F_1_2, F_1_3, F_1_4, F_1_5, sh_3, F_3_0, F_3_1, F_3_2, F_3_3, F_3_4, F_3_5, sh_5, F_5_0, F_5_1, F_5_2, F_5_3, F_5_4, F_5_5, F_5_6, F_5_7, F_5_8, sh_12, F_12_0, F_12_1, F_12_2, F_12_3, F_12_4, F_12_5, sh_14, F_14_0, F_14_1, F_14_2, F_14_3, F_14_4, F_14_5, F_14_6, F_14_7, F_14_8, sh_21, F_21_0, F_21_1, F_21_2, F_21_3, F_21_4, F_21_5, F_21_6, F_21_7, F_21_8, sh_28, F_28_0, F_28_1, F_28_2, F_28_3, F_28_4, F_28_5, F_28_6, F_28_7, F_28_8, sh_35, F_35_0, sh_39, F_39_0, F_39_1, F_39_2, F_39_3, F_39_4, F_39_5, F_39_6, F_39_7, F_39_8, F_39_9, F_39_10, F_39_11, F_39_12, F_39_13, A_2, A_4, A_6, A_7, A_8, A_9, A_10, A_11, A_13, A_15, A_16, A_17, A_18, A_19, A_20, A_22, A_23, A_24, A_25, A_26, A_27, A_29, A_30, A_31, A_32, A_33, A_34, A_36, A_37, A_38, A_40, A_41, A_42, A_43, A_44, A_45, A_46, A_47]
          exact cut _ _ ⟨rfl, rfl, lo, g + 1, f2, rfl, hlo, hlo2, hg1, by rw [sA_sA], rfl, rfl⟩ hg2 ⟨rfl, rfl, rfl, vi_eq (by rw [hs]; rfl), vi_eq (by rw [hs]; rfl), vi_eq (nI_1 _), trivial⟩
        · rw [In_nI (by omega) (by omega)] at q3
          dsimp only [k_X4_rob_0, k_X4_rob_1, k_X4_rob_2, k_X4_rob_5, k_X4_rob_8, k_X4_rob_11, k_X4_rob_14, k_X4_rob_15, k_X4_rob_16, k_X4_rob_17, k_X4_rob_20, k_X4_rob_23, k_X4_rob_25, k_X4_rob_28, k_X4_rob_29, k_X4_rob_31, k_X4_rob_32, k_X4_rob_33, k_X4_rob_35, k_X4_rob_36, k_X4_rob_38, k_X4_rob_40, k_X4_rob_41, k_X4_rob_44, k_X4_rob_47, k_X4_rob_50, k_X4_rob_52, k_X4_rob_55, k_X4_rob_57, k_X4_rob_60, k_X4_rob_61, k_X4_rob_62, k_X4_rob_63, k_X4_rob_66, k_X4_rob_68, k_X4_rob_71, k_X4_rob_72, k_X4_rob_73, k_X4_rob_76, k_X4_rob_79, k_X4_rob_82, k_X4_rob_84, k_X4_rob_85, k_X4_rob_87, k_X4_rob_90, k_X4_rob_92, k_X4_rob_95, k_X4_rob_98, k_X4_rob_99, wp1, wp_s, cutIn, kont, Nat.reduceSub, Nat.reduceAdd, nth, o_const, o_lconst, o_ref, o_iload, o_lload, o_aload, o_istore, o_lstore, o_astore, o_iinc, o_bin, o_div, o_un, o_lbin, o_lsh, o_lcmp, o_i2l, o_l2i, o_if, o_icmp, o_goto, o_dup, o_dup2, o_pop, fav, o_getf, o_putI, o_putZ, o_putL, o_ald, o_ast, o_alen, popn, rst, o_callV, o_callT, o_callS, swx, o_sw, o_ret, o_iret, o_zret, o_cret, o_lret, o_aret, lg, lput, lput2, ls1, isL, entL, wsum, rdI1, rdI2, rdA1, rdA21, rdA22, rdL1, rdL22, rdL21, upN_at, rep, sh_0, F_0_0, F_0_1, F_0_2, F_0_3, F_0_4, F_0_5, F_0_6, F_0_7, F_0_8, sh_1, F_1_0, F_1_1, F_1_2, F_1_3, F_1_4, F_1_5, sh_3, F_3_0, F_3_1, F_3_2, F_3_3, F_3_4, F_3_5, sh_5, F_5_0, F_5_1, F_5_2, F_5_3, F_5_4, F_5_5, F_5_6, F_5_7, F_5_8, sh_12, F_12_0, F_12_1, F_12_2, F_12_3, F_12_4, F_12_5, sh_14, F_14_0, F_14_1, F_14_2, F_14_3, F_14_4, F_14_5, F_14_6, F_14_7, F_14_8, sh_21, F_21_0, F_21_1, F_21_2, F_21_3, F_21_4, F_21_5, F_21_6, F_21_7, F_21_8, sh_28, F_28_0, F_28_1, F_28_2, F_28_3, F_28_4, F_28_5, F_28_6, F_28_7, F_28_8, sh_35, F_35_0, sh_39, F_39_0, F_39_1, F_39_2, F_39_3, F_39_4, F_39_5, F_39_6, F_39_7, F_39_8, F_39_9, F_39_10, F_39_11, F_39_12, F_39_13, A_2, A_4, A_6, A_7, A_8, A_9, A_10, A_11, A_13, A_15, A_16, A_17, A_18, A_19, A_20, A_22, A_23, A_24, A_25, A_26, A_27, A_29, A_30, A_31, A_32, A_33, A_34, A_36, A_37, A_38, A_40, A_41, A_42, A_43, A_44, A_45, A_46, A_47]
          have hs := mnf_s0 (P := rbP r h0 n p lk c lo) (w := fun g => cn g 9) (n := g) (fun z => absurd (by simpa [rbP] using z) q3)
          exact ⟨fun _ => cut _ _ ⟨rfl, rfl, lo, g + 1, f2, rfl, hlo, hlo2, hg1, by rw [sA_sA], rfl, rfl⟩ hg2 ⟨rfl, rfl, rfl, vi_eq (by rw [hs]), vi_eq (by rw [hs]), vi_eq (nI_1 _), trivial⟩, fun q => absurd rfl q⟩
  · dsimp only [k_X4_rob_0, k_X4_rob_1, k_X4_rob_2, k_X4_rob_5, k_X4_rob_8, k_X4_rob_11, k_X4_rob_14, k_X4_rob_15, k_X4_rob_16, k_X4_rob_17, k_X4_rob_20, k_X4_rob_23, k_X4_rob_25, k_X4_rob_28, k_X4_rob_29, k_X4_rob_31, k_X4_rob_32, k_X4_rob_33, k_X4_rob_35, k_X4_rob_36, k_X4_rob_38, k_X4_rob_40, k_X4_rob_41, k_X4_rob_44, k_X4_rob_47, k_X4_rob_50, k_X4_rob_52, k_X4_rob_55, k_X4_rob_57, k_X4_rob_60, k_X4_rob_61, k_X4_rob_62, k_X4_rob_63, k_X4_rob_66, k_X4_rob_68, k_X4_rob_71, k_X4_rob_72, k_X4_rob_73, k_X4_rob_76, k_X4_rob_79, k_X4_rob_82, k_X4_rob_84, k_X4_rob_85, k_X4_rob_87, k_X4_rob_90, k_X4_rob_92, k_X4_rob_95, k_X4_rob_98, k_X4_rob_99, wp1, wp_s, cutIn, kont, Nat.reduceSub, Nat.reduceAdd, nth, o_const, o_lconst, o_ref, o_iload, o_lload, o_aload, o_istore, o_lstore, o_astore, o_iinc, o_bin, o_div, o_un, o_lbin, o_lsh, o_lcmp, o_i2l, o_l2i, o_if, o_icmp, o_goto, o_dup, o_dup2, o_pop, fav, o_getf, o_putI, o_putZ, o_putL, o_ald, o_ast, o_alen, popn, rst, o_callV, o_callT, o_callS, swx, o_sw, o_ret, o_iret, o_zret, o_cret, o_lret, o_aret, lg, lput, lput2, ls1, isL, entL, wsum, rdI1, rdI2, rdA1, rdA21, rdA22, rdL1, rdL22, rdL21, upN_at, rep, sh_0, F_0_0, F_0_1, F_0_2, F_0_3, F_0_4, F_0_5, F_0_6, F_0_7, F_0_8, sh_1, F_1_0, F_1_1, F_1_2, F_1_3, F_1_4, F_1_5, sh_3, F_3_0, F_3_1, F_3_2, F_3_3, F_3_4, F_3_5, sh_5, F_5_0, F_5_1, F_5_2, F_5_3, F_5_4, F_5_5, F_5_6, F_5_7, F_5_8, sh_12, F_12_0, F_12_1, F_12_2, F_12_3, F_12_4, F_12_5, sh_14, F_14_0, F_14_1, F_14_2, F_14_3, F_14_4, F_14_5, F_14_6, F_14_7, F_14_8, sh_21, F_21_0, F_21_1, F_21_2, F_21_3, F_21_4, F_21_5, F_21_6, F_21_7, F_21_8, sh_28, F_28_0, F_28_1, F_28_2, F_28_3, F_28_4, F_28_5, F_28_6, F_28_7, F_28_8, sh_35, F_35_0, sh_39, F_39_0, F_39_1, F_39_2, F_39_3, F_39_4, F_39_5, F_39_6, F_39_7, F_39_8, F_39_9, F_39_10, F_39_11, F_39_12, F_39_13, A_2, A_4, A_6, A_7, A_8, A_9, A_10, A_11, A_13, A_15, A_16, A_17, A_18, A_19, A_20, A_22, A_23, A_24, A_25, A_26, A_27, A_29, A_30, A_31, A_32, A_33, A_34, A_36, A_37, A_38, A_40, A_41, A_42, A_43, A_44, A_45, A_46, A_47]
    refine ⟨c, rfl, hc, hc6, ?_⟩
    dsimp only [k_X4_rob_0, k_X4_rob_1, k_X4_rob_2, k_X4_rob_5, k_X4_rob_8, k_X4_rob_11, k_X4_rob_14, k_X4_rob_15, k_X4_rob_16, k_X4_rob_17, k_X4_rob_20, k_X4_rob_23, k_X4_rob_25, k_X4_rob_28, k_X4_rob_29, k_X4_rob_31, k_X4_rob_32, k_X4_rob_33, k_X4_rob_35, k_X4_rob_36, k_X4_rob_38, k_X4_rob_40, k_X4_rob_41, k_X4_rob_44, k_X4_rob_47, k_X4_rob_50, k_X4_rob_52, k_X4_rob_55, k_X4_rob_57, k_X4_rob_60, k_X4_rob_61, k_X4_rob_62, k_X4_rob_63, k_X4_rob_66, k_X4_rob_68, k_X4_rob_71, k_X4_rob_72, k_X4_rob_73, k_X4_rob_76, k_X4_rob_79, k_X4_rob_82, k_X4_rob_84, k_X4_rob_85, k_X4_rob_87, k_X4_rob_90, k_X4_rob_92, k_X4_rob_95, k_X4_rob_98, k_X4_rob_99, wp1, wp_s, cutIn, kont, Nat.reduceSub, Nat.reduceAdd, nth, o_const, o_lconst, o_ref, o_iload, o_lload, o_aload, o_istore, o_lstore, o_astore, o_iinc, o_bin, o_div, o_un, o_lbin, o_lsh, o_lcmp, o_i2l, o_l2i, o_if, o_icmp, o_goto, o_dup, o_dup2, o_pop, fav, o_getf, o_putI, o_putZ, o_putL, o_ald, o_ast, o_alen, popn, rst, o_callV, o_callT, o_callS, swx, o_sw, o_ret, o_iret, o_zret, o_cret, o_lret, o_aret, lg, lput, lput2, ls1, isL, entL, wsum, rdI1, rdI2, rdA1, rdA21, rdA22, rdL1, rdL22, rdL21, upN_at, rep, sh_0, F_0_0, F_0_1, F_0_2, F_0_3, F_0_4, F_0_5, F_0_6, F_0_7, F_0_8, sh_1, F_1_0, F_1_1, F_1_2, F_1_3, F_1_4, F_1_5, sh_3, F_3_0, F_3_1, F_3_2, F_3_3, F_3_4, F_3_5, sh_5, F_5_0, F_5_1, F_5_2, F_5_3, F_5_4, F_5_5, F_5_6, F_5_7, F_5_8, sh_12, F_12_0, F_12_1, F_12_2, F_12_3, F_12_4, F_12_5, sh_14, F_14_0, F_14_1, F_14_2, F_14_3, F_14_4, F_14_5, F_14_6, F_14_7, F_14_8, sh_21, F_21_0, F_21_1, F_21_2, F_21_3, F_21_4, F_21_5, F_21_6, F_21_7, F_21_8, sh_28, F_28_0, F_28_1, F_28_2, F_28_3, F_28_4, F_28_5, F_28_6, F_28_7, F_28_8, sh_35, F_35_0, sh_39, F_39_0, F_39_1, F_39_2, F_39_3, F_39_4, F_39_5, F_39_6, F_39_7, F_39_8, F_39_9, F_39_10, F_39_11, F_39_12, F_39_13, A_2, A_4, A_6, A_7, A_8, A_9, A_10, A_11, A_13, A_15, A_16, A_17, A_18, A_19, A_20, A_22, A_23, A_24, A_25, A_26, A_27, A_29, A_30, A_31, A_32, A_33, A_34, A_36, A_37, A_38, A_40, A_41, A_42, A_43, A_44, A_45, A_46, A_47]
    refine ⟨x, _, rfl, fun z => ?_, fun z => ?_⟩
    · obtain ⟨lo, rfl, hlo, hlol⟩ := In_at (by omega) z
      dsimp only [k_X4_rob_0, k_X4_rob_1, k_X4_rob_2, k_X4_rob_5, k_X4_rob_8, k_X4_rob_11, k_X4_rob_14, k_X4_rob_15, k_X4_rob_16, k_X4_rob_17, k_X4_rob_20, k_X4_rob_23, k_X4_rob_25, k_X4_rob_28, k_X4_rob_29, k_X4_rob_31, k_X4_rob_32, k_X4_rob_33, k_X4_rob_35, k_X4_rob_36, k_X4_rob_38, k_X4_rob_40, k_X4_rob_41, k_X4_rob_44, k_X4_rob_47, k_X4_rob_50, k_X4_rob_52, k_X4_rob_55, k_X4_rob_57, k_X4_rob_60, k_X4_rob_61, k_X4_rob_62, k_X4_rob_63, k_X4_rob_66, k_X4_rob_68, k_X4_rob_71, k_X4_rob_72, k_X4_rob_73, k_X4_rob_76, k_X4_rob_79, k_X4_rob_82, k_X4_rob_84, k_X4_rob_85, k_X4_rob_87, k_X4_rob_90, k_X4_rob_92, k_X4_rob_95, k_X4_rob_98, k_X4_rob_99, wp1, wp_s, cutIn, kont, Nat.reduceSub, Nat.reduceAdd, nth, o_const, o_lconst, o_ref, o_iload, o_lload, o_aload, o_istore, o_lstore, o_astore, o_iinc, o_bin, o_div, o_un, o_lbin, o_lsh, o_lcmp, o_i2l, o_l2i, o_if, o_icmp, o_goto, o_dup, o_dup2, o_pop, fav, o_getf, o_putI, o_putZ, o_putL, o_ald, o_ast, o_alen, popn, rst, o_callV, o_callT, o_callS, swx, o_sw, o_ret, o_iret, o_zret, o_cret, o_lret, o_aret, lg, lput, lput2, ls1, isL, entL, wsum, rdI1, rdI2, rdA1, rdA21, rdA22, rdL1, rdL22, rdL21, upN_at, rep, sh_0, F_0_0, F_0_1, F_0_2, F_0_3, F_0_4, F_0_5, F_0_6, F_0_7, F_0_8, sh_1, F_1_0, F_1_1, F_1_2, F_1_3, F_1_4, F_1_5, sh_3, F_3_0, F_3_1, F_3_2, F_3_3, F_3_4, F_3_5, sh_5, F_5_0, F_5_1, F_5_2, F_5_3, F_5_4, F_5_5, F_5_6, F_5_7, F_5_8, sh_12, F_12_0, F_12_1, F_12_2, F_12_3, F_12_4, F_12_5, sh_14, F_14_0, F_14_1, F_14_2, F_14_3, F_14_4, F_14_5, F_14_6, F_14_7, F_14_8, sh_21, F_21_0, F_21_1, F_21_2, F_21_3, F_21_4, F_21_5, F_21_6, F_21_7, F_21_8, sh_28, F_28_0, F_28_1, F_28_2, F_28_3, F_28_4, F_28_5, F_28_6, F_28_7, F_28_8, sh_35, F_35_0, sh_39, F_39_0, F_39_1, F_39_2, F_39_3, F_39_4, F_39_5, F_39_6, F_39_7, F_39_8, F_39_9, F_39_10, F_39_11, F_39_12, F_39_13, A_2, A_4, A_6, A_7, A_8, A_9, A_10, A_11, A_13, A_15, A_16, A_17, A_18, A_19, A_20, A_22, A_23, A_24, A_25, A_26, A_27, A_29, A_30, A_31, A_32, A_33, A_34, A_36, A_37, A_38, A_40, A_41, A_42, A_43, A_44, A_45, A_46, A_47]
      refine ⟨fun q => absurd q (by decide), fun _ => ⟨-4, n, rfl, hn, hn8, ?_⟩⟩
      rw [hbe]
      dsimp only [k_X4_rob_0, k_X4_rob_1, k_X4_rob_2, k_X4_rob_5, k_X4_rob_8, k_X4_rob_11, k_X4_rob_14, k_X4_rob_15, k_X4_rob_16, k_X4_rob_17, k_X4_rob_20, k_X4_rob_23, k_X4_rob_25, k_X4_rob_28, k_X4_rob_29, k_X4_rob_31, k_X4_rob_32, k_X4_rob_33, k_X4_rob_35, k_X4_rob_36, k_X4_rob_38, k_X4_rob_40, k_X4_rob_41, k_X4_rob_44, k_X4_rob_47, k_X4_rob_50, k_X4_rob_52, k_X4_rob_55, k_X4_rob_57, k_X4_rob_60, k_X4_rob_61, k_X4_rob_62, k_X4_rob_63, k_X4_rob_66, k_X4_rob_68, k_X4_rob_71, k_X4_rob_72, k_X4_rob_73, k_X4_rob_76, k_X4_rob_79, k_X4_rob_82, k_X4_rob_84, k_X4_rob_85, k_X4_rob_87, k_X4_rob_90, k_X4_rob_92, k_X4_rob_95, k_X4_rob_98, k_X4_rob_99, wp1, wp_s, cutIn, kont, Nat.reduceSub, Nat.reduceAdd, nth, o_const, o_lconst, o_ref, o_iload, o_lload, o_aload, o_istore, o_lstore, o_astore, o_iinc, o_bin, o_div, o_un, o_lbin, o_lsh, o_lcmp, o_i2l, o_l2i, o_if, o_icmp, o_goto, o_dup, o_dup2, o_pop, fav, o_getf, o_putI, o_putZ, o_putL, o_ald, o_ast, o_alen, popn, rst, o_callV, o_callT, o_callS, swx, o_sw, o_ret, o_iret, o_zret, o_cret, o_lret, o_aret, lg, lput, lput2, ls1, isL, entL, wsum, rdI1, rdI2, rdA1, rdA21, rdA22, rdL1, rdL22, rdL21, upN_at, rep, sh_0, F_0_0, F_0_1, F_0_2, F_0_3, F_0_4, F_0_5, F_0_6, F_0_7, F_0_8, sh_1, F_1_0, F_1_1, F_1_2, F_1_3, F_1_4, F_1_5, sh_3, F_3_0, F_3_1, F_3_2, F_3_3, F_3_4, F_3_5, sh_5, F_5_0, F_5_1, F_5_2, F_5_3, F_5_4, F_5_5, F_5_6, F_5_7, F_5_8, sh_12, F_12_0, F_12_1, F_12_2, F_12_3, F_12_4, F_12_5, sh_14, F_14_0, F_14_1, F_14_2, F_14_3, F_14_4, F_14_5, F_14_6, F_14_7, F_14_8, sh_21, F_21_0, F_21_1, F_21_2, F_21_3, F_21_4, F_21_5, F_21_6, F_21_7, F_21_8, sh_28, F_28_0, F_28_1, F_28_2, F_28_3, F_28_4, F_28_5, F_28_6, F_28_7, F_28_8, sh_35, F_35_0, sh_39, F_39_0, F_39_1, F_39_2, F_39_3, F_39_4, F_39_5, F_39_6, F_39_7, F_39_8, F_39_9, F_39_10, F_39_11, F_39_12, F_39_13, A_2, A_4, A_6, A_7, A_8, A_9, A_10, A_11, A_13, A_15, A_16, A_17, A_18, A_19, A_20, A_22, A_23, A_24, A_25, A_26, A_27, A_29, A_30, A_31, A_32, A_33, A_34, A_36, A_37, A_38, A_40, A_41, A_42, A_43, A_44, A_45, A_46, A_47]
      exact cut _ _ ⟨rfl, rfl, lo, 0, M.2.2 27, rfl, hlo, by omega, by omega, (sA_self 27 M).symm, rfl, rfl⟩ (by omega) ⟨rfl, rfl, rfl, rfl, rfl, rfl, trivial⟩
    · dsimp only [k_X4_rob_0, k_X4_rob_1, k_X4_rob_2, k_X4_rob_5, k_X4_rob_8, k_X4_rob_11, k_X4_rob_14, k_X4_rob_15, k_X4_rob_16, k_X4_rob_17, k_X4_rob_20, k_X4_rob_23, k_X4_rob_25, k_X4_rob_28, k_X4_rob_29, k_X4_rob_31, k_X4_rob_32, k_X4_rob_33, k_X4_rob_35, k_X4_rob_36, k_X4_rob_38, k_X4_rob_40, k_X4_rob_41, k_X4_rob_44, k_X4_rob_47, k_X4_rob_50, k_X4_rob_52, k_X4_rob_55, k_X4_rob_57, k_X4_rob_60, k_X4_rob_61, k_X4_rob_62, k_X4_rob_63, k_X4_rob_66, k_X4_rob_68, k_X4_rob_71, k_X4_rob_72, k_X4_rob_73, k_X4_rob_76, k_X4_rob_79, k_X4_rob_82, k_X4_rob_84, k_X4_rob_85, k_X4_rob_87, k_X4_rob_90, k_X4_rob_92, k_X4_rob_95, k_X4_rob_98, k_X4_rob_99, wp1, wp_s, cutIn, kont, Nat.reduceSub, Nat.reduceAdd, nth, o_const, o_lconst, o_ref, o_iload, o_lload, o_aload, o_istore, o_lstore, o_astore, o_iinc, o_bin, o_div, o_un, o_lbin, o_lsh, o_lcmp, o_i2l, o_l2i, o_if, o_icmp, o_goto, o_dup, o_dup2, o_pop, fav, o_getf, o_putI, o_putZ, o_putL, o_ald, o_ast, o_alen, popn, rst, o_callV, o_callT, o_callS, swx, o_sw, o_ret, o_iret, o_zret, o_cret, o_lret, o_aret, lg, lput, lput2, ls1, isL, entL, wsum, rdI1, rdI2, rdA1, rdA21, rdA22, rdL1, rdL22, rdL21, upN_at, rep, sh_0, F_0_0, F_0_1, F_0_2, F_0_3, F_0_4, F_0_5, F_0_6, F_0_7, F_0_8, sh_1, F_1_0, F_1_1, F_1_2, F_1_3, F_1_4, F_1_5, sh_3, F_3_0, F_3_1, F_3_2, F_3_3, F_3_4, F_3_5, sh_5, F_5_0, F_5_1, F_5_2, F_5_3, F_5_4, F_5_5, F_5_6, F_5_7, F_5_8, sh_12, F_12_0, F_12_1, F_12_2, F_12_3, F_12_4, F_12_5, sh_14, F_14_0, F_14_1, F_14_2, F_14_3, F_14_4, F_14_5, F_14_6, F_14_7, F_14_8, sh_21, F_21_0, F_21_1, F_21_2, F_21_3, F_21_4, F_21_5, F_21_6, F_21_7, F_21_8, sh_28, F_28_0, F_28_1, F_28_2, F_28_3, F_28_4, F_28_5, F_28_6, F_28_7, F_28_8, sh_35, F_35_0, sh_39, F_39_0, F_39_1, F_39_2, F_39_3, F_39_4, F_39_5, F_39_6, F_39_7, F_39_8, F_39_9, F_39_10, F_39_11, F_39_12, F_39_13, A_2, A_4, A_6, A_7, A_8, A_9, A_10, A_11, A_13, A_15, A_16, A_17, A_18, A_19, A_20, A_22, A_23, A_24, A_25, A_26, A_27, A_29, A_30, A_31, A_32, A_33, A_34, A_36, A_37, A_38, A_40, A_41, A_42, A_43, A_44, A_45, A_46, A_47]
      exact ⟨fun _ => h1 z, fun q => absurd rfl q⟩
set_option maxRecDepth 100000 in
theorem v_X4_apart : ∀ as M post, S_X4_apart as M post → wsum as ≤ 3 ∧ RUN (T_X4_apart post) 0 (entL 3 as) [] M := by
  rintro as M post ⟨n, c, p, r, h0, lk, rfl, hX, h⟩
  have hX0 := hX
  obtain ⟨hn, hn8, hc, hc6, hp, hp4, hr, hhk, hl⟩ := hX
  have hul := us_lt h0 hn8
  have hblt := fsp_lt (r := r) (T := us h0 n) n (fun k hk => (hr k hk).2)
  refine ⟨by show 1 ≤ 3; omega, run_of [19] (fun μ pc lv st M' => st = [] ∧ pc = 19 ∧ ∃ i f, i ≤ 512 ∧ 1 ≤ i ∧ (∀ j, j < 9 → f j = nI (fsp r (us h0 n) n j)) ∧ M' = sA 27 f M ∧ 1000 - i = μ ∧ lv = [some (VR 0), some (VI (lsI (mnf (apP r h0 n) (fun T => cn T 9) i) (fun T => cn T 9) 9)), some (VI (nI i))]) 60 2000 ?_ ?_⟩
  · rintro μ pc lv st M' ⟨rfl, rfl, i, f, hi, hi1, hf, rfl, rfl, rfl⟩
    have hcb : ∀ b, cn b 9 < 2 ^ 31 := fun b => by have := cn_le b 9; omega
    dsimp only [k_X4_apart_0, k_X4_apart_1, k_X4_apart_2, k_X4_apart_5, k_X4_apart_8, k_X4_apart_11, k_X4_apart_14, k_X4_apart_16, k_X4_apart_17, k_X4_apart_18, k_X4_apart_19, k_X4_apart_20, k_X4_apart_23, k_X4_apart_26, k_X4_apart_27, k_X4_apart_30, k_X4_apart_31, k_X4_apart_34, k_X4_apart_35, k_X4_apart_38, k_X4_apart_39, k_X4_apart_42, k_X4_apart_45, k_X4_apart_46, k_X4_apart_49, k_X4_apart_50, k_X4_apart_53, k_X4_apart_56, k_X4_apart_57, k_X4_apart_59, k_X4_apart_62, k_X4_apart_64, k_X4_apart_67, k_X4_apart_68, wp1, wp_s, cutIn, kont, Nat.reduceSub, Nat.reduceAdd, nth, o_const, o_lconst, o_ref, o_iload, o_lload, o_aload, o_istore, o_lstore, o_astore, o_iinc, o_bin, o_div, o_un, o_lbin, o_lsh, o_lcmp, o_i2l, o_l2i, o_if, o_icmp, o_goto, o_dup, o_dup2, o_pop, fav, o_getf, o_putI, o_putZ, o_putL, o_ald, o_ast, o_alen, popn, rst, o_callV, o_callT, o_callS, swx, o_sw, o_ret, o_iret, o_zret, o_cret, o_lret, o_aret, lg, lput, lput2, ls1, isL, entL, wsum, rdI1, rdI2, rdA1, rdA21, rdA22, rdL1, rdL22, rdL21, upN_at, rep, sh_0, F_0_0, F_0_1, F_0_2, F_0_3, F_0_4, F_0_5, F_0_6, F_0_7, F_0_8, sh_1, F_1_0, F_1_1, F_1_2, F_1_3, F_1_4, F_1_5, sh_3, F_3_0, F_3_1, F_3_2, F_3_3, F_3_4, F_3_5, sh_5, F_5_0, F_5_1, F_5_2, F_5_3, F_5_4, F_5_5, F_5_6, F_5_7, F_5_8, sh_12, F_12_0, F_12_1, F_12_2, F_12_3, F_12_4, F_12_5, sh_14, F_14_0, F_14_1, F_14_2, F_14_3, F_14_4, F_14_5, F_14_6, F_14_7, F_14_8, sh_21, F_21_0, F_21_1, F_21_2, F_21_3, F_21_4, F_21_5, F_21_6, F_21_7, F_21_8, sh_28, F_28_0, F_28_1, F_28_2, F_28_3, F_28_4, F_28_5, F_28_6, F_28_7, F_28_8, sh_35, F_35_0, sh_39, F_39_0, F_39_1, F_39_2, F_39_3, F_39_4, F_39_5, F_39_6, F_39_7, F_39_8, F_39_9, F_39_10, F_39_11, F_39_12, F_39_13, A_2, A_4, A_6, A_7, A_8, A_9, A_10, A_11, A_13, A_15, A_16, A_17, A_18, A_19, A_20, A_22, A_23, A_24, A_25, A_26, A_27, A_29, A_30, A_31, A_32, A_33, A_34, A_36, A_37, A_38, A_40, A_41, A_42, A_43, A_44, A_45, A_46, A_47]
    rw [show (512 : Int32) = nI 512 from rfl]
    simp (disch := omega) only [nI_leI, nI_ltI, nI_eq, nI_1, nI_add, one_shl, nI_or, nI_xor, nI_and, bit_0, bit_1, true_or, or_true, true_and, and_true, eq_self, not_true_eq_false, not_false_eq_true, forall_const]
    refine ⟨fun q => ?_, fun q => ⟨i, rfl, by omega, ?_⟩⟩
    · have e : i = 512 := by omega
      subst e
      have h := h f
      cases hm : mnf (apP r h0 n) (fun T => cn T 9) 512 with
      | none =>
        rw [hm] at h
        exact ⟨fun q => absurd q (by decide), fun _ => h⟩
      | some b =>
        rw [hm] at h
        have := cn_le b 9
        unfold lsI
        dsimp only
        rw [show (9 : Int32) = nI 9 from rfl, nI_leI (by omega) (by omega)]
        exact ⟨fun _ => h, fun q => absurd this q⟩
    · have hle := lsI_le (P := apP r h0 n) (w := fun T => cn T 9) (lim := 9) (n := i) (cn_le i 9) (fun b _ => hcb b) (by omega)
      dsimp only [k_X4_apart_0, k_X4_apart_1, k_X4_apart_2, k_X4_apart_5, k_X4_apart_8, k_X4_apart_11, k_X4_apart_14, k_X4_apart_16, k_X4_apart_17, k_X4_apart_18, k_X4_apart_19, k_X4_apart_20, k_X4_apart_23, k_X4_apart_26, k_X4_apart_27, k_X4_apart_30, k_X4_apart_31, k_X4_apart_34, k_X4_apart_35, k_X4_apart_38, k_X4_apart_39, k_X4_apart_42, k_X4_apart_45, k_X4_apart_46, k_X4_apart_49, k_X4_apart_50, k_X4_apart_53, k_X4_apart_56, k_X4_apart_57, k_X4_apart_59, k_X4_apart_62, k_X4_apart_64, k_X4_apart_67, k_X4_apart_68, wp1, wp_s, cutIn, kont, Nat.reduceSub, Nat.reduceAdd, nth, o_const, o_lconst, o_ref, o_iload, o_lload, o_aload, o_istore, o_lstore, o_astore, o_iinc, o_bin, o_div, o_un, o_lbin, o_lsh, o_lcmp, o_i2l, o_l2i, o_if, o_icmp, o_goto, o_dup, o_dup2, o_pop, fav, o_getf, o_putI, o_putZ, o_putL, o_ald, o_ast, o_alen, popn, rst, o_callV, o_callT, o_callS, swx, o_sw, o_ret, o_iret, o_zret, o_cret, o_lret, o_aret, lg, lput, lput2, ls1, isL, entL, wsum, rdI1, rdI2, rdA1, rdA21, rdA22, rdL1, rdL22, rdL21, upN_at, rep, sh_0, F_0_0, F_0_1, F_0_2, F_0_3, F_0_4, F_0_5, F_0_6, F_0_7, F_0_8, sh_1, F_1_0, F_1_1, F_1_2, F_1_3, F_1_4, F_1_5, sh_3, F_3_0, F_3_1, F_3_2, F_3_3, F_3_4, F_3_5, sh_5, F_5_0, F_5_1, F_5_2, F_5_3, F_5_4, F_5_5, F_5_6, F_5_7, F_5_8, sh_12, F_12_0, F_12_1, F_12_2, F_12_3, F_12_4, F_12_5, sh_14, F_14_0, F_14_1, F_14_2, F_14_3, F_14_4, F_14_5, F_14_6, F_14_7, F_14_8, sh_21, F_21_0, F_21_1, F_21_2, F_21_3, F_21_4, F_21_5, F_21_6, F_21_7, F_21_8, sh_28, F_28_0, F_28_1, F_28_2, F_28_3, F_28_4, F_28_5, F_28_6, F_28_7, F_28_8, sh_35, F_35_0, sh_39, F_39_0, F_39_1, F_39_2, F_39_3, F_39_4, F_39_5, F_39_6, F_39_7, F_39_8, F_39_9, F_39_10, F_39_11, F_39_12, F_39_13, A_2, A_4, A_6, A_7, A_8, A_9, A_10, A_11, A_13, A_15, A_16, A_17, A_18, A_19, A_20, A_22, A_23, A_24, A_25, A_26, A_27, A_29, A_30, A_31, A_32, A_33, A_34, A_36, A_37, A_38, A_40, A_41, A_42, A_43, A_44, A_45, A_46, A_47]
      rw [hle]
      refine ⟨fun q2 => ?_, fun q2 => ⟨i, fsp r (us h0 n) n, rfl, by omega, fun j hj => ⟨hf j hj, hblt j hj⟩, fun q3 => ?_, fun q3 => ?_⟩⟩
      · have hs := mnf_s0 (P := apP r h0 n) (w := fun g => cn g 9) (n := i) (fun _ => q2)
        exact cut _ _ ⟨rfl, rfl, i + 1, f, by omega, by omega, hf, rfl, rfl, rfl⟩ (by omega) ⟨rfl, vi_eq (by rw [hs]), vi_eq (nI_1 _), trivial⟩
      · dsimp only [k_X4_apart_0, k_X4_apart_1, k_X4_apart_2, k_X4_apart_5, k_X4_apart_8, k_X4_apart_11, k_X4_apart_14, k_X4_apart_16, k_X4_apart_17, k_X4_apart_18, k_X4_apart_19, k_X4_apart_20, k_X4_apart_23, k_X4_apart_26, k_X4_apart_27, k_X4_apart_30, k_X4_apart_31, k_X4_apart_34, k_X4_apart_35, k_X4_apart_38, k_X4_apart_39, k_X4_apart_42, k_X4_apart_45, k_X4_apart_46, k_X4_apart_49, k_X4_apart_50, k_X4_apart_53, k_X4_apart_56, k_X4_apart_57, k_X4_apart_59, k_X4_apart_62, k_X4_apart_64, k_X4_apart_67, k_X4_apart_68, wp1, wp_s, cutIn, kont, Nat.reduceSub, Nat.reduceAdd, nth, o_const, o_lconst, o_ref, o_iload, o_lload, o_aload, o_istore, o_lstore, o_astore, o_iinc, o_bin, o_div, o_un, o_lbin, o_lsh, o_lcmp, o_i2l, o_l2i, o_if, o_icmp, o_goto, o_dup, o_dup2, o_pop, fav, o_getf, o_putI, o_putZ, o_putL, o_ald, o_ast, o_alen, popn, rst, o_callV, o_callT, o_callS, swx, o_sw, o_ret, o_iret, o_zret, o_cret, o_lret, o_aret, lg, lput, lput2, ls1, isL, entL, wsum, rdI1, rdI2, rdA1, rdA21, rdA22, rdL1, rdL22, rdL21, upN_at, rep, sh_0, F_0_0, F_0_1, F_0_2, F_0_3, F_0_4, F_0_5, F_0_6, F_0_7, F_0_8, sh_1, F_1_0, F_1_1, F_1_2, F_1_3, F_1_4, F_1_5, sh_3, F_3_0, F_3_1, F_3_2, F_3_3, F_3_4, F_3_5, sh_5, F_5_0, F_5_1, F_5_2, F_5_3, F_5_4, F_5_5, F_5_6, F_5_7, F_5_8, sh_12, F_12_0, F_12_1, F_12_2, F_12_3, F_12_4, F_12_5, sh_14, F_14_0, F_14_1, F_14_2, F_14_3, F_14_4, F_14_5, F_14_6, F_14_7, F_14_8, sh_21, F_21_0, F_21_1, F_21_2, F_21_3, F_21_4, F_21_5, F_21_6, F_21_7, F_21_8, sh_28, F_28_0, F_28_1, F_28_2, F_28_3, F_28_4, F_28_5, F_28_6, F_28_7, F_28_8, sh_35, F_35_0, sh_39, F_39_0, F_39_1, F_39_2, F_39_3, F_39_4, F_39_5, F_39_6, F_39_7, F_39_8, F_39_9, F_39_10, F_39_11, F_39_12, F_39_13, A_2, A_4, A_6, A_7, A_8, A_9, A_10, A_11, A_13, A_15, A_16, A_17, A_18, A_19, A_20, A_22, A_23, A_24, A_25, A_26, A_27, A_29, A_30, A_31, A_32, A_33, A_34, A_36, A_37, A_38, A_40, A_41, A_42, A_43, A_44, A_45, A_46, A_47]
        refine ⟨fun q => absurd q (by decide), fun _ => ⟨i, rfl, by omega, ?_⟩⟩
        have hs := mnf_s1 (P := apP r h0 n) (w := fun g => cn g 9) (n := i) (by simp [apP, q3]; omega) (fun b hb => Nat.lt_of_not_le fun z => q2 ⟨b, hb, z⟩)
        dsimp only [k_X4_apart_0, k_X4_apart_1, k_X4_apart_2, k_X4_apart_5, k_X4_apart_8, k_X4_apart_11, k_X4_apart_14, k_X4_apart_16, k_X4_apart_17, k_X4_apart_18, k_X4_apart_19, k_X4_apart_20, k_X4_apart_23, k_X4_apart_26, k_X4_apart_27, k_X4_apart_30, k_X4_apart_31, k_X4_apart_34, k_X4_apart_35, k_X4_apart_38, k_X4_apart_39, k_X4_apart_42, k_X4_apart_45, k_X4_apart_46, k_X4_apart_49, k_X4_apart_50, k_X4_apart_53, k_X4_apart_56, k_X4_apart_57, k_X4_apart_59, k_X4_apart_62, k_X4_apart_64, k_X4_apart_67, k_X4_apart_68, wp1, wp_s, cutIn, kont, Nat.reduceSub, Nat.reduceAdd, nth, o_const, o_lconst, o_ref, o_iload, o_lload, o_aload, o_istore, o_lstore, o_astore, o_iinc, o_bin, o_div, o_un, o_lbin, o_lsh, o_lcmp, o_i2l, o_l2i, o_if, o_icmp, o_goto, o_dup, o_dup2, o_pop, fav, o_getf, o_putI, o_putZ, o_putL, o_ald, o_ast, o_alen, popn, rst, o_callV, o_callT, o_callS, swx, o_sw, o_ret, o_iret, o_zret, o_cret, o_lret, o_aret, lg, lput, lput2, ls1, isL, entL, wsum, rdI1, rdI2, rdA1, rdA21, rdA22, rdL1, rdL22, rdL21, upN_at, rep, sh_0, F_0_0, F_0_1, F_0_2, F_0_3, F_0_4, F_0_5, F_0_6, F_0_7, F_0_8, sh_1, F_1_0, F_1_1, F_1_2, F_1_3, F_1_4, F_1_5, sh_3, F_3_0, F_3_1, F_3_2, F_3_3, F_3_4, F_3_5, sh_5, F_5_0, F_5_1, F_5_2, F_5_3, F_5_4, F_5_5, F_5_6, F_5_7, F_5_8, sh_12, F_12_0, F_12_1, F_12_2, F_12_3, F_12_4, F_12_5, sh_14, F_14_0, F_14_1, F_14_2, F_14_3, F_14_4, F_14_5, F_14_6, F_14_7, F_14_8, sh_21, F_21_0, F_21_1, F_21_2, F_21_3, F_21_4, F_21_5, F_21_6, F_21_7, F_21_8, sh_28, F_28_0, F_28_1, F_28_2, F_28_3, F_28_4, F_28_5, F_28_6, F_28_7, F_28_8, sh_35, F_35_0, sh_39, F_39_0, F_39_1, F_39_2, F_39_3, F_39_4, F_39_5, F_39_6, F_39_7, F_39_8, F_39_9, F_39_10, F_39_11, F_39_12, F_39_13, A_2, A_4, A_6, A_7, A_8, A_9, A_10, A_11, A_13, A_15, A_16, A_17, A_18, A_19, A_20, A_22, A_23, A_24, A_25, A_26, A_27, A_29, A_30, A_31, A_32, A_33, A_34, A_36, A_37, A_38, A_40, A_41, A_42, A_43, A_44, A_45, A_46, A_47]
        exact cut _ _ ⟨rfl, rfl, i + 1, f, by omega, by omega, hf, rfl, rfl, rfl⟩ (by omega) ⟨rfl, vi_eq (by rw [hs]; rfl), vi_eq (nI_1 _), trivial⟩
      · have hs := mnf_s0 (P := apP r h0 n) (w := fun g => cn g 9) (n := i) (fun z => by simp [apP, q3] at z)
        dsimp only [k_X4_apart_0, k_X4_apart_1, k_X4_apart_2, k_X4_apart_5, k_X4_apart_8, k_X4_apart_11, k_X4_apart_14, k_X4_apart_16, k_X4_apart_17, k_X4_apart_18, k_X4_apart_19, k_X4_apart_20, k_X4_apart_23, k_X4_apart_26, k_X4_apart_27, k_X4_apart_30, k_X4_apart_31, k_X4_apart_34, k_X4_apart_35, k_X4_apart_38, k_X4_apart_39, k_X4_apart_42, k_X4_apart_45, k_X4_apart_46, k_X4_apart_49, k_X4_apart_50, k_X4_apart_53, k_X4_apart_56, k_X4_apart_57, k_X4_apart_59, k_X4_apart_62, k_X4_apart_64, k_X4_apart_67, k_X4_apart_68, wp1, wp_s, cutIn, kont, Nat.reduceSub, Nat.reduceAdd, nth, o_const, o_lconst, o_ref, o_iload, o_lload, o_aload, o_istore, o_lstore, o_astore, o_iinc, o_bin, o_div, o_un, o_lbin, o_lsh, o_lcmp, o_i2l, o_l2i, o_if, o_icmp, o_goto, o_dup, o_dup2, o_pop, fav, o_getf, o_putI, o_putZ, o_putL, o_ald, o_ast, o_alen, popn, rst, o_callV, o_callT, o_callS, swx, o_sw, o_ret, o_iret, o_zret, o_cret, o_lret, o_aret, lg, lput, lput2, ls1, isL, entL, wsum, rdI1, rdI2, rdA1, rdA21, rdA22, rdL1, rdL22, rdL21, upN_at, rep, sh_0, F_0_0, F_0_1, F_0_2, F_0_3, F_0_4, F_0_5, F_0_6, F_0_7, F_0_8, sh_1, F_1_0, F_1_1, F_1_2, F_1_3, F_1_4, F_1_5, sh_3, F_3_0, F_3_1, F_3_2, F_3_3, F_3_4, F_3_5, sh_5, F_5_0, F_5_1, F_5_2, F_5_3, F_5_4, F_5_5, F_5_6, F_5_7, F_5_8, sh_12, F_12_0, F_12_1, F_12_2, F_12_3, F_12_4, F_12_5, sh_14, F_14_0, F_14_1, F_14_2, F_14_3, F_14_4, F_14_5, F_14_6, F_14_7, F_14_8, sh_21, F_21_0, F_21_1, F_21_2, F_21_3, F_21_4, F_21_5, F_21_6, F_21_7, F_21_8, sh_28, F_28_0, F_28_1, F_28_2, F_28_3, F_28_4, F_28_5, F_28_6, F_28_7, F_28_8, sh_35, F_35_0, sh_39, F_39_0, F_39_1, F_39_2, F_39_3, F_39_4, F_39_5, F_39_6, F_39_7, F_39_8, F_39_9, F_39_10, F_39_11, F_39_12, F_39_13, A_2, A_4, A_6, A_7, A_8, A_9, A_10, A_11, A_13, A_15, A_16, A_17, A_18, A_19, A_20, A_22, A_23, A_24, A_25, A_26, A_27, A_29, A_30, A_31, A_32, A_33, A_34, A_36, A_37, A_38, A_40, A_41, A_42, A_43, A_44, A_45, A_46, A_47]
        exact ⟨fun _ => cut _ _ ⟨rfl, rfl, i + 1, f, by omega, by omega, hf, rfl, rfl, rfl⟩ (by omega) ⟨rfl, vi_eq (by rw [hs]), vi_eq (nI_1 _), trivial⟩, fun q => absurd rfl q⟩
  · dsimp only [k_X4_apart_0, k_X4_apart_1, k_X4_apart_2, k_X4_apart_5, k_X4_apart_8, k_X4_apart_11, k_X4_apart_14, k_X4_apart_16, k_X4_apart_17, k_X4_apart_18, k_X4_apart_19, k_X4_apart_20, k_X4_apart_23, k_X4_apart_26, k_X4_apart_27, k_X4_apart_30, k_X4_apart_31, k_X4_apart_34, k_X4_apart_35, k_X4_apart_38, k_X4_apart_39, k_X4_apart_42, k_X4_apart_45, k_X4_apart_46, k_X4_apart_49, k_X4_apart_50, k_X4_apart_53, k_X4_apart_56, k_X4_apart_57, k_X4_apart_59, k_X4_apart_62, k_X4_apart_64, k_X4_apart_67, k_X4_apart_68, wp1, wp_s, cutIn, kont, Nat.reduceSub, Nat.reduceAdd, nth, o_const, o_lconst, o_ref, o_iload, o_lload, o_aload, o_istore, o_lstore, o_astore, o_iinc, o_bin, o_div, o_un, o_lbin, o_lsh, o_lcmp, o_i2l, o_l2i, o_if, o_icmp, o_goto, o_dup, o_dup2, o_pop, fav, o_getf, o_putI, o_putZ, o_putL, o_ald, o_ast, o_alen, popn, rst, o_callV, o_callT, o_callS, swx, o_sw, o_ret, o_iret, o_zret, o_cret, o_lret, o_aret, lg, lput, lput2, ls1, isL, entL, wsum, rdI1, rdI2, rdA1, rdA21, rdA22, rdL1, rdL22, rdL21, upN_at, rep, sh_0, F_0_0, F_0_1, F_0_2, F_0_3, F_0_4, F_0_5, F_0_6, F_0_7, F_0_8, sh_1, F_1_0, F_1_1, F_1_2, F_1_3, F_1_4, F_1_5, sh_3, F_3_0, F_3_1, F_3_2, F_3_3, F_3_4, F_3_5, sh_5, F_5_0, F_5_1, F_5_2, F_5_3, F_5_4, F_5_5, F_5_6, F_5_7, F_5_8, sh_12, F_12_0, F_12_1, F_12_2, F_12_3, F_12_4, F_12_5, sh_14, F_14_0, F_14_1, F_14_2, F_14_3, F_14_4, F_14_5, F_14_6, F_14_7, F_14_8, sh_21, F_21_0, F_21_1, F_21_2, F_21_3, F_21_4, F_21_5, F_21_6, F_21_7, F_21_8, sh_28, F_28_0, F_28_1, F_28_2, F_28_3, F_28_4, F_28_5, F_28_6, F_28_7, F_28_8, sh_35, F_35_0, sh_39, F_39_0, F_39_1, F_39_2, F_39_3, F_39_4, F_39_5, F_39_6, F_39_7, F_39_8, F_39_9, F_39_10, F_39_11, F_39_12, F_39_13, A_2, A_4, A_6, A_7, A_8, A_9, A_10, A_11, A_13, A_15, A_16, A_17, A_18, A_19, A_20, A_22, A_23, A_24, A_25, A_26, A_27, A_29, A_30, A_31, A_32, A_33, A_34, A_36, A_37, A_38, A_40, A_41, A_42, A_43, A_44, A_45, A_46, A_47]
    refine ⟨n, rfl, hn, hn8, ?_⟩
    rw [show mk (fun k => !(M.2.2 3 k == -3)) n = us h0 n from us_congr hhk]
    dsimp only [k_X4_apart_0, k_X4_apart_1, k_X4_apart_2, k_X4_apart_5, k_X4_apart_8, k_X4_apart_11, k_X4_apart_14, k_X4_apart_16, k_X4_apart_17, k_X4_apart_18, k_X4_apart_19, k_X4_apart_20, k_X4_apart_23, k_X4_apart_26, k_X4_apart_27, k_X4_apart_30, k_X4_apart_31, k_X4_apart_34, k_X4_apart_35, k_X4_apart_38, k_X4_apart_39, k_X4_apart_42, k_X4_apart_45, k_X4_apart_46, k_X4_apart_49, k_X4_apart_50, k_X4_apart_53, k_X4_apart_56, k_X4_apart_57, k_X4_apart_59, k_X4_apart_62, k_X4_apart_64, k_X4_apart_67, k_X4_apart_68, wp1, wp_s, cutIn, kont, Nat.reduceSub, Nat.reduceAdd, nth, o_const, o_lconst, o_ref, o_iload, o_lload, o_aload, o_istore, o_lstore, o_astore, o_iinc, o_bin, o_div, o_un, o_lbin, o_lsh, o_lcmp, o_i2l, o_l2i, o_if, o_icmp, o_goto, o_dup, o_dup2, o_pop, fav, o_getf, o_putI, o_putZ, o_putL, o_ald, o_ast, o_alen, popn, rst, o_callV, o_callT, o_callS, swx, o_sw, o_ret, o_iret, o_zret, o_cret, o_lret, o_aret, lg, lput, lput2, ls1, isL, entL, wsum, rdI1, rdI2, rdA1, rdA21, rdA22, rdL1, rdL22, rdL21, upN_at, rep, sh_0, F_0_0, F_0_1, F_0_2, F_0_3, F_0_4, F_0_5, F_0_6, F_0_7, F_0_8, sh_1, F_1_0, F_1_1, F_1_2, F_1_3, F_1_4, F_1_5, sh_3, F_3_0, F_3_1, F_3_2, F_3_3, F_3_4, F_3_5, sh_5, F_5_0, F_5_1, F_5_2, F_5_3, F_5_4, F_5_5, F_5_6, F_5_7, F_5_8, sh_12, F_12_0, F_12_1, F_12_2, F_12_3, F_12_4, F_12_5, sh_14, F_14_0, F_14_1, F_14_2, F_14_3, F_14_4, F_14_5, F_14_6, F_14_7, F_14_8, sh_21, F_21_0, F_21_1, F_21_2, F_21_3, F_21_4, F_21_5, F_21_6, F_21_7, F_21_8, sh_28, F_28_0, F_28_1, F_28_2, F_28_3, F_28_4, F_28_5, F_28_6, F_28_7, F_28_8, sh_35, F_35_0, sh_39, F_39_0, F_39_1, F_39_2, F_39_3, F_39_4, F_39_5, F_39_6, F_39_7, F_39_8, F_39_9, F_39_10, F_39_11, F_39_12, F_39_13, A_2, A_4, A_6, A_7, A_8, A_9, A_10, A_11, A_13, A_15, A_16, A_17, A_18, A_19, A_20, A_22, A_23, A_24, A_25, A_26, A_27, A_29, A_30, A_31, A_32, A_33, A_34, A_36, A_37, A_38, A_40, A_41, A_42, A_43, A_44, A_45, A_46, A_47]
    refine ⟨us h0 n, n, c, p, r, h0, lk, rfl, by omega, hX0, fun f hf => ?_⟩
    dsimp only [k_X4_apart_0, k_X4_apart_1, k_X4_apart_2, k_X4_apart_5, k_X4_apart_8, k_X4_apart_11, k_X4_apart_14, k_X4_apart_16, k_X4_apart_17, k_X4_apart_18, k_X4_apart_19, k_X4_apart_20, k_X4_apart_23, k_X4_apart_26, k_X4_apart_27, k_X4_apart_30, k_X4_apart_31, k_X4_apart_34, k_X4_apart_35, k_X4_apart_38, k_X4_apart_39, k_X4_apart_42, k_X4_apart_45, k_X4_apart_46, k_X4_apart_49, k_X4_apart_50, k_X4_apart_53, k_X4_apart_56, k_X4_apart_57, k_X4_apart_59, k_X4_apart_62, k_X4_apart_64, k_X4_apart_67, k_X4_apart_68, wp1, wp_s, cutIn, kont, Nat.reduceSub, Nat.reduceAdd, nth, o_const, o_lconst, o_ref, o_iload, o_lload, o_aload, o_istore, o_lstore, o_astore, o_iinc, o_bin, o_div, o_un, o_lbin, o_lsh, o_lcmp, o_i2l, o_l2i, o_if, o_icmp, o_goto, o_dup, o_dup2, o_pop, fav, o_getf, o_putI, o_putZ, o_putL, o_ald, o_ast, o_alen, popn, rst, o_callV, o_callT, o_callS, swx, o_sw, o_ret, o_iret, o_zret, o_cret, o_lret, o_aret, lg, lput, lput2, ls1, isL, entL, wsum, rdI1, rdI2, rdA1, rdA21, rdA22, rdL1, rdL22, rdL21, upN_at, rep, sh_0, F_0_0, F_0_1, F_0_2, F_0_3, F_0_4, F_0_5, F_0_6, F_0_7, F_0_8, sh_1, F_1_0, F_1_1, F_1_2, F_1_3, F_1_4, F_1_5, sh_3, F_3_0, F_3_1, F_3_2, F_3_3, F_3_4, F_3_5, sh_5, F_5_0, F_5_1, F_5_2, F_5_3, F_5_4, F_5_5, F_5_6, F_5_7, F_5_8, sh_12, F_12_0, F_12_1, F_12_2, F_12_3, F_12_4, F_12_5, sh_14, F_14_0, F_14_1, F_14_2, F_14_3, F_14_4, F_14_5, F_14_6, F_14_7, F_14_8, sh_21, F_21_0, F_21_1, F_21_2, F_21_3, F_21_4, F_21_5, F_21_6, F_21_7, F_21_8, sh_28, F_28_0, F_28_1, F_28_2, F_28_3, F_28_4, F_28_5, F_28_6, F_28_7, F_28_8, sh_35, F_35_0, sh_39, F_39_0, F_39_1, F_39_2, F_39_3, F_39_4, F_39_5, F_39_6, F_39_7, F_39_8, F_39_9, F_39_10, F_39_11, F_39_12, F_39_13, A_2, A_4, A_6, A_7, A_8, A_9, A_10, A_11, A_13, A_15, A_16, A_17, A_18, A_19, A_20, A_22, A_23, A_24, A_25, A_26, A_27, A_29, A_30, A_31, A_32, A_33, A_34, A_36, A_37, A_38, A_40, A_41, A_42, A_43, A_44, A_45, A_46, A_47]
    exact cut _ _ ⟨rfl, rfl, 1, f, by omega, by omega, hf, rfl, rfl, rfl⟩ (by omega) ⟨rfl, rfl, rfl, trivial⟩
theorem c_X4_rob : Ctr yX4_rob cX4_rob 6 (some .int) ({ frames := 4, cells := 0, slots := 0, locals := 91 } : Room) S_X4_rob := ctr_of (T := T_X4_rob) (by decide +kernel) (fun post C hr => t_X4_rob post C hr) v_X4_rob
theorem c_X4_apart : Ctr yX4_apart cX4_apart 3 (some .int) ({ frames := 3, cells := 0, slots := 0, locals := 68 } : Room) S_X4_apart := ctr_of (T := T_X4_apart) (by decide +kernel) (fun post C hr => t_X4_apart post C hr) v_X4_apart
