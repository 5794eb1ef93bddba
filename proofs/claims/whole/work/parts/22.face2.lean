/-! The class's face: keys come and go. -/
/-- what was, remembered -/
def rem (M : AM) (u k : Nat) : AM := if u < 10 then psh M u k else psh (sI 10 9 (o4 4 (shf (M.2.2 4) 9) (shf (M.2.2 5) 9) (shf (M.2.2 6) 9) (shf (M.2.2 7) 9) M)) 9 k
theorem rem_i {M : AM} {u k : Nat} {post : PO} (hk : k < 8) (hu : M.1 10 = nI u) (hu10 : u ≤ 10) (h : post none (rem M u k)) : S_X1_remember [VR 5, VI (nI k)] M post := by
  refine ⟨k, u, rfl, hk, hu, hu10, fun z => ?_, fun z => ?_⟩
  · rw [rem, if_pos z] at h; exact h
  · rw [rem, if_neg (by omega)] at h; exact h
theorem rem_9 (M : AM) (u k : Nat) : (rem M u k).1 9 = M.1 9 := by unfold rem; split <;> rfl
theorem rem_2 (M : AM) (u k : Nat) : (rem M u k).2.2 2 = M.2.2 2 := by unfold rem; split <;> rfl
theorem rem_3 (M : AM) (u k : Nat) : (rem M u k).2.2 3 = M.2.2 3 := by unfold rem; split <;> rfl
def apn (M : AM) (n : Nat) (x : Int32) : AM := sI 9 (nI (n + 1)) (sA 3 (upd (M.2.2 3) n (-4)) (sA 2 (upd (M.2.2 2) n x) M))
def S_X4_cut : SP := fun as M post => ∃ x n u, as = [VR 0, VI x] ∧ M.1 9 = nI n ∧ n ≤ 8 ∧ M.1 10 = nI u ∧ u ≤ 10 ∧ (¬ (0 ≤ x ∧ x < 512) → post (some (VI (-1))) M) ∧ ((0 ≤ x ∧ x < 512) → n = 8 → post (some (VI (-3))) M) ∧ ((0 ≤ x ∧ x < 512) → n < 8 → post (some (VI (nI n))) (apn (rem M u n) n x))
def S_X4_give : SP := fun as M post => ∃ x y n p u, as = [VR 0, VI x, VI y] ∧ M.1 9 = nI n ∧ n ≤ 8 ∧ M.1 6 = nI p ∧ p ≤ 4 ∧ M.1 10 = nI u ∧ u ≤ 10 ∧ (¬ ((0 ≤ x ∧ x < nI n) ∧ (y = -4 ∨ (0 ≤ y ∧ y < nI p))) → post (some (VI (-1))) M) ∧ (∀ k, x = nI k → k < n → (y = -4 ∨ (0 ≤ y ∧ y < nI p)) → (M.2.2 3 k = -3 ∨ M.2.2 3 k = y) → post (some (VI (-2))) M) ∧ (∀ k, x = nI k → k < n → (y = -4 ∨ (0 ≤ y ∧ y < nI p)) → ¬ (M.2.2 3 k = -3 ∨ M.2.2 3 k = y) → post (some (VI (M.2.2 3 k))) (sA 3 (upd (M.2.2 3) k y) (rem M u k)))
def S_X4_lose : SP := fun as M post => ∃ x n u, as = [VR 0, VI x] ∧ M.1 9 = nI n ∧ n ≤ 8 ∧ M.1 10 = nI u ∧ u ≤ 10 ∧ (¬ (0 ≤ x ∧ x < nI n) → post (some (VI (-1))) M) ∧ (∀ k, x = nI k → k < n → M.2.2 3 k = -3 → post (some (VI (-2))) M) ∧ (∀ k, x = nI k → k < n → ¬ M.2.2 3 k = -3 → post (some (VI (M.2.2 3 k))) (sA 3 (upd (M.2.2 3) k (-3)) (rem M u k)))
def S_X4_forge : SP := fun as M post => ∃ x y n u, as = [VR 0, VI x, VI y] ∧ M.1 9 = nI n ∧ n ≤ 8 ∧ M.1 10 = nI u ∧ u ≤ 10 ∧ (¬ ((0 ≤ x ∧ x < nI n) ∧ (0 ≤ y ∧ y < 9)) → post (some (VI (-1))) M) ∧ (∀ k, x = nI k → k < n → (0 ≤ y ∧ y < 9) → M.2.2 3 k = -3 → post (some (VI (-2))) M) ∧ (∀ k q, x = nI k → k < n → y = nI q → q < 9 → ¬ M.2.2 3 k = -3 → post (some (VI (M.2.2 2 k ^^^ nI (2 ^ q)))) (sA 2 (upd (M.2.2 2) k (M.2.2 2 k ^^^ nI (2 ^ q))) (rem M u k)))
def S_X4_undo : SP := fun as M post => ∃ u, as = [VR 0] ∧ M.1 10 = nI u ∧ u ≤ 10 ∧ (u = 0 → post (some (VI (-2))) M) ∧ (∀ v, u = v + 1 → ∃ k, M.2.2 5 v = nI k ∧ k < 8 ∧ post (some (VI (nI v))) (sI 9 (M.2.2 4 v) (sA 3 (upd (M.2.2 3) k (M.2.2 7 v)) (sA 2 (upd (M.2.2 2) k (M.2.2 6 v)) (sI 10 (nI v) M)))))
theorem cw_RX4_105 : ∀ w ∈ ([.methodLink RX4 105 yX4_isRow, .static yX4_isRow, .initialized yX4_isRow.cls, .code yX4_isRow cX4_isRow 1 (some .boolean)] : List Cond), w ∈ tb := tb_all [416, 417, 54, 418] (by decide +kernel) (by decide +kernel)
theorem cw_RX4_111 : ∀ w ∈ ([.methodLink RX4 111 yX1_remember, .instanceMethod yX1_remember, .selects yX1_remember.cls yX1_remember yX1_remember, .initialized yX1_remember.cls, .code yX1_remember cX1_remember 2 none] : List Cond), w ∈ tb := tb_all [419, 420, 421, 57, 422] (by decide +kernel) (by decide +kernel)
theorem cw_RX4_115 : ∀ w ∈ ([.methodLink RX4 115 yX1_append, .instanceMethod yX1_append, .selects yX1_append.cls yX1_append yX1_append, .initialized yX1_append.cls, .code yX1_append cX1_append 2 (some .boolean)] : List Cond), w ∈ tb := tb_all [427, 341, 342, 57, 343] (by decide +kernel) (by decide +kernel)
theorem dX4_cut_0 : decode cX4_cut 0 = .ok (.iload_n 1, 1) := by decide +kernel
theorem dX4_cut_1 : decode cX4_cut 1 = .ok (.invokestatic 105, 3) := by decide +kernel
theorem dX4_cut_4 : decode cX4_cut 4 = .ok (.ifCond .ne 5, 3) := by decide +kernel
theorem dX4_cut_7 : decode cX4_cut 7 = .ok (.iconst (-1), 1) := by decide +kernel
theorem dX4_cut_8 : decode cX4_cut 8 = .ok (.ireturn, 1) := by decide +kernel
theorem dX4_cut_9 : decode cX4_cut 9 = .ok (.aload_n 0, 1) := by decide +kernel
theorem dX4_cut_10 : decode cX4_cut 10 = .ok (.getfield 19, 3) := by decide +kernel
theorem dX4_cut_13 : decode cX4_cut 13 = .ok (.getfield 71, 3) := by decide +kernel
theorem dX4_cut_16 : decode cX4_cut 16 = .ok (.getfield 108, 3) := by decide +kernel
theorem dX4_cut_19 : decode cX4_cut 19 = .ok (.bipush 8, 2) := by decide +kernel
theorem dX4_cut_21 : decode cX4_cut 21 = .ok (.if_icmp .lt 6, 3) := by decide +kernel
theorem dX4_cut_24 : decode cX4_cut 24 = .ok (.bipush (-3), 2) := by decide +kernel
theorem dX4_cut_26 : decode cX4_cut 26 = .ok (.ireturn, 1) := by decide +kernel
theorem dX4_cut_27 : decode cX4_cut 27 = .ok (.aload_n 0, 1) := by decide +kernel
theorem dX4_cut_28 : decode cX4_cut 28 = .ok (.getfield 19, 3) := by decide +kernel
theorem dX4_cut_31 : decode cX4_cut 31 = .ok (.getfield 71, 3) := by decide +kernel
theorem dX4_cut_34 : decode cX4_cut 34 = .ok (.getfield 108, 3) := by decide +kernel
theorem dX4_cut_37 : decode cX4_cut 37 = .ok (.istore_n 2, 1) := by decide +kernel
theorem dX4_cut_38 : decode cX4_cut 38 = .ok (.aload_n 0, 1) := by decide +kernel
theorem dX4_cut_39 : decode cX4_cut 39 = .ok (.getfield 19, 3) := by decide +kernel
theorem dX4_cut_42 : decode cX4_cut 42 = .ok (.getfield 71, 3) := by decide +kernel
theorem dX4_cut_45 : decode cX4_cut 45 = .ok (.iload_n 2, 1) := by decide +kernel
theorem dX4_cut_46 : decode cX4_cut 46 = .ok (.invokevirtual 111, 3) := by decide +kernel
theorem dX4_cut_49 : decode cX4_cut 49 = .ok (.aload_n 0, 1) := by decide +kernel
theorem dX4_cut_50 : decode cX4_cut 50 = .ok (.getfield 19, 3) := by decide +kernel
theorem dX4_cut_53 : decode cX4_cut 53 = .ok (.getfield 71, 3) := by decide +kernel
theorem dX4_cut_56 : decode cX4_cut 56 = .ok (.iload_n 1, 1) := by decide +kernel
theorem dX4_cut_57 : decode cX4_cut 57 = .ok (.invokevirtual 115, 3) := by decide +kernel
theorem dX4_cut_60 : decode cX4_cut 60 = .ok (.pop, 1) := by decide +kernel
theorem dX4_cut_61 : decode cX4_cut 61 = .ok (.iload_n 2, 1) := by decide +kernel
theorem dX4_cut_62 : decode cX4_cut 62 = .ok (.ireturn, 1) := by decide +kernel
def T_X4_cut (post : PO) : List (Nat × OP) := [(0, o_iload 1 1), (1, o_callS S_X4_isRow 1 4), (4, o_if (fun x => x = 0) 7 9), (7, o_const (-1) 8), (8, o_iret post), (9, o_aload 0 10), (10, o_getf 4 1 13), (13, o_getf 0 0 16), (16, o_getf 1 2 19), (19, o_const 8 21), (21, o_icmp (fun x y => x < y) 27 24), (24, o_const (-3) 26), (26, o_iret post), (27, o_aload 0 28), (28, o_getf 4 1 31), (31, o_getf 0 0 34), (34, o_getf 1 2 37), (37, o_istore 2 38), (38, o_aload 0 39), (39, o_getf 4 1 42), (42, o_getf 0 0 45), (45, o_iload 2 46), (46, o_callV 1 S_X1_remember 1 49), (49, o_aload 0 50), (50, o_getf 4 1 53), (53, o_getf 0 0 56), (56, o_iload 1 57), (57, o_callV 1 S_X1_append 1 60), (60, o_pop 61), (61, o_iload 2 62), (62, o_iret post)]
theorem k_X4_cut_0 (post : PO) : lk (T_X4_cut post) 0 = o_iload 1 1 := rfl
theorem k_X4_cut_1 (post : PO) : lk (T_X4_cut post) 1 = o_callS S_X4_isRow 1 4 := rfl
theorem k_X4_cut_4 (post : PO) : lk (T_X4_cut post) 4 = o_if (fun x => x = 0) 7 9 := rfl
theorem k_X4_cut_7 (post : PO) : lk (T_X4_cut post) 7 = o_const (-1) 8 := rfl
theorem k_X4_cut_8 (post : PO) : lk (T_X4_cut post) 8 = o_iret post := rfl
theorem k_X4_cut_9 (post : PO) : lk (T_X4_cut post) 9 = o_aload 0 10 := rfl
theorem k_X4_cut_10 (post : PO) : lk (T_X4_cut post) 10 = o_getf 4 1 13 := rfl
theorem k_X4_cut_13 (post : PO) : lk (T_X4_cut post) 13 = o_getf 0 0 16 := rfl
theorem k_X4_cut_16 (post : PO) : lk (T_X4_cut post) 16 = o_getf 1 2 19 := rfl
theorem k_X4_cut_19 (post : PO) : lk (T_X4_cut post) 19 = o_const 8 21 := rfl
theorem k_X4_cut_21 (post : PO) : lk (T_X4_cut post) 21 = o_icmp (fun x y => x < y) 27 24 := rfl
theorem k_X4_cut_24 (post : PO) : lk (T_X4_cut post) 24 = o_const (-3) 26 := rfl
theorem k_X4_cut_26 (post : PO) : lk (T_X4_cut post) 26 = o_iret post := rfl
theorem k_X4_cut_27 (post : PO) : lk (T_X4_cut post) 27 = o_aload 0 28 := rfl
theorem k_X4_cut_28 (post : PO) : lk (T_X4_cut post) 28 = o_getf 4 1 31 := rfl
theorem k_X4_cut_31 (post : PO) : lk (T_X4_cut post) 31 = o_getf 0 0 34 := rfl
theorem k_X4_cut_34 (post : PO) : lk (T_X4_cut post) 34 = o_getf 1 2 37 := rfl
theorem k_X4_cut_37 (post : PO) : lk (T_X4_cut post) 37 = o_istore 2 38 := rfl
theorem k_X4_cut_38 (post : PO) : lk (T_X4_cut post) 38 = o_aload 0 39 := rfl
theorem k_X4_cut_39 (post : PO) : lk (T_X4_cut post) 39 = o_getf 4 1 42 := rfl
theorem k_X4_cut_42 (post : PO) : lk (T_X4_cut post) 42 = o_getf 0 0 45 := rfl
theorem k_X4_cut_45 (post : PO) : lk (T_X4_cut post) 45 = o_iload 2 46 := rfl
theorem k_X4_cut_46 (post : PO) : lk (T_X4_cut post) 46 = o_callV 1 S_X1_remember 1 49 := rfl
theorem k_X4_cut_49 (post : PO) : lk (T_X4_cut post) 49 = o_aload 0 50 := rfl
theorem k_X4_cut_50 (post : PO) : lk (T_X4_cut post) 50 = o_getf 4 1 53 := rfl
theorem k_X4_cut_53 (post : PO) : lk (T_X4_cut post) 53 = o_getf 0 0 56 := rfl
theorem k_X4_cut_56 (post : PO) : lk (T_X4_cut post) 56 = o_iload 1 57 := rfl
theorem k_X4_cut_57 (post : PO) : lk (T_X4_cut post) 57 = o_callV 1 S_X1_append 1 60 := rfl
theorem k_X4_cut_60 (post : PO) : lk (T_X4_cut post) 60 = o_pop 61 := rfl
theorem k_X4_cut_61 (post : PO) : lk (T_X4_cut post) 61 = o_iload 2 62 := rfl
theorem k_X4_cut_62 (post : PO) : lk (T_X4_cut post) 62 = o_iret post := rfl
set_option maxRecDepth 100000 in
theorem t_X4_cut {p : Program} {l : Launch} {e : Env} {s : State} {m : MethodId} {args : Array Value} {below : List Frame} {meth : Method} {c : Code} {D : va_G} {dA : Nat → ClassId} {ad : Nat → Nat} (post : PO) (C : CX p s m args meth c cX4_cut 3 yX4_cut.cls D dA ad (AA ad s.heap.size)) (hr : meth.sig.returnType = (some .int)) : SndL (WW p l e ({ frames := 3, cells := 0, slots := 0, locals := 65 } : Room) s m args below meth c 0 0 (MQ below (CQ D dA ad post (AA ad s.heap.size)) args s 0 0 (AA ad s.heap.size)) 3 D dA ad (AA ad s.heap.size)) (T_X4_cut post) := by
  refine snd_c (s_iload_n C rfl dX4_cut_0) ?_
  refine snd_c (s_callS C c_X4_isRow cw_RX4_105 ⟨rfl, rfl⟩ ⟨by decide +kernel, by decide +kernel, by decide +kernel⟩ ⟨by decide, by decide⟩ ⟨Nat.zero_le _, Nat.zero_le _⟩ dX4_cut_1) ?_
  refine snd_c (s_if_ne C dX4_cut_4 (by decide)) ?_
  refine snd_c (s_iconst C dX4_cut_7 rfl) ?_
  refine snd_c (s_iret C hr dX4_cut_8) ?_
  refine snd_c (s_aload_n C rfl dX4_cut_9) ?_
  refine snd_c (s_getf C (ci := 4) (j := 1) (T := TX4) rfl inX4 (by decide) fl_RX4_19 dX4_cut_10) ?_
  refine snd_c (s_getf C (ci := 0) (j := 0) (T := TX0) rfl inX0 (by decide) fl_RX4_71 dX4_cut_13) ?_
  refine snd_c (s_getf C (ci := 1) (j := 2) (T := TX1) rfl inX1 (by decide) fl_RX4_108 dX4_cut_16) ?_
  refine snd_c (s_bipush C dX4_cut_19 rfl) ?_
  refine snd_c (s_icmp_lt C dX4_cut_21 (by decide)) ?_
  refine snd_c (s_bipush C dX4_cut_24 rfl) ?_
  refine snd_c (s_iret C hr dX4_cut_26) ?_
  refine snd_c (s_aload_n C rfl dX4_cut_27) ?_
  refine snd_c (s_getf C (ci := 4) (j := 1) (T := TX4) rfl inX4 (by decide) fl_RX4_19 dX4_cut_28) ?_
  refine snd_c (s_getf C (ci := 0) (j := 0) (T := TX0) rfl inX0 (by decide) fl_RX4_71 dX4_cut_31) ?_
  refine snd_c (s_getf C (ci := 1) (j := 2) (T := TX1) rfl inX1 (by decide) fl_RX4_108 dX4_cut_34) ?_
  refine snd_c (s_istore_n C rfl (by decide) dX4_cut_37) ?_
  refine snd_c (s_aload_n C rfl dX4_cut_38) ?_
  refine snd_c (s_getf C (ci := 4) (j := 1) (T := TX4) rfl inX4 (by decide) fl_RX4_19 dX4_cut_39) ?_
  refine snd_c (s_getf C (ci := 0) (j := 0) (T := TX0) rfl inX0 (by decide) fl_RX4_71 dX4_cut_42) ?_
  refine snd_c (s_iload_n C rfl dX4_cut_45) ?_
  refine snd_c (s_callV C (ci := 1) c_X1_remember rfl cw_RX4_111 ⟨rfl, rfl⟩ ⟨by decide +kernel, by decide +kernel, by decide +kernel⟩ ⟨by decide, by decide⟩ ⟨Nat.zero_le _, Nat.zero_le _⟩ dX4_cut_46) ?_
  refine snd_c (s_aload_n C rfl dX4_cut_49) ?_
  refine snd_c (s_getf C (ci := 4) (j := 1) (T := TX4) rfl inX4 (by decide) fl_RX4_19 dX4_cut_50) ?_
  refine snd_c (s_getf C (ci := 0) (j := 0) (T := TX0) rfl inX0 (by decide) fl_RX4_71 dX4_cut_53) ?_
  refine snd_c (s_iload_n C rfl dX4_cut_56) ?_
  refine snd_c (s_callV C (ci := 1) c_X1_append rfl cw_RX4_115 ⟨rfl, rfl⟩ ⟨by decide +kernel, by decide +kernel, by decide +kernel⟩ ⟨by decide, by decide⟩ ⟨Nat.zero_le _, Nat.zero_le _⟩ dX4_cut_57) ?_
  refine snd_c (s_pop C dX4_cut_60) ?_
  refine snd_c (s_iload_n C rfl dX4_cut_61) ?_
  refine snd_c (s_iret C hr dX4_cut_62) ?_
  exact trivial
theorem cw_RX4_117 : ∀ w ∈ ([.methodLink RX4 117 yX0_hasPerson, .instanceMethod yX0_hasPerson, .selects yX0_hasPerson.cls yX0_hasPerson yX0_hasPerson, .initialized yX0_hasPerson.cls, .code yX0_hasPerson cX0_hasPerson 2 (some .boolean)] : List Cond), w ∈ tb := tb_all [432, 353, 354, 56, 355] (by decide +kernel) (by decide +kernel)
theorem dX4_give_0 : decode cX4_give 0 = .ok (.aload_n 0, 1) := by decide +kernel
theorem dX4_give_1 : decode cX4_give 1 = .ok (.getfield 19, 3) := by decide +kernel
theorem dX4_give_4 : decode cX4_give 4 = .ok (.getfield 71, 3) := by decide +kernel
theorem dX4_give_7 : decode cX4_give 7 = .ok (.iload_n 1, 1) := by decide +kernel
theorem dX4_give_8 : decode cX4_give 8 = .ok (.invokevirtual 74, 3) := by decide +kernel
theorem dX4_give_11 : decode cX4_give 11 = .ok (.ifCond .eq 20, 3) := by decide +kernel
theorem dX4_give_14 : decode cX4_give 14 = .ok (.iload_n 2, 1) := by decide +kernel
theorem dX4_give_15 : decode cX4_give 15 = .ok (.bipush (-4), 2) := by decide +kernel
theorem dX4_give_17 : decode cX4_give 17 = .ok (.if_icmp .eq 16, 3) := by decide +kernel
theorem dX4_give_20 : decode cX4_give 20 = .ok (.aload_n 0, 1) := by decide +kernel
theorem dX4_give_21 : decode cX4_give 21 = .ok (.getfield 19, 3) := by decide +kernel
theorem dX4_give_24 : decode cX4_give 24 = .ok (.iload_n 2, 1) := by decide +kernel
theorem dX4_give_25 : decode cX4_give 25 = .ok (.invokevirtual 117, 3) := by decide +kernel
theorem dX4_give_28 : decode cX4_give 28 = .ok (.ifCond .ne 5, 3) := by decide +kernel
theorem dX4_give_31 : decode cX4_give 31 = .ok (.iconst (-1), 1) := by decide +kernel
theorem dX4_give_32 : decode cX4_give 32 = .ok (.ireturn, 1) := by decide +kernel
theorem dX4_give_33 : decode cX4_give 33 = .ok (.aload_n 0, 1) := by decide +kernel
theorem dX4_give_34 : decode cX4_give 34 = .ok (.getfield 19, 3) := by decide +kernel
theorem dX4_give_37 : decode cX4_give 37 = .ok (.getfield 71, 3) := by decide +kernel
theorem dX4_give_40 : decode cX4_give 40 = .ok (.getfield 84, 3) := by decide +kernel
theorem dX4_give_43 : decode cX4_give 43 = .ok (.iload_n 1, 1) := by decide +kernel
theorem dX4_give_44 : decode cX4_give 44 = .ok (.iaload, 1) := by decide +kernel
theorem dX4_give_45 : decode cX4_give 45 = .ok (.istore_n 3, 1) := by decide +kernel
theorem dX4_give_46 : decode cX4_give 46 = .ok (.iload_n 3, 1) := by decide +kernel
theorem dX4_give_47 : decode cX4_give 47 = .ok (.bipush (-3), 2) := by decide +kernel
theorem dX4_give_49 : decode cX4_give 49 = .ok (.if_icmp .eq 8, 3) := by decide +kernel
theorem dX4_give_52 : decode cX4_give 52 = .ok (.iload_n 3, 1) := by decide +kernel
theorem dX4_give_53 : decode cX4_give 53 = .ok (.iload_n 2, 1) := by decide +kernel
theorem dX4_give_54 : decode cX4_give 54 = .ok (.if_icmp .ne 6, 3) := by decide +kernel
theorem dX4_give_57 : decode cX4_give 57 = .ok (.bipush (-2), 2) := by decide +kernel
theorem dX4_give_59 : decode cX4_give 59 = .ok (.ireturn, 1) := by decide +kernel
theorem dX4_give_60 : decode cX4_give 60 = .ok (.aload_n 0, 1) := by decide +kernel
theorem dX4_give_61 : decode cX4_give 61 = .ok (.getfield 19, 3) := by decide +kernel
theorem dX4_give_64 : decode cX4_give 64 = .ok (.getfield 71, 3) := by decide +kernel
theorem dX4_give_67 : decode cX4_give 67 = .ok (.iload_n 1, 1) := by decide +kernel
theorem dX4_give_68 : decode cX4_give 68 = .ok (.invokevirtual 111, 3) := by decide +kernel
theorem dX4_give_71 : decode cX4_give 71 = .ok (.aload_n 0, 1) := by decide +kernel
theorem dX4_give_72 : decode cX4_give 72 = .ok (.getfield 19, 3) := by decide +kernel
theorem dX4_give_75 : decode cX4_give 75 = .ok (.getfield 71, 3) := by decide +kernel
theorem dX4_give_78 : decode cX4_give 78 = .ok (.getfield 84, 3) := by decide +kernel
theorem dX4_give_81 : decode cX4_give 81 = .ok (.iload_n 1, 1) := by decide +kernel
theorem dX4_give_82 : decode cX4_give 82 = .ok (.iload_n 2, 1) := by decide +kernel
theorem dX4_give_83 : decode cX4_give 83 = .ok (.iastore, 1) := by decide +kernel
theorem dX4_give_84 : decode cX4_give 84 = .ok (.iload_n 3, 1) := by decide +kernel
theorem dX4_give_85 : decode cX4_give 85 = .ok (.ireturn, 1) := by decide +kernel
def T_X4_give (post : PO) : List (Nat × OP) := [(0, o_aload 0 1), (1, o_getf 4 1 4), (4, o_getf 0 0 7), (7, o_iload 1 8), (8, o_callV 1 S_X1_has 1 11), (11, o_if (fun x => x = 0) 31 14), (14, o_iload 2 15), (15, o_const (-4) 17), (17, o_icmp (fun x y => x = y) 33 20), (20, o_aload 0 21), (21, o_getf 4 1 24), (24, o_iload 2 25), (25, o_callV 0 S_X0_hasPerson 1 28), (28, o_if (fun x => x = 0) 31 33), (31, o_const (-1) 32), (32, o_iret post), (33, o_aload 0 34), (34, o_getf 4 1 37), (37, o_getf 0 0 40), (40, o_getf 1 1 43), (43, o_iload 1 44), (44, o_ald 0 45), (45, o_istore 3 46), (46, o_iload 3 47), (47, o_const (-3) 49), (49, o_icmp (fun x y => x = y) 57 52), (52, o_iload 3 53), (53, o_iload 2 54), (54, o_icmp (fun x y => x = y) 57 60), (57, o_const (-2) 59), (59, o_iret post), (60, o_aload 0 61), (61, o_getf 4 1 64), (64, o_getf 0 0 67), (67, o_iload 1 68), (68, o_callV 1 S_X1_remember 1 71), (71, o_aload 0 72), (72, o_getf 4 1 75), (75, o_getf 0 0 78), (78, o_getf 1 1 81), (81, o_iload 1 82), (82, o_iload 2 83), (83, o_ast 0 (fun x => x) 84), (84, o_iload 3 85), (85, o_iret post)]
theorem k_X4_give_0 (post : PO) : lk (T_X4_give post) 0 = o_aload 0 1 := rfl
theorem k_X4_give_1 (post : PO) : lk (T_X4_give post) 1 = o_getf 4 1 4 := rfl
theorem k_X4_give_4 (post : PO) : lk (T_X4_give post) 4 = o_getf 0 0 7 := rfl
theorem k_X4_give_7 (post : PO) : lk (T_X4_give post) 7 = o_iload 1 8 := rfl
theorem k_X4_give_8 (post : PO) : lk (T_X4_give post) 8 = o_callV 1 S_X1_has 1 11 := rfl
theorem k_X4_give_11 (post : PO) : lk (T_X4_give post) 11 = o_if (fun x => x = 0) 31 14 := rfl
theorem k_X4_give_14 (post : PO) : lk (T_X4_give post) 14 = o_iload 2 15 := rfl
theorem k_X4_give_15 (post : PO) : lk (T_X4_give post) 15 = o_const (-4) 17 := rfl
theorem k_X4_give_17 (post : PO) : lk (T_X4_give post) 17 = o_icmp (fun x y => x = y) 33 20 := rfl
theorem k_X4_give_20 (post : PO) : lk (T_X4_give post) 20 = o_aload 0 21 := rfl
theorem k_X4_give_21 (post : PO) : lk (T_X4_give post) 21 = o_getf 4 1 24 := rfl
theorem k_X4_give_24 (post : PO) : lk (T_X4_give post) 24 = o_iload 2 25 := rfl
theorem k_X4_give_25 (post : PO) : lk (T_X4_give post) 25 = o_callV 0 S_X0_hasPerson 1 28 := rfl
theorem k_X4_give_28 (post : PO) : lk (T_X4_give post) 28 = o_if (fun x => x = 0) 31 33 := rfl
theorem k_X4_give_31 (post : PO) : lk (T_X4_give post) 31 = o_const (-1) 32 := rfl
theorem k_X4_give_32 (post : PO) : lk (T_X4_give post) 32 = o_iret post := rfl
theorem k_X4_give_33 (post : PO) : lk (T_X4_give post) 33 = o_aload 0 34 := rfl
theorem k_X4_give_34 (post : PO) : lk (T_X4_give post) 34 = o_getf 4 1 37 := rfl
theorem k_X4_give_37 (post : PO) : lk (T_X4_give post) 37 = o_getf 0 0 40 := rfl
theorem k_X4_give_40 (post : PO) : lk (T_X4_give post) 40 = o_getf 1 1 43 := rfl
theorem k_X4_give_43 (post : PO) : lk (T_X4_give post) 43 = o_iload 1 44 := rfl
theorem k_X4_give_44 (post : PO) : lk (T_X4_give post) 44 = o_ald 0 45 := rfl
theorem k_X4_give_45 (post : PO) : lk (T_X4_give post) 45 = o_istore 3 46 := rfl
theorem k_X4_give_46 (post : PO) : lk (T_X4_give post) 46 = o_iload 3 47 := rfl
theorem k_X4_give_47 (post : PO) : lk (T_X4_give post) 47 = o_const (-3) 49 := rfl
theorem k_X4_give_49 (post : PO) : lk (T_X4_give post) 49 = o_icmp (fun x y => x = y) 57 52 := rfl
theorem k_X4_give_52 (post : PO) : lk (T_X4_give post) 52 = o_iload 3 53 := rfl
theorem k_X4_give_53 (post : PO) : lk (T_X4_give post) 53 = o_iload 2 54 := rfl
theorem k_X4_give_54 (post : PO) : lk (T_X4_give post) 54 = o_icmp (fun x y => x = y) 57 60 := rfl
theorem k_X4_give_57 (post : PO) : lk (T_X4_give post) 57 = o_const (-2) 59 := rfl
theorem k_X4_give_59 (post : PO) : lk (T_X4_give post) 59 = o_iret post := rfl
theorem k_X4_give_60 (post : PO) : lk (T_X4_give post) 60 = o_aload 0 61 := rfl
theorem k_X4_give_61 (post : PO) : lk (T_X4_give post) 61 = o_getf 4 1 64 := rfl
theorem k_X4_give_64 (post : PO) : lk (T_X4_give post) 64 = o_getf 0 0 67 := rfl
theorem k_X4_give_67 (post : PO) : lk (T_X4_give post) 67 = o_iload 1 68 := rfl
theorem k_X4_give_68 (post : PO) : lk (T_X4_give post) 68 = o_callV 1 S_X1_remember 1 71 := rfl
theorem k_X4_give_71 (post : PO) : lk (T_X4_give post) 71 = o_aload 0 72 := rfl
theorem k_X4_give_72 (post : PO) : lk (T_X4_give post) 72 = o_getf 4 1 75 := rfl
theorem k_X4_give_75 (post : PO) : lk (T_X4_give post) 75 = o_getf 0 0 78 := rfl
theorem k_X4_give_78 (post : PO) : lk (T_X4_give post) 78 = o_getf 1 1 81 := rfl
theorem k_X4_give_81 (post : PO) : lk (T_X4_give post) 81 = o_iload 1 82 := rfl
theorem k_X4_give_82 (post : PO) : lk (T_X4_give post) 82 = o_iload 2 83 := rfl
theorem k_X4_give_83 (post : PO) : lk (T_X4_give post) 83 = o_ast 0 (fun x => x) 84 := rfl
theorem k_X4_give_84 (post : PO) : lk (T_X4_give post) 84 = o_iload 3 85 := rfl
theorem k_X4_give_85 (post : PO) : lk (T_X4_give post) 85 = o_iret post := rfl
set_option maxRecDepth 100000 in
theorem t_X4_give {p : Program} {l : Launch} {e : Env} {s : State} {m : MethodId} {args : Array Value} {below : List Frame} {meth : Method} {c : Code} {D : va_G} {dA : Nat → ClassId} {ad : Nat → Nat} (post : PO) (C : CX p s m args meth c cX4_give 4 yX4_give.cls D dA ad (AA ad s.heap.size)) (hr : meth.sig.returnType = (some .int)) : SndL (WW p l e ({ frames := 3, cells := 0, slots := 0, locals := 65 } : Room) s m args below meth c 0 0 (MQ below (CQ D dA ad post (AA ad s.heap.size)) args s 0 0 (AA ad s.heap.size)) 4 D dA ad (AA ad s.heap.size)) (T_X4_give post) := by
  refine snd_c (s_aload_n C rfl dX4_give_0) ?_
  refine snd_c (s_getf C (ci := 4) (j := 1) (T := TX4) rfl inX4 (by decide) fl_RX4_19 dX4_give_1) ?_
  refine snd_c (s_getf C (ci := 0) (j := 0) (T := TX0) rfl inX0 (by decide) fl_RX4_71 dX4_give_4) ?_
  refine snd_c (s_iload_n C rfl dX4_give_7) ?_
  refine snd_c (s_callV C (ci := 1) c_X1_has rfl cw_RX4_74 ⟨rfl, rfl⟩ ⟨by decide +kernel, by decide +kernel, by decide +kernel⟩ ⟨by decide, by decide⟩ ⟨Nat.zero_le _, Nat.zero_le _⟩ dX4_give_8) ?_
  refine snd_c (s_if_eq C dX4_give_11 (by decide)) ?_
  refine snd_c (s_iload_n C rfl dX4_give_14) ?_
  refine snd_c (s_bipush C dX4_give_15 rfl) ?_
  refine snd_c (s_icmp_eq C dX4_give_17 (by decide)) ?_
  refine snd_c (s_aload_n C rfl dX4_give_20) ?_
  refine snd_c (s_getf C (ci := 4) (j := 1) (T := TX4) rfl inX4 (by decide) fl_RX4_19 dX4_give_21) ?_
  refine snd_c (s_iload_n C rfl dX4_give_24) ?_
  refine snd_c (s_callV C (ci := 0) c_X0_hasPerson rfl cw_RX4_117 ⟨rfl, rfl⟩ ⟨by decide +kernel, by decide +kernel, by decide +kernel⟩ ⟨by decide, by decide⟩ ⟨Nat.zero_le _, Nat.zero_le _⟩ dX4_give_25) ?_
  refine snd_c (s_if_ne C dX4_give_28 (by decide)) ?_
  refine snd_c (s_iconst C dX4_give_31 rfl) ?_
  refine snd_c (s_iret C hr dX4_give_32) ?_
  refine snd_c (s_aload_n C rfl dX4_give_33) ?_
  refine snd_c (s_getf C (ci := 4) (j := 1) (T := TX4) rfl inX4 (by decide) fl_RX4_19 dX4_give_34) ?_
  refine snd_c (s_getf C (ci := 0) (j := 0) (T := TX0) rfl inX0 (by decide) fl_RX4_71 dX4_give_37) ?_
  refine snd_c (s_getf C (ci := 1) (j := 1) (T := TX1) rfl inX1 (by decide) fl_RX4_84 dX4_give_40) ?_
  refine snd_c (s_iload_n C rfl dX4_give_43) ?_
  refine snd_c (s_iald C dX4_give_44) ?_
  refine snd_c (s_istore_n C rfl (by decide) dX4_give_45) ?_
  refine snd_c (s_iload_n C rfl dX4_give_46) ?_
  refine snd_c (s_bipush C dX4_give_47 rfl) ?_
  refine snd_c (s_icmp_eq C dX4_give_49 (by decide)) ?_
  refine snd_c (s_iload_n C rfl dX4_give_52) ?_
  refine snd_c (s_iload_n C rfl dX4_give_53) ?_
  refine snd_c (s_icmp_ne C dX4_give_54 (by decide)) ?_
  refine snd_c (s_bipush C dX4_give_57 rfl) ?_
  refine snd_c (s_iret C hr dX4_give_59) ?_
  refine snd_c (s_aload_n C rfl dX4_give_60) ?_
  refine snd_c (s_getf C (ci := 4) (j := 1) (T := TX4) rfl inX4 (by decide) fl_RX4_19 dX4_give_61) ?_
  refine snd_c (s_getf C (ci := 0) (j := 0) (T := TX0) rfl inX0 (by decide) fl_RX4_71 dX4_give_64) ?_
  refine snd_c (s_iload_n C rfl dX4_give_67) ?_
  refine snd_c (s_callV C (ci := 1) c_X1_remember rfl cw_RX4_111 ⟨rfl, rfl⟩ ⟨by decide +kernel, by decide +kernel, by decide +kernel⟩ ⟨by decide, by decide⟩ ⟨Nat.zero_le _, Nat.zero_le _⟩ dX4_give_68) ?_
  refine snd_c (s_aload_n C rfl dX4_give_71) ?_
  refine snd_c (s_getf C (ci := 4) (j := 1) (T := TX4) rfl inX4 (by decide) fl_RX4_19 dX4_give_72) ?_
  refine snd_c (s_getf C (ci := 0) (j := 0) (T := TX0) rfl inX0 (by decide) fl_RX4_71 dX4_give_75) ?_
  refine snd_c (s_getf C (ci := 1) (j := 1) (T := TX1) rfl inX1 (by decide) fl_RX4_84 dX4_give_78) ?_
  refine snd_c (s_iload_n C rfl dX4_give_81) ?_
  refine snd_c (s_iload_n C rfl dX4_give_82) ?_
  refine snd_c (s_iast C dX4_give_83) ?_
  refine snd_c (s_iload_n C rfl dX4_give_84) ?_
  refine snd_c (s_iret C hr dX4_give_85) ?_
  exact trivial
theorem dX4_lose_0 : decode cX4_lose 0 = .ok (.aload_n 0, 1) := by decide +kernel
theorem dX4_lose_1 : decode cX4_lose 1 = .ok (.getfield 19, 3) := by decide +kernel
theorem dX4_lose_4 : decode cX4_lose 4 = .ok (.getfield 71, 3) := by decide +kernel
theorem dX4_lose_7 : decode cX4_lose 7 = .ok (.iload_n 1, 1) := by decide +kernel
theorem dX4_lose_8 : decode cX4_lose 8 = .ok (.invokevirtual 74, 3) := by decide +kernel
theorem dX4_lose_11 : decode cX4_lose 11 = .ok (.ifCond .ne 5, 3) := by decide +kernel
theorem dX4_lose_14 : decode cX4_lose 14 = .ok (.iconst (-1), 1) := by decide +kernel
theorem dX4_lose_15 : decode cX4_lose 15 = .ok (.ireturn, 1) := by decide +kernel
theorem dX4_lose_16 : decode cX4_lose 16 = .ok (.aload_n 0, 1) := by decide +kernel
theorem dX4_lose_17 : decode cX4_lose 17 = .ok (.getfield 19, 3) := by decide +kernel
theorem dX4_lose_20 : decode cX4_lose 20 = .ok (.getfield 71, 3) := by decide +kernel
theorem dX4_lose_23 : decode cX4_lose 23 = .ok (.getfield 84, 3) := by decide +kernel
theorem dX4_lose_26 : decode cX4_lose 26 = .ok (.iload_n 1, 1) := by decide +kernel
theorem dX4_lose_27 : decode cX4_lose 27 = .ok (.iaload, 1) := by decide +kernel
theorem dX4_lose_28 : decode cX4_lose 28 = .ok (.istore_n 2, 1) := by decide +kernel
theorem dX4_lose_29 : decode cX4_lose 29 = .ok (.iload_n 2, 1) := by decide +kernel
theorem dX4_lose_30 : decode cX4_lose 30 = .ok (.bipush (-3), 2) := by decide +kernel
theorem dX4_lose_32 : decode cX4_lose 32 = .ok (.if_icmp .ne 6, 3) := by decide +kernel
theorem dX4_lose_35 : decode cX4_lose 35 = .ok (.bipush (-2), 2) := by decide +kernel
theorem dX4_lose_37 : decode cX4_lose 37 = .ok (.ireturn, 1) := by decide +kernel
theorem dX4_lose_38 : decode cX4_lose 38 = .ok (.aload_n 0, 1) := by decide +kernel
theorem dX4_lose_39 : decode cX4_lose 39 = .ok (.getfield 19, 3) := by decide +kernel
theorem dX4_lose_42 : decode cX4_lose 42 = .ok (.getfield 71, 3) := by decide +kernel
theorem dX4_lose_45 : decode cX4_lose 45 = .ok (.iload_n 1, 1) := by decide +kernel
theorem dX4_lose_46 : decode cX4_lose 46 = .ok (.invokevirtual 111, 3) := by decide +kernel
theorem dX4_lose_49 : decode cX4_lose 49 = .ok (.aload_n 0, 1) := by decide +kernel
theorem dX4_lose_50 : decode cX4_lose 50 = .ok (.getfield 19, 3) := by decide +kernel
theorem dX4_lose_53 : decode cX4_lose 53 = .ok (.getfield 71, 3) := by decide +kernel
theorem dX4_lose_56 : decode cX4_lose 56 = .ok (.getfield 84, 3) := by decide +kernel
theorem dX4_lose_59 : decode cX4_lose 59 = .ok (.iload_n 1, 1) := by decide +kernel
theorem dX4_lose_60 : decode cX4_lose 60 = .ok (.bipush (-3), 2) := by decide +kernel
theorem dX4_lose_62 : decode cX4_lose 62 = .ok (.iastore, 1) := by decide +kernel
theorem dX4_lose_63 : decode cX4_lose 63 = .ok (.iload_n 2, 1) := by decide +kernel
theorem dX4_lose_64 : decode cX4_lose 64 = .ok (.ireturn, 1) := by decide +kernel
def T_X4_lose (post : PO) : List (Nat × OP) := [(0, o_aload 0 1), (1, o_getf 4 1 4), (4, o_getf 0 0 7), (7, o_iload 1 8), (8, o_callV 1 S_X1_has 1 11), (11, o_if (fun x => x = 0) 14 16), (14, o_const (-1) 15), (15, o_iret post), (16, o_aload 0 17), (17, o_getf 4 1 20), (20, o_getf 0 0 23), (23, o_getf 1 1 26), (26, o_iload 1 27), (27, o_ald 0 28), (28, o_istore 2 29), (29, o_iload 2 30), (30, o_const (-3) 32), (32, o_icmp (fun x y => x = y) 35 38), (35, o_const (-2) 37), (37, o_iret post), (38, o_aload 0 39), (39, o_getf 4 1 42), (42, o_getf 0 0 45), (45, o_iload 1 46), (46, o_callV 1 S_X1_remember 1 49), (49, o_aload 0 50), (50, o_getf 4 1 53), (53, o_getf 0 0 56), (56, o_getf 1 1 59), (59, o_iload 1 60), (60, o_const (-3) 62), (62, o_ast 0 (fun x => x) 63), (63, o_iload 2 64), (64, o_iret post)]
theorem k_X4_lose_0 (post : PO) : lk (T_X4_lose post) 0 = o_aload 0 1 := rfl
theorem k_X4_lose_1 (post : PO) : lk (T_X4_lose post) 1 = o_getf 4 1 4 := rfl
theorem k_X4_lose_4 (post : PO) : lk (T_X4_lose post) 4 = o_getf 0 0 7 := rfl
theorem k_X4_lose_7 (post : PO) : lk (T_X4_lose post) 7 = o_iload 1 8 := rfl
theorem k_X4_lose_8 (post : PO) : lk (T_X4_lose post) 8 = o_callV 1 S_X1_has 1 11 := rfl
theorem k_X4_lose_11 (post : PO) : lk (T_X4_lose post) 11 = o_if (fun x => x = 0) 14 16 := rfl
theorem k_X4_lose_14 (post : PO) : lk (T_X4_lose post) 14 = o_const (-1) 15 := rfl
theorem k_X4_lose_15 (post : PO) : lk (T_X4_lose post) 15 = o_iret post := rfl
theorem k_X4_lose_16 (post : PO) : lk (T_X4_lose post) 16 = o_aload 0 17 := rfl
theorem k_X4_lose_17 (post : PO) : lk (T_X4_lose post) 17 = o_getf 4 1 20 := rfl
theorem k_X4_lose_20 (post : PO) : lk (T_X4_lose post) 20 = o_getf 0 0 23 := rfl
theorem k_X4_lose_23 (post : PO) : lk (T_X4_lose post) 23 = o_getf 1 1 26 := rfl
theorem k_X4_lose_26 (post : PO) : lk (T_X4_lose post) 26 = o_iload 1 27 := rfl
theorem k_X4_lose_27 (post : PO) : lk (T_X4_lose post) 27 = o_ald 0 28 := rfl
theorem k_X4_lose_28 (post : PO) : lk (T_X4_lose post) 28 = o_istore 2 29 := rfl
theorem k_X4_lose_29 (post : PO) : lk (T_X4_lose post) 29 = o_iload 2 30 := rfl
theorem k_X4_lose_30 (post : PO) : lk (T_X4_lose post) 30 = o_const (-3) 32 := rfl
theorem k_X4_lose_32 (post : PO) : lk (T_X4_lose post) 32 = o_icmp (fun x y => x = y) 35 38 := rfl
theorem k_X4_lose_35 (post : PO) : lk (T_X4_lose post) 35 = o_const (-2) 37 := rfl
theorem k_X4_lose_37 (post : PO) : lk (T_X4_lose post) 37 = o_iret post := rfl
theorem k_X4_lose_38 (post : PO) : lk (T_X4_lose post) 38 = o_aload 0 39 := rfl
theorem k_X4_lose_39 (post : PO) : lk (T_X4_lose post) 39 = o_getf 4 1 42 := rfl
theorem k_X4_lose_42 (post : PO) : lk (T_X4_lose post) 42 = o_getf 0 0 45 := rfl
theorem k_X4_lose_45 (post : PO) : lk (T_X4_lose post) 45 = o_iload 1 46 := rfl
theorem k_X4_lose_46 (post : PO) : lk (T_X4_lose post) 46 = o_callV 1 S_X1_remember 1 49 := rfl
theorem k_X4_lose_49 (post : PO) : lk (T_X4_lose post) 49 = o_aload 0 50 := rfl
theorem k_X4_lose_50 (post : PO) : lk (T_X4_lose post) 50 = o_getf 4 1 53 := rfl
theorem k_X4_lose_53 (post : PO) : lk (T_X4_lose post) 53 = o_getf 0 0 56 := rfl
theorem k_X4_lose_56 (post : PO) : lk (T_X4_lose post) 56 = o_getf 1 1 59 := rfl
theorem k_X4_lose_59 (post : PO) : lk (T_X4_lose post) 59 = o_iload 1 60 := rfl
theorem k_X4_lose_60 (post : PO) : lk (T_X4_lose post) 60 = o_const (-3) 62 := rfl
theorem k_X4_lose_62 (post : PO) : lk (T_X4_lose post) 62 = o_ast 0 (fun x => x) 63 := rfl
theorem k_X4_lose_63 (post : PO) : lk (T_X4_lose post) 63 = o_iload 2 64 := rfl
theorem k_X4_lose_64 (post : PO) : lk (T_X4_lose post) 64 = o_iret post := rfl
set_option maxRecDepth 100000 in
theorem t_X4_lose {p : Program} {l : Launch} {e : Env} {s : State} {m : MethodId} {args : Array Value} {below : List Frame} {meth : Method} {c : Code} {D : va_G} {dA : Nat → ClassId} {ad : Nat → Nat} (post : PO) (C : CX p s m args meth c cX4_lose 3 yX4_lose.cls D dA ad (AA ad s.heap.size)) (hr : meth.sig.returnType = (some .int)) : SndL (WW p l e ({ frames := 3, cells := 0, slots := 0, locals := 65 } : Room) s m args below meth c 0 0 (MQ below (CQ D dA ad post (AA ad s.heap.size)) args s 0 0 (AA ad s.heap.size)) 3 D dA ad (AA ad s.heap.size)) (T_X4_lose post) := by
  refine snd_c (s_aload_n C rfl dX4_lose_0) ?_
  refine snd_c (s_getf C (ci := 4) (j := 1) (T := TX4) rfl inX4 (by decide) fl_RX4_19 dX4_lose_1) ?_
  refine snd_c (s_getf C (ci := 0) (j := 0) (T := TX0) rfl inX0 (by decide) fl_RX4_71 dX4_lose_4) ?_
  refine snd_c (s_iload_n C rfl dX4_lose_7) ?_
  refine snd_c (s_callV C (ci := 1) c_X1_has rfl cw_RX4_74 ⟨rfl, rfl⟩ ⟨by decide +kernel, by decide +kernel, by decide +kernel⟩ ⟨by decide, by decide⟩ ⟨Nat.zero_le _, Nat.zero_le _⟩ dX4_lose_8) ?_
  refine snd_c (s_if_ne C dX4_lose_11 (by decide)) ?_
  refine snd_c (s_iconst C dX4_lose_14 rfl) ?_
  refine snd_c (s_iret C hr dX4_lose_15) ?_
  refine snd_c (s_aload_n C rfl dX4_lose_16) ?_
  refine snd_c (s_getf C (ci := 4) (j := 1) (T := TX4) rfl inX4 (by decide) fl_RX4_19 dX4_lose_17) ?_
  refine snd_c (s_getf C (ci := 0) (j := 0) (T := TX0) rfl inX0 (by decide) fl_RX4_71 dX4_lose_20) ?_
  refine snd_c (s_getf C (ci := 1) (j := 1) (T := TX1) rfl inX1 (by decide) fl_RX4_84 dX4_lose_23) ?_
  refine snd_c (s_iload_n C rfl dX4_lose_26) ?_
  refine snd_c (s_iald C dX4_lose_27) ?_
  refine snd_c (s_istore_n C rfl (by decide) dX4_lose_28) ?_
  refine snd_c (s_iload_n C rfl dX4_lose_29) ?_
  refine snd_c (s_bipush C dX4_lose_30 rfl) ?_
  refine snd_c (s_icmp_ne C dX4_lose_32 (by decide)) ?_
  refine snd_c (s_bipush C dX4_lose_35 rfl) ?_
  refine snd_c (s_iret C hr dX4_lose_37) ?_
  refine snd_c (s_aload_n C rfl dX4_lose_38) ?_
  refine snd_c (s_getf C (ci := 4) (j := 1) (T := TX4) rfl inX4 (by decide) fl_RX4_19 dX4_lose_39) ?_
  refine snd_c (s_getf C (ci := 0) (j := 0) (T := TX0) rfl inX0 (by decide) fl_RX4_71 dX4_lose_42) ?_
  refine snd_c (s_iload_n C rfl dX4_lose_45) ?_
  refine snd_c (s_callV C (ci := 1) c_X1_remember rfl cw_RX4_111 ⟨rfl, rfl⟩ ⟨by decide +kernel, by decide +kernel, by decide +kernel⟩ ⟨by decide, by decide⟩ ⟨Nat.zero_le _, Nat.zero_le _⟩ dX4_lose_46) ?_
  refine snd_c (s_aload_n C rfl dX4_lose_49) ?_
  refine snd_c (s_getf C (ci := 4) (j := 1) (T := TX4) rfl inX4 (by decide) fl_RX4_19 dX4_lose_50) ?_
  refine snd_c (s_getf C (ci := 0) (j := 0) (T := TX0) rfl inX0 (by decide) fl_RX4_71 dX4_lose_53) ?_
  refine snd_c (s_getf C (ci := 1) (j := 1) (T := TX1) rfl inX1 (by decide) fl_RX4_84 dX4_lose_56) ?_
  refine snd_c (s_iload_n C rfl dX4_lose_59) ?_
  refine snd_c (s_bipush C dX4_lose_60 rfl) ?_
  refine snd_c (s_iast C dX4_lose_62) ?_
  refine snd_c (s_iload_n C rfl dX4_lose_63) ?_
  refine snd_c (s_iret C hr dX4_lose_64) ?_
  exact trivial
theorem dX4_forge_0 : decode cX4_forge 0 = .ok (.aload_n 0, 1) := by decide +kernel
theorem dX4_forge_1 : decode cX4_forge 1 = .ok (.getfield 19, 3) := by decide +kernel
theorem dX4_forge_4 : decode cX4_forge 4 = .ok (.getfield 71, 3) := by decide +kernel
theorem dX4_forge_7 : decode cX4_forge 7 = .ok (.iload_n 1, 1) := by decide +kernel
theorem dX4_forge_8 : decode cX4_forge 8 = .ok (.invokevirtual 74, 3) := by decide +kernel
theorem dX4_forge_11 : decode cX4_forge 11 = .ok (.ifCond .eq 13, 3) := by decide +kernel
theorem dX4_forge_14 : decode cX4_forge 14 = .ok (.iload_n 2, 1) := by decide +kernel
theorem dX4_forge_15 : decode cX4_forge 15 = .ok (.ifCond .lt 9, 3) := by decide +kernel
theorem dX4_forge_18 : decode cX4_forge 18 = .ok (.iload_n 2, 1) := by decide +kernel
theorem dX4_forge_19 : decode cX4_forge 19 = .ok (.bipush 9, 2) := by decide +kernel
theorem dX4_forge_21 : decode cX4_forge 21 = .ok (.if_icmp .lt 5, 3) := by decide +kernel
theorem dX4_forge_24 : decode cX4_forge 24 = .ok (.iconst (-1), 1) := by decide +kernel
theorem dX4_forge_25 : decode cX4_forge 25 = .ok (.ireturn, 1) := by decide +kernel
theorem dX4_forge_26 : decode cX4_forge 26 = .ok (.aload_n 0, 1) := by decide +kernel
theorem dX4_forge_27 : decode cX4_forge 27 = .ok (.getfield 19, 3) := by decide +kernel
theorem dX4_forge_30 : decode cX4_forge 30 = .ok (.getfield 71, 3) := by decide +kernel
theorem dX4_forge_33 : decode cX4_forge 33 = .ok (.getfield 84, 3) := by decide +kernel
theorem dX4_forge_36 : decode cX4_forge 36 = .ok (.iload_n 1, 1) := by decide +kernel
theorem dX4_forge_37 : decode cX4_forge 37 = .ok (.iaload, 1) := by decide +kernel
theorem dX4_forge_38 : decode cX4_forge 38 = .ok (.bipush (-3), 2) := by decide +kernel
theorem dX4_forge_40 : decode cX4_forge 40 = .ok (.if_icmp .ne 6, 3) := by decide +kernel
theorem dX4_forge_43 : decode cX4_forge 43 = .ok (.bipush (-2), 2) := by decide +kernel
theorem dX4_forge_45 : decode cX4_forge 45 = .ok (.ireturn, 1) := by decide +kernel
theorem dX4_forge_46 : decode cX4_forge 46 = .ok (.aload_n 0, 1) := by decide +kernel
theorem dX4_forge_47 : decode cX4_forge 47 = .ok (.getfield 19, 3) := by decide +kernel
theorem dX4_forge_50 : decode cX4_forge 50 = .ok (.getfield 71, 3) := by decide +kernel
theorem dX4_forge_53 : decode cX4_forge 53 = .ok (.iload_n 1, 1) := by decide +kernel
theorem dX4_forge_54 : decode cX4_forge 54 = .ok (.invokevirtual 111, 3) := by decide +kernel
theorem dX4_forge_57 : decode cX4_forge 57 = .ok (.aload_n 0, 1) := by decide +kernel
theorem dX4_forge_58 : decode cX4_forge 58 = .ok (.getfield 19, 3) := by decide +kernel
theorem dX4_forge_61 : decode cX4_forge 61 = .ok (.getfield 71, 3) := by decide +kernel
theorem dX4_forge_64 : decode cX4_forge 64 = .ok (.getfield 81, 3) := by decide +kernel
theorem dX4_forge_67 : decode cX4_forge 67 = .ok (.iload_n 1, 1) := by decide +kernel
theorem dX4_forge_68 : decode cX4_forge 68 = .ok (.dup2, 1) := by decide +kernel
theorem dX4_forge_69 : decode cX4_forge 69 = .ok (.iaload, 1) := by decide +kernel
theorem dX4_forge_70 : decode cX4_forge 70 = .ok (.iconst 1, 1) := by decide +kernel
theorem dX4_forge_71 : decode cX4_forge 71 = .ok (.iload_n 2, 1) := by decide +kernel
theorem dX4_forge_72 : decode cX4_forge 72 = .ok (.ishl, 1) := by decide +kernel
theorem dX4_forge_73 : decode cX4_forge 73 = .ok (.ixor, 1) := by decide +kernel
theorem dX4_forge_74 : decode cX4_forge 74 = .ok (.iastore, 1) := by decide +kernel
theorem dX4_forge_75 : decode cX4_forge 75 = .ok (.aload_n 0, 1) := by decide +kernel
theorem dX4_forge_76 : decode cX4_forge 76 = .ok (.getfield 19, 3) := by decide +kernel
theorem dX4_forge_79 : decode cX4_forge 79 = .ok (.getfield 71, 3) := by decide +kernel
theorem dX4_forge_82 : decode cX4_forge 82 = .ok (.getfield 81, 3) := by decide +kernel
theorem dX4_forge_85 : decode cX4_forge 85 = .ok (.iload_n 1, 1) := by decide +kernel
theorem dX4_forge_86 : decode cX4_forge 86 = .ok (.iaload, 1) := by decide +kernel
theorem dX4_forge_87 : decode cX4_forge 87 = .ok (.ireturn, 1) := by decide +kernel
def T_X4_forge (post : PO) : List (Nat × OP) := [(0, o_aload 0 1), (1, o_getf 4 1 4), (4, o_getf 0 0 7), (7, o_iload 1 8), (8, o_callV 1 S_X1_has 1 11), (11, o_if (fun x => x = 0) 24 14), (14, o_iload 2 15), (15, o_if (fun x => x < 0) 24 18), (18, o_iload 2 19), (19, o_const 9 21), (21, o_icmp (fun x y => x < y) 26 24), (24, o_const (-1) 25), (25, o_iret post), (26, o_aload 0 27), (27, o_getf 4 1 30), (30, o_getf 0 0 33), (33, o_getf 1 1 36), (36, o_iload 1 37), (37, o_ald 0 38), (38, o_const (-3) 40), (40, o_icmp (fun x y => x = y) 43 46), (43, o_const (-2) 45), (45, o_iret post), (46, o_aload 0 47), (47, o_getf 4 1 50), (50, o_getf 0 0 53), (53, o_iload 1 54), (54, o_callV 1 S_X1_remember 1 57), (57, o_aload 0 58), (58, o_getf 4 1 61), (61, o_getf 0 0 64), (64, o_getf 1 0 67), (67, o_iload 1 68), (68, o_dup2 69), (69, o_ald 0 70), (70, o_const 1 71), (71, o_iload 2 72), (72, o_bin (fun x y => x <<< (y &&& 31)) 73), (73, o_bin (fun x y => x ^^^ y) 74), (74, o_ast 0 (fun x => x) 75), (75, o_aload 0 76), (76, o_getf 4 1 79), (79, o_getf 0 0 82), (82, o_getf 1 0 85), (85, o_iload 1 86), (86, o_ald 0 87), (87, o_iret post)]
theorem k_X4_forge_0 (post : PO) : lk (T_X4_forge post) 0 = o_aload 0 1 := rfl
theorem k_X4_forge_1 (post : PO) : lk (T_X4_forge post) 1 = o_getf 4 1 4 := rfl
theorem k_X4_forge_4 (post : PO) : lk (T_X4_forge post) 4 = o_getf 0 0 7 := rfl
theorem k_X4_forge_7 (post : PO) : lk (T_X4_forge post) 7 = o_iload 1 8 := rfl
theorem k_X4_forge_8 (post : PO) : lk (T_X4_forge post) 8 = o_callV 1 S_X1_has 1 11 := rfl
theorem k_X4_forge_11 (post : PO) : lk (T_X4_forge post) 11 = o_if (fun x => x = 0) 24 14 := rfl
theorem k_X4_forge_14 (post : PO) : lk (T_X4_forge post) 14 = o_iload 2 15 := rfl
theorem k_X4_forge_15 (post : PO) : lk (T_X4_forge post) 15 = o_if (fun x => x < 0) 24 18 := rfl
theorem k_X4_forge_18 (post : PO) : lk (T_X4_forge post) 18 = o_iload 2 19 := rfl
theorem k_X4_forge_19 (post : PO) : lk (T_X4_forge post) 19 = o_const 9 21 := rfl
theorem k_X4_forge_21 (post : PO) : lk (T_X4_forge post) 21 = o_icmp (fun x y => x < y) 26 24 := rfl
theorem k_X4_forge_24 (post : PO) : lk (T_X4_forge post) 24 = o_const (-1) 25 := rfl
theorem k_X4_forge_25 (post : PO) : lk (T_X4_forge post) 25 = o_iret post := rfl
theorem k_X4_forge_26 (post : PO) : lk (T_X4_forge post) 26 = o_aload 0 27 := rfl
theorem k_X4_forge_27 (post : PO) : lk (T_X4_forge post) 27 = o_getf 4 1 30 := rfl
theorem k_X4_forge_30 (post : PO) : lk (T_X4_forge post) 30 = o_getf 0 0 33 := rfl
theorem k_X4_forge_33 (post : PO) : lk (T_X4_forge post) 33 = o_getf 1 1 36 := rfl
theorem k_X4_forge_36 (post : PO) : lk (T_X4_forge post) 36 = o_iload 1 37 := rfl
theorem k_X4_forge_37 (post : PO) : lk (T_X4_forge post) 37 = o_ald 0 38 := rfl
theorem k_X4_forge_38 (post : PO) : lk (T_X4_forge post) 38 = o_const (-3) 40 := rfl
theorem k_X4_forge_40 (post : PO) : lk (T_X4_forge post) 40 = o_icmp (fun x y => x = y) 43 46 := rfl
theorem k_X4_forge_43 (post : PO) : lk (T_X4_forge post) 43 = o_const (-2) 45 := rfl
theorem k_X4_forge_45 (post : PO) : lk (T_X4_forge post) 45 = o_iret post := rfl
theorem k_X4_forge_46 (post : PO) : lk (T_X4_forge post) 46 = o_aload 0 47 := rfl
theorem k_X4_forge_47 (post : PO) : lk (T_X4_forge post) 47 = o_getf 4 1 50 := rfl
theorem k_X4_forge_50 (post : PO) : lk (T_X4_forge post) 50 = o_getf 0 0 53 := rfl
theorem k_X4_forge_53 (post : PO) : lk (T_X4_forge post) 53 = o_iload 1 54 := rfl
theorem k_X4_forge_54 (post : PO) : lk (T_X4_forge post) 54 = o_callV 1 S_X1_remember 1 57 := rfl
theorem k_X4_forge_57 (post : PO) : lk (T_X4_forge post) 57 = o_aload 0 58 := rfl
theorem k_X4_forge_58 (post : PO) : lk (T_X4_forge post) 58 = o_getf 4 1 61 := rfl
theorem k_X4_forge_61 (post : PO) : lk (T_X4_forge post) 61 = o_getf 0 0 64 := rfl
theorem k_X4_forge_64 (post : PO) : lk (T_X4_forge post) 64 = o_getf 1 0 67 := rfl
theorem k_X4_forge_67 (post : PO) : lk (T_X4_forge post) 67 = o_iload 1 68 := rfl
theorem k_X4_forge_68 (post : PO) : lk (T_X4_forge post) 68 = o_dup2 69 := rfl
theorem k_X4_forge_69 (post : PO) : lk (T_X4_forge post) 69 = o_ald 0 70 := rfl
theorem k_X4_forge_70 (post : PO) : lk (T_X4_forge post) 70 = o_const 1 71 := rfl
theorem k_X4_forge_71 (post : PO) : lk (T_X4_forge post) 71 = o_iload 2 72 := rfl
theorem k_X4_forge_72 (post : PO) : lk (T_X4_forge post) 72 = o_bin (fun x y => x <<< (y &&& 31)) 73 := rfl
theorem k_X4_forge_73 (post : PO) : lk (T_X4_forge post) 73 = o_bin (fun x y => x ^^^ y) 74 := rfl
theorem k_X4_forge_74 (post : PO) : lk (T_X4_forge post) 74 = o_ast 0 (fun x => x) 75 := rfl
theorem k_X4_forge_75 (post : PO) : lk (T_X4_forge post) 75 = o_aload 0 76 := rfl
theorem k_X4_forge_76 (post : PO) : lk (T_X4_forge post) 76 = o_getf 4 1 79 := rfl
theorem k_X4_forge_79 (post : PO) : lk (T_X4_forge post) 79 = o_getf 0 0 82 := rfl
theorem k_X4_forge_82 (post : PO) : lk (T_X4_forge post) 82 = o_getf 1 0 85 := rfl
theorem k_X4_forge_85 (post : PO) : lk (T_X4_forge post) 85 = o_iload 1 86 := rfl
theorem k_X4_forge_86 (post : PO) : lk (T_X4_forge post) 86 = o_ald 0 87 := rfl
theorem k_X4_forge_87 (post : PO) : lk (T_X4_forge post) 87 = o_iret post := rfl
set_option maxRecDepth 100000 in
theorem t_X4_forge {p : Program} {l : Launch} {e : Env} {s : State} {m : MethodId} {args : Array Value} {below : List Frame} {meth : Method} {c : Code} {D : va_G} {dA : Nat → ClassId} {ad : Nat → Nat} (post : PO) (C : CX p s m args meth c cX4_forge 3 yX4_forge.cls D dA ad (AA ad s.heap.size)) (hr : meth.sig.returnType = (some .int)) : SndL (WW p l e ({ frames := 3, cells := 0, slots := 0, locals := 65 } : Room) s m args below meth c 0 0 (MQ below (CQ D dA ad post (AA ad s.heap.size)) args s 0 0 (AA ad s.heap.size)) 3 D dA ad (AA ad s.heap.size)) (T_X4_forge post) := by
  refine snd_c (s_aload_n C rfl dX4_forge_0) ?_
  refine snd_c (s_getf C (ci := 4) (j := 1) (T := TX4) rfl inX4 (by decide) fl_RX4_19 dX4_forge_1) ?_
  refine snd_c (s_getf C (ci := 0) (j := 0) (T := TX0) rfl inX0 (by decide) fl_RX4_71 dX4_forge_4) ?_
  refine snd_c (s_iload_n C rfl dX4_forge_7) ?_
  refine snd_c (s_callV C (ci := 1) c_X1_has rfl cw_RX4_74 ⟨rfl, rfl⟩ ⟨by decide +kernel, by decide +kernel, by decide +kernel⟩ ⟨by decide, by decide⟩ ⟨Nat.zero_le _, Nat.zero_le _⟩ dX4_forge_8) ?_
  refine snd_c (s_if_eq C dX4_forge_11 (by decide)) ?_
  refine snd_c (s_iload_n C rfl dX4_forge_14) ?_
  refine snd_c (s_if_lt C dX4_forge_15 (by decide)) ?_
  refine snd_c (s_iload_n C rfl dX4_forge_18) ?_
  refine snd_c (s_bipush C dX4_forge_19 rfl) ?_
  refine snd_c (s_icmp_lt C dX4_forge_21 (by decide)) ?_
  refine snd_c (s_iconst C dX4_forge_24 rfl) ?_
  refine snd_c (s_iret C hr dX4_forge_25) ?_
  refine snd_c (s_aload_n C rfl dX4_forge_26) ?_
  refine snd_c (s_getf C (ci := 4) (j := 1) (T := TX4) rfl inX4 (by decide) fl_RX4_19 dX4_forge_27) ?_
  refine snd_c (s_getf C (ci := 0) (j := 0) (T := TX0) rfl inX0 (by decide) fl_RX4_71 dX4_forge_30) ?_
  refine snd_c (s_getf C (ci := 1) (j := 1) (T := TX1) rfl inX1 (by decide) fl_RX4_84 dX4_forge_33) ?_
  refine snd_c (s_iload_n C rfl dX4_forge_36) ?_
  refine snd_c (s_iald C dX4_forge_37) ?_
  refine snd_c (s_bipush C dX4_forge_38 rfl) ?_
  refine snd_c (s_icmp_ne C dX4_forge_40 (by decide)) ?_
  refine snd_c (s_bipush C dX4_forge_43 rfl) ?_
  refine snd_c (s_iret C hr dX4_forge_45) ?_
  refine snd_c (s_aload_n C rfl dX4_forge_46) ?_
  refine snd_c (s_getf C (ci := 4) (j := 1) (T := TX4) rfl inX4 (by decide) fl_RX4_19 dX4_forge_47) ?_
  refine snd_c (s_getf C (ci := 0) (j := 0) (T := TX0) rfl inX0 (by decide) fl_RX4_71 dX4_forge_50) ?_
  refine snd_c (s_iload_n C rfl dX4_forge_53) ?_
  refine snd_c (s_callV C (ci := 1) c_X1_remember rfl cw_RX4_111 ⟨rfl, rfl⟩ ⟨by decide +kernel, by decide +kernel, by decide +kernel⟩ ⟨by decide, by decide⟩ ⟨Nat.zero_le _, Nat.zero_le _⟩ dX4_forge_54) ?_
  refine snd_c (s_aload_n C rfl dX4_forge_57) ?_
  refine snd_c (s_getf C (ci := 4) (j := 1) (T := TX4) rfl inX4 (by decide) fl_RX4_19 dX4_forge_58) ?_
  refine snd_c (s_getf C (ci := 0) (j := 0) (T := TX0) rfl inX0 (by decide) fl_RX4_71 dX4_forge_61) ?_
  refine snd_c (s_getf C (ci := 1) (j := 0) (T := TX1) rfl inX1 (by decide) fl_RX4_81 dX4_forge_64) ?_
  refine snd_c (s_iload_n C rfl dX4_forge_67) ?_
  refine snd_c (s_dup2 C dX4_forge_68) ?_
  refine snd_c (s_iald C dX4_forge_69) ?_
  refine snd_c (s_iconst C dX4_forge_70 rfl) ?_
  refine snd_c (s_iload_n C rfl dX4_forge_71) ?_
  refine snd_c (s_ishl C dX4_forge_72) ?_
  refine snd_c (s_ixor C dX4_forge_73) ?_
  refine snd_c (s_iast C dX4_forge_74) ?_
  refine snd_c (s_aload_n C rfl dX4_forge_75) ?_
  refine snd_c (s_getf C (ci := 4) (j := 1) (T := TX4) rfl inX4 (by decide) fl_RX4_19 dX4_forge_76) ?_
  refine snd_c (s_getf C (ci := 0) (j := 0) (T := TX0) rfl inX0 (by decide) fl_RX4_71 dX4_forge_79) ?_
  refine snd_c (s_getf C (ci := 1) (j := 0) (T := TX1) rfl inX1 (by decide) fl_RX4_81 dX4_forge_82) ?_
  refine snd_c (s_iload_n C rfl dX4_forge_85) ?_
  refine snd_c (s_iald C dX4_forge_86) ?_
  refine snd_c (s_iret C hr dX4_forge_87) ?_
  exact trivial
theorem fl_RX4_120 : Cond.fieldLink RX4 120 (TX1 3).1 (TX1 3).2.1 (TX1 3).2.2.1 ∈ tb := tb_of 124 (by decide +kernel) (by decide +kernel)
theorem cw_RX4_123 : ∀ w ∈ ([.methodLink RX4 123 yX1_takeBack, .instanceMethod yX1_takeBack, .selects yX1_takeBack.cls yX1_takeBack yX1_takeBack, .initialized yX1_takeBack.cls, .code yX1_takeBack cX1_takeBack 2 none] : List Cond), w ∈ tb := tb_all [445, 446, 447, 57, 448] (by decide +kernel) (by decide +kernel)
theorem dX4_undo_0 : decode cX4_undo 0 = .ok (.aload_n 0, 1) := by decide +kernel
theorem dX4_undo_1 : decode cX4_undo 1 = .ok (.getfield 19, 3) := by decide +kernel
theorem dX4_undo_4 : decode cX4_undo 4 = .ok (.getfield 71, 3) := by decide +kernel
theorem dX4_undo_7 : decode cX4_undo 7 = .ok (.getfield 120, 3) := by decide +kernel
theorem dX4_undo_10 : decode cX4_undo 10 = .ok (.ifCond .ne 6, 3) := by decide +kernel
theorem dX4_undo_13 : decode cX4_undo 13 = .ok (.bipush (-2), 2) := by decide +kernel
theorem dX4_undo_15 : decode cX4_undo 15 = .ok (.ireturn, 1) := by decide +kernel
theorem dX4_undo_16 : decode cX4_undo 16 = .ok (.aload_n 0, 1) := by decide +kernel
theorem dX4_undo_17 : decode cX4_undo 17 = .ok (.getfield 19, 3) := by decide +kernel
theorem dX4_undo_20 : decode cX4_undo 20 = .ok (.getfield 71, 3) := by decide +kernel
theorem dX4_undo_23 : decode cX4_undo 23 = .ok (.invokevirtual 123, 3) := by decide +kernel
theorem dX4_undo_26 : decode cX4_undo 26 = .ok (.aload_n 0, 1) := by decide +kernel
theorem dX4_undo_27 : decode cX4_undo 27 = .ok (.getfield 19, 3) := by decide +kernel
theorem dX4_undo_30 : decode cX4_undo 30 = .ok (.getfield 71, 3) := by decide +kernel
theorem dX4_undo_33 : decode cX4_undo 33 = .ok (.getfield 120, 3) := by decide +kernel
theorem dX4_undo_36 : decode cX4_undo 36 = .ok (.ireturn, 1) := by decide +kernel
def T_X4_undo (post : PO) : List (Nat × OP) := [(0, o_aload 0 1), (1, o_getf 4 1 4), (4, o_getf 0 0 7), (7, o_getf 1 3 10), (10, o_if (fun x => x = 0) 13 16), (13, o_const (-2) 15), (15, o_iret post), (16, o_aload 0 17), (17, o_getf 4 1 20), (20, o_getf 0 0 23), (23, o_callV 1 S_X1_takeBack 0 26), (26, o_aload 0 27), (27, o_getf 4 1 30), (30, o_getf 0 0 33), (33, o_getf 1 3 36), (36, o_iret post)]
theorem k_X4_undo_0 (post : PO) : lk (T_X4_undo post) 0 = o_aload 0 1 := rfl
theorem k_X4_undo_1 (post : PO) : lk (T_X4_undo post) 1 = o_getf 4 1 4 := rfl
theorem k_X4_undo_4 (post : PO) : lk (T_X4_undo post) 4 = o_getf 0 0 7 := rfl
theorem k_X4_undo_7 (post : PO) : lk (T_X4_undo post) 7 = o_getf 1 3 10 := rfl
theorem k_X4_undo_10 (post : PO) : lk (T_X4_undo post) 10 = o_if (fun x => x = 0) 13 16 := rfl
theorem k_X4_undo_13 (post : PO) : lk (T_X4_undo post) 13 = o_const (-2) 15 := rfl
theorem k_X4_undo_15 (post : PO) : lk (T_X4_undo post) 15 = o_iret post := rfl
theorem k_X4_undo_16 (post : PO) : lk (T_X4_undo post) 16 = o_aload 0 17 := rfl
theorem k_X4_undo_17 (post : PO) : lk (T_X4_undo post) 17 = o_getf 4 1 20 := rfl
theorem k_X4_undo_20 (post : PO) : lk (T_X4_undo post) 20 = o_getf 0 0 23 := rfl
theorem k_X4_undo_23 (post : PO) : lk (T_X4_undo post) 23 = o_callV 1 S_X1_takeBack 0 26 := rfl
theorem k_X4_undo_26 (post : PO) : lk (T_X4_undo post) 26 = o_aload 0 27 := rfl
theorem k_X4_undo_27 (post : PO) : lk (T_X4_undo post) 27 = o_getf 4 1 30 := rfl
theorem k_X4_undo_30 (post : PO) : lk (T_X4_undo post) 30 = o_getf 0 0 33 := rfl
theorem k_X4_undo_33 (post : PO) : lk (T_X4_undo post) 33 = o_getf 1 3 36 := rfl
theorem k_X4_undo_36 (post : PO) : lk (T_X4_undo post) 36 = o_iret post := rfl
set_option maxRecDepth 100000 in
theorem t_X4_undo {p : Program} {l : Launch} {e : Env} {s : State} {m : MethodId} {args : Array Value} {below : List Frame} {meth : Method} {c : Code} {D : va_G} {dA : Nat → ClassId} {ad : Nat → Nat} (post : PO) (C : CX p s m args meth c cX4_undo 1 yX4_undo.cls D dA ad (AA ad s.heap.size)) (hr : meth.sig.returnType = (some .int)) : SndL (WW p l e ({ frames := 1, cells := 0, slots := 0, locals := 21 } : Room) s m args below meth c 0 0 (MQ below (CQ D dA ad post (AA ad s.heap.size)) args s 0 0 (AA ad s.heap.size)) 1 D dA ad (AA ad s.heap.size)) (T_X4_undo post) := by
  refine snd_c (s_aload_n C rfl dX4_undo_0) ?_
  refine snd_c (s_getf C (ci := 4) (j := 1) (T := TX4) rfl inX4 (by decide) fl_RX4_19 dX4_undo_1) ?_
  refine snd_c (s_getf C (ci := 0) (j := 0) (T := TX0) rfl inX0 (by decide) fl_RX4_71 dX4_undo_4) ?_
  refine snd_c (s_getf C (ci := 1) (j := 3) (T := TX1) rfl inX1 (by decide) fl_RX4_120 dX4_undo_7) ?_
  refine snd_c (s_if_ne C dX4_undo_10 (by decide)) ?_
  refine snd_c (s_bipush C dX4_undo_13 rfl) ?_
  refine snd_c (s_iret C hr dX4_undo_15) ?_
  refine snd_c (s_aload_n C rfl dX4_undo_16) ?_
  refine snd_c (s_getf C (ci := 4) (j := 1) (T := TX4) rfl inX4 (by decide) fl_RX4_19 dX4_undo_17) ?_
  refine snd_c (s_getf C (ci := 0) (j := 0) (T := TX0) rfl inX0 (by decide) fl_RX4_71 dX4_undo_20) ?_
  refine snd_c (s_callV C (ci := 1) c_X1_takeBack rfl cw_RX4_123 ⟨rfl, rfl⟩ ⟨by decide +kernel, by decide +kernel, by decide +kernel⟩ ⟨by decide, by decide⟩ ⟨Nat.zero_le _, Nat.zero_le _⟩ dX4_undo_23) ?_
  refine snd_c (s_aload_n C rfl dX4_undo_26) ?_
  refine snd_c (s_getf C (ci := 4) (j := 1) (T := TX4) rfl inX4 (by decide) fl_RX4_19 dX4_undo_27) ?_
  refine snd_c (s_getf C (ci := 0) (j := 0) (T := TX0) rfl inX0 (by decide) fl_RX4_71 dX4_undo_30) ?_
  refine snd_c (s_getf C (ci := 1) (j := 3) (T := TX1) rfl inX1 (by decide) fl_RX4_120 dX4_undo_33) ?_
  refine snd_c (s_iret C hr dX4_undo_36) ?_
  exact trivial
set_option maxRecDepth 100000 in
theorem v_X4_cut : ∀ as M post, S_X4_cut as M post → wsum as ≤ 3 ∧ RUN (T_X4_cut post) 0 (entL 3 as) [] M := by
  rintro as M post ⟨x, n, u, rfl, hn, hn8, hu, hu10, h1, h2, h3⟩
  refine ⟨by show 2 ≤ 3; omega, run_wp 60 ?_⟩
  dsimp only [k_X4_cut_0, k_X4_cut_1, k_X4_cut_4, k_X4_cut_7, k_X4_cut_8, k_X4_cut_9, k_X4_cut_10, k_X4_cut_13, k_X4_cut_16, k_X4_cut_19, k_X4_cut_21, k_X4_cut_24, k_X4_cut_26, k_X4_cut_27, k_X4_cut_28, k_X4_cut_31, k_X4_cut_34, k_X4_cut_37, k_X4_cut_38, k_X4_cut_39, k_X4_cut_42, k_X4_cut_45, k_X4_cut_46, k_X4_cut_49, k_X4_cut_50, k_X4_cut_53, k_X4_cut_56, k_X4_cut_57, k_X4_cut_60, k_X4_cut_61, k_X4_cut_62, wp1, wp_s, cutIn, kont, Nat.reduceSub, Nat.reduceAdd, nth, o_const, o_lconst, o_ref, o_iload, o_lload, o_aload, o_istore, o_lstore, o_astore, o_iinc, o_bin, o_div, o_un, o_lbin, o_lsh, o_lcmp, o_i2l, o_l2i, o_if, o_icmp, o_goto, o_dup, o_dup2, o_pop, fav, o_getf, o_putI, o_putZ, o_putL, o_ald, o_ast, o_alen, popn, rst, o_callV, o_callT, o_callS, swx, o_sw, o_ret, o_iret, o_zret, o_cret, o_lret, o_aret, lg, lput, lput2, ls1, isL, entL, wsum, rdI1, rdI2, rdA1, rdA21, rdA22, rdL1, rdL22, rdL21, upN_at, rep, sh_0, F_0_0, F_0_1, F_0_2, F_0_3, F_0_4, F_0_5, F_0_6, F_0_7, F_0_8, sh_1, F_1_0, F_1_1, F_1_2, F_1_3, F_1_4, F_1_5, sh_3, F_3_0, F_3_1, F_3_2, F_3_3, F_3_4, F_3_5, sh_5, F_5_0, F_5_1, F_5_2, F_5_3, F_5_4, F_5_5, F_5_6, F_5_7, F_5_8, sh_12, F_12_0, F_12_1, F_12_2, F_12_3, F_12_4, F_12_5, sh_14, F_14_0, F_14_1, F_14_2, F_14_3, F_14_4, F_14_5, F_14_6, F_14_7, F_14_8, sh_21, F_21_0, F_21_1, F_21_2, F_21_3, F_21_4, F_21_5, F_21_6, F_21_7, F_21_8, sh_28, F_28_0, F_28_1, F_28_2, F_28_3, F_28_4, F_28_5, F_28_6, F_28_7, F_28_8, sh_35, F_35_0, sh_39, F_39_0, F_39_1, F_39_2, F_39_3, F_39_4, F_39_5, F_39_6, F_39_7, F_39_8, F_39_9, F_39_10, F_39_11, F_39_12, F_39_13, A_2, A_4, A_6, A_7, A_8, A_9, A_10, A_11, A_13, A_15, A_16, A_17, A_18, A_19, A_20, A_22, A_23, A_24, A_25, A_26, A_27, A_29, A_30, A_31, A_32, A_33, A_34, A_36, A_37, A_38, A_40, A_41, A_42, A_43, A_44, A_45, A_46, A_47]
  refine ⟨x, rfl, fun z => ?_, fun z => ?_⟩
  · dsimp only [k_X4_cut_0, k_X4_cut_1, k_X4_cut_4, k_X4_cut_7, k_X4_cut_8, k_X4_cut_9, k_X4_cut_10, k_X4_cut_13, k_X4_cut_16, k_X4_cut_19, k_X4_cut_21, k_X4_cut_24, k_X4_cut_26, k_X4_cut_27, k_X4_cut_28, k_X4_cut_31, k_X4_cut_34, k_X4_cut_37, k_X4_cut_38, k_X4_cut_39, k_X4_cut_42, k_X4_cut_45, k_X4_cut_46, k_X4_cut_49, k_X4_cut_50, k_X4_cut_53, k_X4_cut_56, k_X4_cut_57, k_X4_cut_60, k_X4_cut_61, k_X4_cut_62, wp1, wp_s, cutIn, kont, Nat.reduceSub, Nat.reduceAdd, nth, o_const, o_lconst, o_ref, o_iload, o_lload, o_aload, o_istore, o_lstore, o_astore, o_iinc, o_bin, o_div, o_un, o_lbin, o_lsh, o_lcmp, o_i2l, o_l2i, o_if, o_icmp, o_goto, o_dup, o_dup2, o_pop, fav, o_getf, o_putI, o_putZ, o_putL, o_ald, o_ast, o_alen, popn, rst, o_callV, o_callT, o_callS, swx, o_sw, o_ret, o_iret, o_zret, o_cret, o_lret, o_aret, lg, lput, lput2, ls1, isL, entL, wsum, rdI1, rdI2, rdA1, rdA21, rdA22, rdL1, rdL22, rdL21, upN_at, rep, sh_0, F_0_0, F_0_1, F_0_2, F_0_3, F_0_4, F_0_5, F_0_6, F_0_7, F_0_8, sh_1, F_1_0, F_1_1, F_1_2, F_1_3, F_1_4, F_1_5, sh_3, F_3_0, F_3_1, F_3_2, F_3_3, F_3_4, F_3_5, sh_5, F_5_0, F_5_1, F_5_2, F_5_3, F_5_4, F_5_5, F_5_6, F_5_7, F_5_8, sh_12, F_12_0, F_12_1, F_12_2, F_12_3, F_12_4, F_12_5, sh_14, F_14_0, F_14_1, F_14_2, F_14_3, F_14_4, F_14_5, F_14_6, F_14_7, F_14_8, sh_21, F_21_0, F_21_1, F_21_2, F_21_3, F_21_4, F_21_5, F_21_6, F_21_7, F_21_8, sh_28, F_28_0, F_28_1, F_28_2, F_28_3, F_28_4, F_28_5, F_28_6, F_28_7, F_28_8, sh_35, F_35_0, sh_39, F_39_0, F_39_1, F_39_2, F_39_3, F_39_4, F_39_5, F_39_6, F_39_7, F_39_8, F_39_9, F_39_10, F_39_11, F_39_12, F_39_13, A_2, A_4, A_6, A_7, A_8, A_9, A_10, A_11, A_13, A_15, A_16, A_17, A_18, A_19, A_20, A_22, A_23, A_24, A_25, A_26, A_27, A_29, A_30, A_31, A_32, A_33, A_34, A_36, A_37, A_38, A_40, A_41, A_42, A_43, A_44, A_45, A_46, A_47]
    rw [hn, show (8 : Int32) = nI 8 from rfl]
    simp (disch := omega) only [nI_leI, nI_ltI, nI_eq, nI_1, nI_add, one_shl, nI_or, nI_xor, nI_and, bit_0, bit_1, true_or, or_true, true_and, and_true, eq_self, not_true_eq_false, not_false_eq_true, forall_const]
    refine ⟨fun q => absurd q (by decide), fun _ => ⟨fun z2 => ?_, fun z2 => h2 z (by omega)⟩⟩
    refine rem_i z2 hu hu10 ?_
    dsimp only [k_X4_cut_0, k_X4_cut_1, k_X4_cut_4, k_X4_cut_7, k_X4_cut_8, k_X4_cut_9, k_X4_cut_10, k_X4_cut_13, k_X4_cut_16, k_X4_cut_19, k_X4_cut_21, k_X4_cut_24, k_X4_cut_26, k_X4_cut_27, k_X4_cut_28, k_X4_cut_31, k_X4_cut_34, k_X4_cut_37, k_X4_cut_38, k_X4_cut_39, k_X4_cut_42, k_X4_cut_45, k_X4_cut_46, k_X4_cut_49, k_X4_cut_50, k_X4_cut_53, k_X4_cut_56, k_X4_cut_57, k_X4_cut_60, k_X4_cut_61, k_X4_cut_62, wp1, wp_s, cutIn, kont, Nat.reduceSub, Nat.reduceAdd, nth, o_const, o_lconst, o_ref, o_iload, o_lload, o_aload, o_istore, o_lstore, o_astore, o_iinc, o_bin, o_div, o_un, o_lbin, o_lsh, o_lcmp, o_i2l, o_l2i, o_if, o_icmp, o_goto, o_dup, o_dup2, o_pop, fav, o_getf, o_putI, o_putZ, o_putL, o_ald, o_ast, o_alen, popn, rst, o_callV, o_callT, o_callS, swx, o_sw, o_ret, o_iret, o_zret, o_cret, o_lret, o_aret, lg, lput, lput2, ls1, isL, entL, wsum, rdI1, rdI2, rdA1, rdA21, rdA22, rdL1, rdL22, rdL21, upN_at, rep, sh_0, F_0_0, F_0_1, F_0_2, F_0_3, F_0_4, F_0_5, F_0_6, F_0_7, F_0_8, sh_1, F_1_0, F_1_1, F_1_2, F_1_3, F_1_4, F_1_5, sh_3, F_3_0, F_3_1, F_3_2, F_3_3, F_3_4, F_3_5, sh_5, F_5_0, F_5_1, F_5_2, F_5_3, F_5_4, F_5_5, F_5_6, F_5_7, F_5_8, sh_12, F_12_0, F_12_1, F_12_2, F_12_3, F_12_4, F_12_5, sh_14, F_14_0, F_14_1, F_14_2, F_14_3, F_14_4, F_14_5, F_14_6, F_14_7, F_14_8, sh_21, F_21_0, F_21_1, F_21_2, F_21_3, F_21_4, F_21_5, F_21_6, F_21_7, F_21_8, sh_28, F_28_0, F_28_1, F_28_2, F_28_3, F_28_4, F_28_5, F_28_6, F_28_7, F_28_8, sh_35, F_35_0, sh_39, F_39_0, F_39_1, F_39_2, F_39_3, F_39_4, F_39_5, F_39_6, F_39_7, F_39_8, F_39_9, F_39_10, F_39_11, F_39_12, F_39_13, A_2, A_4, A_6, A_7, A_8, A_9, A_10, A_11, A_13, A_15, A_16, A_17, A_18, A_19, A_20, A_22, A_23, A_24, A_25, A_26, A_27, A_29, A_30, A_31, A_32, A_33, A_34, A_36, A_37, A_38, A_40, A_41, A_42, A_43, A_44, A_45, A_46, A_47]
    refine ⟨5, x, rfl, Or.inl ⟨rfl, n, by rw [rem_9]; exact hn, hn8, fun q => absurd q (by omega), fun _ => ?_⟩⟩
    dsimp only [k_X4_cut_0, k_X4_cut_1, k_X4_cut_4, k_X4_cut_7, k_X4_cut_8, k_X4_cut_9, k_X4_cut_10, k_X4_cut_13, k_X4_cut_16, k_X4_cut_19, k_X4_cut_21, k_X4_cut_24, k_X4_cut_26, k_X4_cut_27, k_X4_cut_28, k_X4_cut_31, k_X4_cut_34, k_X4_cut_37, k_X4_cut_38, k_X4_cut_39, k_X4_cut_42, k_X4_cut_45, k_X4_cut_46, k_X4_cut_49, k_X4_cut_50, k_X4_cut_53, k_X4_cut_56, k_X4_cut_57, k_X4_cut_60, k_X4_cut_61, k_X4_cut_62, wp1, wp_s, cutIn, kont, Nat.reduceSub, Nat.reduceAdd, nth, o_const, o_lconst, o_ref, o_iload, o_lload, o_aload, o_istore, o_lstore, o_astore, o_iinc, o_bin, o_div, o_un, o_lbin, o_lsh, o_lcmp, o_i2l, o_l2i, o_if, o_icmp, o_goto, o_dup, o_dup2, o_pop, fav, o_getf, o_putI, o_putZ, o_putL, o_ald, o_ast, o_alen, popn, rst, o_callV, o_callT, o_callS, swx, o_sw, o_ret, o_iret, o_zret, o_cret, o_lret, o_aret, lg, lput, lput2, ls1, isL, entL, wsum, rdI1, rdI2, rdA1, rdA21, rdA22, rdL1, rdL22, rdL21, upN_at, rep, sh_0, F_0_0, F_0_1, F_0_2, F_0_3, F_0_4, F_0_5, F_0_6, F_0_7, F_0_8, sh_1, F_1_0, F_1_1, F_1_2, F_1_3, F_1_4, F_1_5, sh_3, F_3_0, F_3_1, F_3_2, F_3_3, F_3_4, F_3_5, sh_5, F_5_0, F_5_1, F_5_2, F_5_3, F_5_4, F_5_5, F_5_6, F_5_7, F_5_8, sh_12, F_12_0, F_12_1, F_12_2, F_12_3, F_12_4, F_12_5, sh_14, F_14_0, F_14_1, F_14_2, F_14_3, F_14_4, F_14_5, F_14_6, F_14_7, F_14_8, sh_21, F_21_0, F_21_1, F_21_2, F_21_3, F_21_4, F_21_5, F_21_6, F_21_7, F_21_8, sh_28, F_28_0, F_28_1, F_28_2, F_28_3, F_28_4, F_28_5, F_28_6, F_28_7, F_28_8, sh_35, F_35_0, sh_39, F_39_0, F_39_1, F_39_2, F_39_3, F_39_4, F_39_5, F_39_6, F_39_7, F_39_8, F_39_9, F_39_10, F_39_11, F_39_12, F_39_13, A_2, A_4, A_6, A_7, A_8, A_9, A_10, A_11, A_13, A_15, A_16, A_17, A_18, A_19, A_20, A_22, A_23, A_24, A_25, A_26, A_27, A_29, A_30, A_31, A_32, A_33, A_34, A_36, A_37, A_38, A_40, A_41, A_42, A_43, A_44, A_45, A_46, A_47]
    exact h3 z z2
  · dsimp only [k_X4_cut_0, k_X4_cut_1, k_X4_cut_4, k_X4_cut_7, k_X4_cut_8, k_X4_cut_9, k_X4_cut_10, k_X4_cut_13, k_X4_cut_16, k_X4_cut_19, k_X4_cut_21, k_X4_cut_24, k_X4_cut_26, k_X4_cut_27, k_X4_cut_28, k_X4_cut_31, k_X4_cut_34, k_X4_cut_37, k_X4_cut_38, k_X4_cut_39, k_X4_cut_42, k_X4_cut_45, k_X4_cut_46, k_X4_cut_49, k_X4_cut_50, k_X4_cut_53, k_X4_cut_56, k_X4_cut_57, k_X4_cut_60, k_X4_cut_61, k_X4_cut_62, wp1, wp_s, cutIn, kont, Nat.reduceSub, Nat.reduceAdd, nth, o_const, o_lconst, o_ref, o_iload, o_lload, o_aload, o_istore, o_lstore, o_astore, o_iinc, o_bin, o_div, o_un, o_lbin, o_lsh, o_lcmp, o_i2l, o_l2i, o_if, o_icmp, o_goto, o_dup, o_dup2, o_pop, fav, o_getf, o_putI, o_putZ, o_putL, o_ald, o_ast, o_alen, popn, rst, o_callV, o_callT, o_callS, swx, o_sw, o_ret, o_iret, o_zret, o_cret, o_lret, o_aret, lg, lput, lput2, ls1, isL, entL, wsum, rdI1, rdI2, rdA1, rdA21, rdA22, rdL1, rdL22, rdL21, upN_at, rep, sh_0, F_0_0, F_0_1, F_0_2, F_0_3, F_0_4, F_0_5, F_0_6, F_0_7, F_0_8, sh_1, F_1_0, F_1_1, F_1_2, F_1_3, F_1_4, F_1_5, sh_3, F_3_0, F_3_1, F_3_2, F_3_3, F_3_4, F_3_5, sh_5, F_5_0, F_5_1, F_5_2, F_5_3, F_5_4, F_5_5, F_5_6, F_5_7, F_5_8, sh_12, F_12_0, F_12_1, F_12_2, F_12_3, F_12_4, F_12_5, sh_14, F_14_0, F_14_1, F_14_2, F_14_3, F_14_4, F_14_5, F_14_6, F_14_7, F_14_8, sh_21, F_21_0, F_21_1, F_21_2, F_21_3, F_21_4, F_21_5, F_21_6, F_21_7, F_21_8, sh_28, F_28_0, F_28_1, F_28_2, F_28_3, F_28_4, F_28_5, F_28_6, F_28_7, F_28_8, sh_35, F_35_0, sh_39, F_39_0, F_39_1, F_39_2, F_39_3, F_39_4, F_39_5, F_39_6, F_39_7, F_39_8, F_39_9, F_39_10, F_39_11, F_39_12, F_39_13, A_2, A_4, A_6, A_7, A_8, A_9, A_10, A_11, A_13, A_15, A_16, A_17, A_18, A_19, A_20, A_22, A_23, A_24, A_25, A_26, A_27, A_29, A_30, A_31, A_32, A_33, A_34, A_36, A_37, A_38, A_40, A_41, A_42, A_43, A_44, A_45, A_46, A_47]
    exact ⟨fun _ => h1 z, fun q => absurd rfl q⟩
set_option maxRecDepth 100000 in
theorem v_X4_give : ∀ as M post, S_X4_give as M post → wsum as ≤ 4 ∧ RUN (T_X4_give post) 0 (entL 4 as) [] M := by
  rintro as M post ⟨x, y, n, p, u, rfl, hn, hn8, hp, hp4, hu, hu10, h1, h2, h3⟩
  refine ⟨by show 3 ≤ 4; omega, run_of [33] (fun μ pc lv st M' => st = [] ∧ pc = 33 ∧ M' = M ∧ (0 ≤ x ∧ x < nI n) ∧ (y = -4 ∨ (0 ≤ y ∧ y < nI p)) ∧ 5 = μ ∧ lv = [some (VR 0), some (VI x), some (VI y), none]) 60 10 ?_ ?_⟩
  · rintro μ pc lv st M' ⟨rfl, rfl, rfl, hx, hy, rfl, rfl⟩
    obtain ⟨k, rfl, hk⟩ := rg (by omega) hx
    dsimp only [k_X4_give_0, k_X4_give_1, k_X4_give_4, k_X4_give_7, k_X4_give_8, k_X4_give_11, k_X4_give_14, k_X4_give_15, k_X4_give_17, k_X4_give_20, k_X4_give_21, k_X4_give_24, k_X4_give_25, k_X4_give_28, k_X4_give_31, k_X4_give_32, k_X4_give_33, k_X4_give_34, k_X4_give_37, k_X4_give_40, k_X4_give_43, k_X4_give_44, k_X4_give_45, k_X4_give_46, k_X4_give_47, k_X4_give_49, k_X4_give_52, k_X4_give_53, k_X4_give_54, k_X4_give_57, k_X4_give_59, k_X4_give_60, k_X4_give_61, k_X4_give_64, k_X4_give_67, k_X4_give_68, k_X4_give_71, k_X4_give_72, k_X4_give_75, k_X4_give_78, k_X4_give_81, k_X4_give_82, k_X4_give_83, k_X4_give_84, k_X4_give_85, wp1, wp_s, cutIn, kont, Nat.reduceSub, Nat.reduceAdd, nth, o_const, o_lconst, o_ref, o_iload, o_lload, o_aload, o_istore, o_lstore, o_astore, o_iinc, o_bin, o_div, o_un, o_lbin, o_lsh, o_lcmp, o_i2l, o_l2i, o_if, o_icmp, o_goto, o_dup, o_dup2, o_pop, fav, o_getf, o_putI, o_putZ, o_putL, o_ald, o_ast, o_alen, popn, rst, o_callV, o_callT, o_callS, swx, o_sw, o_ret, o_iret, o_zret, o_cret, o_lret, o_aret, lg, lput, lput2, ls1, isL, entL, wsum, rdI1, rdI2, rdA1, rdA21, rdA22, rdL1, rdL22, rdL21, upN_at, rep, sh_0, F_0_0, F_0_1, F_0_2, F_0_3, F_0_4, F_0_5, F_0_6, F_0_7, F_0_8, sh_1, F_1_0, F_1_1, F_1_2, F_1_3, F_1_4, F_1_5, sh_3, F_3_0, F_3_1, F_3_2, F_3_3, F_3_4, F_3_5, sh_5, F_5_0, F_5_1, F_5_2, F_5_3, F_5_4, F_5_5, F_5_6, F_5_7, F_5_8, sh_12, F_12_0, F_12_1, F_12_2, F_12_3, F_12_4, F_12_5, sh_14, F_14_0, F_14_1, F_14_2, F_14_3, F_14_4, F_14_5, F_14_6, F_14_7, F_14_8, sh_21, F_21_0, F_21_1, F_21_2, F_21_3, F_21_4, F_21_5, F_21_6, F_21_7, F_21_8, sh_28, F_28_0, F_28_1, F_28_2, F_28_3, F_28_4, F_28_5, F_28_6, F_28_7, F_28_8, sh_35, F_35_0, sh_39, F_39_0, F_39_1, F_39_2, F_39_3, F_39_4, F_39_5, F_39_6, F_39_7, F_39_8, F_39_9, F_39_10, F_39_11, F_39_12, F_39_13, A_2, A_4, A_6, A_7, A_8, A_9, A_10, A_11, A_13, A_15, A_16, A_17, A_18, A_19, A_20, A_22, A_23, A_24, A_25, A_26, A_27, A_29, A_30, A_31, A_32, A_33, A_34, A_36, A_37, A_38, A_40, A_41, A_42, A_43, A_44, A_45, A_46, A_47]
    refine ⟨k, by omega, rfl, fun z => h2 k rfl hk hy (Or.inl z), fun z => ⟨fun z2 => h2 k rfl hk hy (Or.inr z2), fun z2 => rem_i (by omega) hu hu10 ?_⟩⟩
    dsimp only [k_X4_give_0, k_X4_give_1, k_X4_give_4, k_X4_give_7, k_X4_give_8, k_X4_give_11, k_X4_give_14, k_X4_give_15, k_X4_give_17, k_X4_give_20, k_X4_give_21, k_X4_give_24, k_X4_give_25, k_X4_give_28, k_X4_give_31, k_X4_give_32, k_X4_give_33, k_X4_give_34, k_X4_give_37, k_X4_give_40, k_X4_give_43, k_X4_give_44, k_X4_give_45, k_X4_give_46, k_X4_give_47, k_X4_give_49, k_X4_give_52, k_X4_give_53, k_X4_give_54, k_X4_give_57, k_X4_give_59, k_X4_give_60, k_X4_give_61, k_X4_give_64, k_X4_give_67, k_X4_give_68, k_X4_give_71, k_X4_give_72, k_X4_give_75, k_X4_give_78, k_X4_give_81, k_X4_give_82, k_X4_give_83, k_X4_give_84, k_X4_give_85, wp1, wp_s, cutIn, kont, Nat.reduceSub, Nat.reduceAdd, nth, o_const, o_lconst, o_ref, o_iload, o_lload, o_aload, o_istore, o_lstore, o_astore, o_iinc, o_bin, o_div, o_un, o_lbin, o_lsh, o_lcmp, o_i2l, o_l2i, o_if, o_icmp, o_goto, o_dup, o_dup2, o_pop, fav, o_getf, o_putI, o_putZ, o_putL, o_ald, o_ast, o_alen, popn, rst, o_callV, o_callT, o_callS, swx, o_sw, o_ret, o_iret, o_zret, o_cret, o_lret, o_aret, lg, lput, lput2, ls1, isL, entL, wsum, rdI1, rdI2, rdA1, rdA21, rdA22, rdL1, rdL22, rdL21, upN_at, rep, sh_0, F_0_0, F_0_1, F_0_2, F_0_3, F_0_4, F_0_5, F_0_6, F_0_7, F_0_8, sh_1, F_1_0, F_1_1, F_1_2, F_1_3, F_1_4, F_1_5, sh_3, F_3_0, F_3_1, F_3_2, F_3_3, F_3_4, F_3_5, sh_5, F_5_0, F_5_1, F_5_2, F_5_3, F_5_4, F_5_5, F_5_6, F_5_7, F_5_8, sh_12, F_12_0, F_12_1, F_12_2, F_12_3, F_12_4, F_12_5, sh_14, F_14_0, F_14_1, F_14_2, F_14_3, F_14_4, F_14_5, F_14_6, F_14_7, F_14_8, sh_21, F_21_0, F_21_1, F_21_2, F_21_3, F_21_4, F_21_5, F_21_6, F_21_7, F_21_8, sh_28, F_28_0, F_28_1, F_28_2, F_28_3, F_28_4, F_28_5, F_28_6, F_28_7, F_28_8, sh_35, F_35_0, sh_39, F_39_0, F_39_1, F_39_2, F_39_3, F_39_4, F_39_5, F_39_6, F_39_7, F_39_8, F_39_9, F_39_10, F_39_11, F_39_12, F_39_13, A_2, A_4, A_6, A_7, A_8, A_9, A_10, A_11, A_13, A_15, A_16, A_17, A_18, A_19, A_20, A_22, A_23, A_24, A_25, A_26, A_27, A_29, A_30, A_31, A_32, A_33, A_34, A_36, A_37, A_38, A_40, A_41, A_42, A_43, A_44, A_45, A_46, A_47]
    refine ⟨k, by omega, rfl, ?_⟩
    rw [rem_3]
    exact h3 k rfl hk hy (fun q => q.elim z z2)
  · dsimp only [k_X4_give_0, k_X4_give_1, k_X4_give_4, k_X4_give_7, k_X4_give_8, k_X4_give_11, k_X4_give_14, k_X4_give_15, k_X4_give_17, k_X4_give_20, k_X4_give_21, k_X4_give_24, k_X4_give_25, k_X4_give_28, k_X4_give_31, k_X4_give_32, k_X4_give_33, k_X4_give_34, k_X4_give_37, k_X4_give_40, k_X4_give_43, k_X4_give_44, k_X4_give_45, k_X4_give_46, k_X4_give_47, k_X4_give_49, k_X4_give_52, k_X4_give_53, k_X4_give_54, k_X4_give_57, k_X4_give_59, k_X4_give_60, k_X4_give_61, k_X4_give_64, k_X4_give_67, k_X4_give_68, k_X4_give_71, k_X4_give_72, k_X4_give_75, k_X4_give_78, k_X4_give_81, k_X4_give_82, k_X4_give_83, k_X4_give_84, k_X4_give_85, wp1, wp_s, cutIn, kont, Nat.reduceSub, Nat.reduceAdd, nth, o_const, o_lconst, o_ref, o_iload, o_lload, o_aload, o_istore, o_lstore, o_astore, o_iinc, o_bin, o_div, o_un, o_lbin, o_lsh, o_lcmp, o_i2l, o_l2i, o_if, o_icmp, o_goto, o_dup, o_dup2, o_pop, fav, o_getf, o_putI, o_putZ, o_putL, o_ald, o_ast, o_alen, popn, rst, o_callV, o_callT, o_callS, swx, o_sw, o_ret, o_iret, o_zret, o_cret, o_lret, o_aret, lg, lput, lput2, ls1, isL, entL, wsum, rdI1, rdI2, rdA1, rdA21, rdA22, rdL1, rdL22, rdL21, upN_at, rep, sh_0, F_0_0, F_0_1, F_0_2, F_0_3, F_0_4, F_0_5, F_0_6, F_0_7, F_0_8, sh_1, F_1_0, F_1_1, F_1_2, F_1_3, F_1_4, F_1_5, sh_3, F_3_0, F_3_1, F_3_2, F_3_3, F_3_4, F_3_5, sh_5, F_5_0, F_5_1, F_5_2, F_5_3, F_5_4, F_5_5, F_5_6, F_5_7, F_5_8, sh_12, F_12_0, F_12_1, F_12_2, F_12_3, F_12_4, F_12_5, sh_14, F_14_0, F_14_1, F_14_2, F_14_3, F_14_4, F_14_5, F_14_6, F_14_7, F_14_8, sh_21, F_21_0, F_21_1, F_21_2, F_21_3, F_21_4, F_21_5, F_21_6, F_21_7, F_21_8, sh_28, F_28_0, F_28_1, F_28_2, F_28_3, F_28_4, F_28_5, F_28_6, F_28_7, F_28_8, sh_35, F_35_0, sh_39, F_39_0, F_39_1, F_39_2, F_39_3, F_39_4, F_39_5, F_39_6, F_39_7, F_39_8, F_39_9, F_39_10, F_39_11, F_39_12, F_39_13, A_2, A_4, A_6, A_7, A_8, A_9, A_10, A_11, A_13, A_15, A_16, A_17, A_18, A_19, A_20, A_22, A_23, A_24, A_25, A_26, A_27, A_29, A_30, A_31, A_32, A_33, A_34, A_36, A_37, A_38, A_40, A_41, A_42, A_43, A_44, A_45, A_46, A_47]
    refine ⟨5, x, rfl, Or.inl ⟨rfl, fun z => ?_, fun z => ?_⟩⟩
    · rw [hn] at z
      dsimp only [k_X4_give_0, k_X4_give_1, k_X4_give_4, k_X4_give_7, k_X4_give_8, k_X4_give_11, k_X4_give_14, k_X4_give_15, k_X4_give_17, k_X4_give_20, k_X4_give_21, k_X4_give_24, k_X4_give_25, k_X4_give_28, k_X4_give_31, k_X4_give_32, k_X4_give_33, k_X4_give_34, k_X4_give_37, k_X4_give_40, k_X4_give_43, k_X4_give_44, k_X4_give_45, k_X4_give_46, k_X4_give_47, k_X4_give_49, k_X4_give_52, k_X4_give_53, k_X4_give_54, k_X4_give_57, k_X4_give_59, k_X4_give_60, k_X4_give_61, k_X4_give_64, k_X4_give_67, k_X4_give_68, k_X4_give_71, k_X4_give_72, k_X4_give_75, k_X4_give_78, k_X4_give_81, k_X4_give_82, k_X4_give_83, k_X4_give_84, k_X4_give_85, wp1, wp_s, cutIn, kont, Nat.reduceSub, Nat.reduceAdd, nth, o_const, o_lconst, o_ref, o_iload, o_lload, o_aload, o_istore, o_lstore, o_astore, o_iinc, o_bin, o_div, o_un, o_lbin, o_lsh, o_lcmp, o_i2l, o_l2i, o_if, o_icmp, o_goto, o_dup, o_dup2, o_pop, fav, o_getf, o_putI, o_putZ, o_putL, o_ald, o_ast, o_alen, popn, rst, o_callV, o_callT, o_callS, swx, o_sw, o_ret, o_iret, o_zret, o_cret, o_lret, o_aret, lg, lput, lput2, ls1, isL, entL, wsum, rdI1, rdI2, rdA1, rdA21, rdA22, rdL1, rdL22, rdL21, upN_at, rep, sh_0, F_0_0, F_0_1, F_0_2, F_0_3, F_0_4, F_0_5, F_0_6, F_0_7, F_0_8, sh_1, F_1_0, F_1_1, F_1_2, F_1_3, F_1_4, F_1_5, sh_3, F_3_0, F_3_1, F_3_2, F_3_3, F_3_4, F_3_5, sh_5, F_5_0, F_5_1, F_5_2, F_5_3, F_5_4, F_5_5, F_5_6, F_5_7, F_5_8, sh_12, F_12_0, F_12_1, F_12_2, F_12_3, F_12_4, F_12_5, sh_14, F_14_0, F_14_1, F_14_2, F_14_3, F_14_4, F_14_5, F_14_6, F_14_7, F_14_8, sh_21, F_21_0, F_21_1, F_21_2, F_21_3, F_21_4, F_21_5, F_21_6, F_21_7, F_21_8, sh_28, F_28_0, F_28_1, F_28_2, F_28_3, F_28_4, F_28_5, F_28_6, F_28_7, F_28_8, sh_35, F_35_0, sh_39, F_39_0, F_39_1, F_39_2, F_39_3, F_39_4, F_39_5, F_39_6, F_39_7, F_39_8, F_39_9, F_39_10, F_39_11, F_39_12, F_39_13, A_2, A_4, A_6, A_7, A_8, A_9, A_10, A_11, A_13, A_15, A_16, A_17, A_18, A_19, A_20, A_22, A_23, A_24, A_25, A_26, A_27, A_29, A_30, A_31, A_32, A_33, A_34, A_36, A_37, A_38, A_40, A_41, A_42, A_43, A_44, A_45, A_46, A_47]
      refine ⟨fun q => absurd q (by decide), fun _ => ⟨fun z2 => cut _ _ ⟨rfl, rfl, rfl, z, Or.inl z2, rfl, rfl⟩ (by omega) ⟨rfl, rfl, rfl, trivial⟩, fun z2 => ⟨3, y, rfl, Or.inl ⟨rfl, fun z3 => ?_, fun z3 => ?_⟩⟩⟩⟩
      · rw [hp] at z3
        dsimp only [k_X4_give_0, k_X4_give_1, k_X4_give_4, k_X4_give_7, k_X4_give_8, k_X4_give_11, k_X4_give_14, k_X4_give_15, k_X4_give_17, k_X4_give_20, k_X4_give_21, k_X4_give_24, k_X4_give_25, k_X4_give_28, k_X4_give_31, k_X4_give_32, k_X4_give_33, k_X4_give_34, k_X4_give_37, k_X4_give_40, k_X4_give_43, k_X4_give_44, k_X4_give_45, k_X4_give_46, k_X4_give_47, k_X4_give_49, k_X4_give_52, k_X4_give_53, k_X4_give_54, k_X4_give_57, k_X4_give_59, k_X4_give_60, k_X4_give_61, k_X4_give_64, k_X4_give_67, k_X4_give_68, k_X4_give_71, k_X4_give_72, k_X4_give_75, k_X4_give_78, k_X4_give_81, k_X4_give_82, k_X4_give_83, k_X4_give_84, k_X4_give_85, wp1, wp_s, cutIn, kont, Nat.reduceSub, Nat.reduceAdd, nth, o_const, o_lconst, o_ref, o_iload, o_lload, o_aload, o_istore, o_lstore, o_astore, o_iinc, o_bin, o_div, o_un, o_lbin, o_lsh, o_lcmp, o_i2l, o_l2i, o_if, o_icmp, o_goto, o_dup, o_dup2, o_pop, fav, o_getf, o_putI, o_putZ, o_putL, o_ald, o_ast, o_alen, popn, rst, o_callV, o_callT, o_callS, swx, o_sw, o_ret, o_iret, o_zret, o_cret, o_lret, o_aret, lg, lput, lput2, ls1, isL, entL, wsum, rdI1, rdI2, rdA1, rdA21, rdA22, rdL1, rdL22, rdL21, upN_at, rep, sh_0, F_0_0, F_0_1, F_0_2, F_0_3, F_0_4, F_0_5, F_0_6, F_0_7, F_0_8, sh_1, F_1_0, F_1_1, F_1_2, F_1_3, F_1_4, F_1_5, sh_3, F_3_0, F_3_1, F_3_2, F_3_3, F_3_4, F_3_5, sh_5, F_5_0, F_5_1, F_5_2, F_5_3, F_5_4, F_5_5, F_5_6, F_5_7, F_5_8, sh_12, F_12_0, F_12_1, F_12_2, F_12_3, F_12_4, F_12_5, sh_14, F_14_0, F_14_1, F_14_2, F_14_3, F_14_4, F_14_5, F_14_6, F_14_7, F_14_8, sh_21, F_21_0, F_21_1, F_21_2, F_21_3, F_21_4, F_21_5, F_21_6, F_21_7, F_21_8, sh_28, F_28_0, F_28_1, F_28_2, F_28_3, F_28_4, F_28_5, F_28_6, F_28_7, F_28_8, sh_35, F_35_0, sh_39, F_39_0, F_39_1, F_39_2, F_39_3, F_39_4, F_39_5, F_39_6, F_39_7, F_39_8, F_39_9, F_39_10, F_39_11, F_39_12, F_39_13, A_2, A_4, A_6, A_7, A_8, A_9, A_10, A_11, A_13, A_15, A_16, A_17, A_18, A_19, A_20, A_22, A_23, A_24, A_25, A_26, A_27, A_29, A_30, A_31, A_32, A_33, A_34, A_36, A_37, A_38, A_40, A_41, A_42, A_43, A_44, A_45, A_46, A_47]
        exact ⟨fun q => absurd q (by decide), fun _ => cut _ _ ⟨rfl, rfl, rfl, z, Or.inr z3, rfl, rfl⟩ (by omega) ⟨rfl, rfl, rfl, trivial⟩⟩
      · rw [hp] at z3
        dsimp only [k_X4_give_0, k_X4_give_1, k_X4_give_4, k_X4_give_7, k_X4_give_8, k_X4_give_11, k_X4_give_14, k_X4_give_15, k_X4_give_17, k_X4_give_20, k_X4_give_21, k_X4_give_24, k_X4_give_25, k_X4_give_28, k_X4_give_31, k_X4_give_32, k_X4_give_33, k_X4_give_34, k_X4_give_37, k_X4_give_40, k_X4_give_43, k_X4_give_44, k_X4_give_45, k_X4_give_46, k_X4_give_47, k_X4_give_49, k_X4_give_52, k_X4_give_53, k_X4_give_54, k_X4_give_57, k_X4_give_59, k_X4_give_60, k_X4_give_61, k_X4_give_64, k_X4_give_67, k_X4_give_68, k_X4_give_71, k_X4_give_72, k_X4_give_75, k_X4_give_78, k_X4_give_81, k_X4_give_82, k_X4_give_83, k_X4_give_84, k_X4_give_85, wp1, wp_s, cutIn, kont, Nat.reduceSub, Nat.reduceAdd, nth, o_const, o_lconst, o_ref, o_iload, o_lload, o_aload, o_istore, o_lstore, o_astore, o_iinc, o_bin, o_div, o_un, o_lbin, o_lsh, o_lcmp, o_i2l, o_l2i, o_if, o_icmp, o_goto, o_dup, o_dup2, o_pop, fav, o_getf, o_putI, o_putZ, o_putL, o_ald, o_ast, o_alen, popn, rst, o_callV, o_callT, o_callS, swx, o_sw, o_ret, o_iret, o_zret, o_cret, o_lret, o_aret, lg, lput, lput2, ls1, isL, entL, wsum, rdI1, rdI2, rdA1, rdA21, rdA22, rdL1, rdL22, rdL21, upN_at, rep, sh_0, F_0_0, F_0_1, F_0_2, F_0_3, F_0_4, F_0_5, F_0_6, F_0_7, F_0_8, sh_1, F_1_0, F_1_1, F_1_2, F_1_3, F_1_4, F_1_5, sh_3, F_3_0, F_3_1, F_3_2, F_3_3, F_3_4, F_3_5, sh_5, F_5_0, F_5_1, F_5_2, F_5_3, F_5_4, F_5_5, F_5_6, F_5_7, F_5_8, sh_12, F_12_0, F_12_1, F_12_2, F_12_3, F_12_4, F_12_5, sh_14, F_14_0, F_14_1, F_14_2, F_14_3, F_14_4, F_14_5, F_14_6, F_14_7, F_14_8, sh_21, F_21_0, F_21_1, F_21_2, F_21_3, F_21_4, F_21_5, F_21_6, F_21_7, F_21_8, sh_28, F_28_0, F_28_1, F_28_2, F_28_3, F_28_4, F_28_5, F_28_6, F_28_7, F_28_8, sh_35, F_35_0, sh_39, F_39_0, F_39_1, F_39_2, F_39_3, F_39_4, F_39_5, F_39_6, F_39_7, F_39_8, F_39_9, F_39_10, F_39_11, F_39_12, F_39_13, A_2, A_4, A_6, A_7, A_8, A_9, A_10, A_11, A_13, A_15, A_16, A_17, A_18, A_19, A_20, A_22, A_23, A_24, A_25, A_26, A_27, A_29, A_30, A_31, A_32, A_33, A_34, A_36, A_37, A_38, A_40, A_41, A_42, A_43, A_44, A_45, A_46, A_47]
        exact ⟨fun _ => h1 fun q => q.2.elim z2 z3, fun q => absurd rfl q⟩
    · rw [hn] at z
      dsimp only [k_X4_give_0, k_X4_give_1, k_X4_give_4, k_X4_give_7, k_X4_give_8, k_X4_give_11, k_X4_give_14, k_X4_give_15, k_X4_give_17, k_X4_give_20, k_X4_give_21, k_X4_give_24, k_X4_give_25, k_X4_give_28, k_X4_give_31, k_X4_give_32, k_X4_give_33, k_X4_give_34, k_X4_give_37, k_X4_give_40, k_X4_give_43, k_X4_give_44, k_X4_give_45, k_X4_give_46, k_X4_give_47, k_X4_give_49, k_X4_give_52, k_X4_give_53, k_X4_give_54, k_X4_give_57, k_X4_give_59, k_X4_give_60, k_X4_give_61, k_X4_give_64, k_X4_give_67, k_X4_give_68, k_X4_give_71, k_X4_give_72, k_X4_give_75, k_X4_give_78, k_X4_give_81, k_X4_give_82, k_X4_give_83, k_X4_give_84, k_X4_give_85, wp1, wp_s, cutIn, kont, Nat.reduceSub, Nat.reduceAdd, nth, o_const, o_lconst, o_ref, o_iload, o_lload, o_aload, o_istore, o_lstore, o_astore, o_iinc, o_bin, o_div, o_un, o_lbin, o_lsh, o_lcmp, o_i2l, o_l2i, o_if, o_icmp, o_goto, o_dup, o_dup2, o_pop, fav, o_getf, o_putI, o_putZ, o_putL, o_ald, o_ast, o_alen, popn, rst, o_callV, o_callT, o_callS, swx, o_sw, o_ret, o_iret, o_zret, o_cret, o_lret, o_aret, lg, lput, lput2, ls1, isL, entL, wsum, rdI1, rdI2, rdA1, rdA21, rdA22, rdL1, rdL22, rdL21, upN_at, rep, sh_0, F_0_0, F_0_1, F_0_2, F_0_3, F_0_4, F_0_5, F_0_6, F_0_7, F_0_8, sh_1, F_1_0, F_1_1, F_1_2, F_1_3, F_1_4, F_1_5, sh_3, F_3_0, F_3_1, F_3_2, F_3_3, F_3_4, F_3_5, sh_5, F_5_0, F_5_1, F_5_2, F_5_3, F_5_4, F_5_5, F_5_6, F_5_7, F_5_8, sh_12, F_12_0, F_12_1, F_12_2, F_12_3, F_12_4, F_12_5, sh_14, F_14_0, F_14_1, F_14_2, F_14_3, F_14_4, F_14_5, F_14_6, F_14_7, F_14_8, sh_21, F_21_0, F_21_1, F_21_2, F_21_3, F_21_4, F_21_5, F_21_6, F_21_7, F_21_8, sh_28, F_28_0, F_28_1, F_28_2, F_28_3, F_28_4, F_28_5, F_28_6, F_28_7, F_28_8, sh_35, F_35_0, sh_39, F_39_0, F_39_1, F_39_2, F_39_3, F_39_4, F_39_5, F_39_6, F_39_7, F_39_8, F_39_9, F_39_10, F_39_11, F_39_12, F_39_13, A_2, A_4, A_6, A_7, A_8, A_9, A_10, A_11, A_13, A_15, A_16, A_17, A_18, A_19, A_20, A_22, A_23, A_24, A_25, A_26, A_27, A_29, A_30, A_31, A_32, A_33, A_34, A_36, A_37, A_38, A_40, A_41, A_42, A_43, A_44, A_45, A_46, A_47]
      exact ⟨fun _ => h1 fun q => z q.1, fun q => absurd rfl q⟩
set_option maxRecDepth 100000 in
theorem v_X4_lose : ∀ as M post, S_X4_lose as M post → wsum as ≤ 3 ∧ RUN (T_X4_lose post) 0 (entL 3 as) [] M := by
  rintro as M post ⟨x, n, u, rfl, hn, hn8, hu, hu10, h1, h2, h3⟩
  refine ⟨by show 2 ≤ 3; omega, run_wp 60 ?_⟩
  dsimp only [k_X4_lose_0, k_X4_lose_1, k_X4_lose_4, k_X4_lose_7, k_X4_lose_8, k_X4_lose_11, k_X4_lose_14, k_X4_lose_15, k_X4_lose_16, k_X4_lose_17, k_X4_lose_20, k_X4_lose_23, k_X4_lose_26, k_X4_lose_27, k_X4_lose_28, k_X4_lose_29, k_X4_lose_30, k_X4_lose_32, k_X4_lose_35, k_X4_lose_37, k_X4_lose_38, k_X4_lose_39, k_X4_lose_42, k_X4_lose_45, k_X4_lose_46, k_X4_lose_49, k_X4_lose_50, k_X4_lose_53, k_X4_lose_56, k_X4_lose_59, k_X4_lose_60, k_X4_lose_62, k_X4_lose_63, k_X4_lose_64, wp1, wp_s, cutIn, kont, Nat.reduceSub, Nat.reduceAdd, nth, o_const, o_lconst, o_ref, o_iload, o_lload, o_aload, o_istore, o_lstore, o_astore, o_iinc, o_bin, o_div, o_un, o_lbin, o_lsh, o_lcmp, o_i2l, o_l2i, o_if, o_icmp, o_goto, o_dup, o_dup2, o_pop, fav, o_getf, o_putI, o_putZ, o_putL, o_ald, o_ast, o_alen, popn, rst, o_callV, o_callT, o_callS, swx, o_sw, o_ret, o_iret, o_zret, o_cret, o_lret, o_aret, lg, lput, lput2, ls1, isL, entL, wsum, rdI1, rdI2, rdA1, rdA21, rdA22, rdL1, rdL22, rdL21, upN_at, rep, sh_0, F_0_0, F_0_1, F_0_2, F_0_3, F_0_4, F_0_5, F_0_6, F_0_7, F_0_8, sh_1, F_1_0, F_1_1, F_1_2, F_1_3, F_1_4, F_1_5, sh_3, F_3_0, F_3_1, F_3_2, F_3_3, F_3_4, F_3_5, sh_5, F_5_0, F_5_1, F_5_2, F_5_3, F_5_4, F_5_5, F_5_6, F_5_7, F_5_8, sh_12, F_12_0, F_12_1, F_12_2, F_12_3, F_12_4, F_12_5, sh_14, F_14_0, F_14_1, F_14_2, F_14_3, F_14_4, F_14_5, F_14_6, F_14_7, F_14_8, sh_21, F_21_0, F_21_1, F_21_2, F_21_3, F_21_4, F_21_5, F_21_6, F_21_7, F_21_8, sh_28, F_28_0, F_28_1, F_28_2, F_28_3, F_28_4, F_28_5, F_28_6, F_28_7, F_28_8, sh_35, F_35_0, sh_39, F_39_0, F_39_1, F_39_2, F_39_3, F_39_4, F_39_5, F_39_6, F_39_7, F_39_8, F_39_9, F_39_10, F_39_11, F_39_12, F_39_13, A_2, A_4, A_6, A_7, A_8, A_9, A_10, A_11, A_13, A_15, A_16, A_17, A_18, A_19, A_20, A_22, A_23, A_24, A_25, A_26, A_27, A_29, A_30, A_31, A_32, A_33, A_34, A_36, A_37, A_38, A_40, A_41, A_42, A_43, A_44, A_45, A_46, A_47]
  refine ⟨5, x, rfl, Or.inl ⟨rfl, fun z => ?_, fun z => ?_⟩⟩
  · rw [hn] at z
    obtain ⟨k, rfl, hk⟩ := rg (by omega) z
    dsimp only [k_X4_lose_0, k_X4_lose_1, k_X4_lose_4, k_X4_lose_7, k_X4_lose_8, k_X4_lose_11, k_X4_lose_14, k_X4_lose_15, k_X4_lose_16, k_X4_lose_17, k_X4_lose_20, k_X4_lose_23, k_X4_lose_26, k_X4_lose_27, k_X4_lose_28, k_X4_lose_29, k_X4_lose_30, k_X4_lose_32, k_X4_lose_35, k_X4_lose_37, k_X4_lose_38, k_X4_lose_39, k_X4_lose_42, k_X4_lose_45, k_X4_lose_46, k_X4_lose_49, k_X4_lose_50, k_X4_lose_53, k_X4_lose_56, k_X4_lose_59, k_X4_lose_60, k_X4_lose_62, k_X4_lose_63, k_X4_lose_64, wp1, wp_s, cutIn, kont, Nat.reduceSub, Nat.reduceAdd, nth, o_const, o_lconst, o_ref, o_iload, o_lload, o_aload, o_istore, o_lstore, o_astore, o_iinc, o_bin, o_div, o_un, o_lbin, o_lsh, o_lcmp, o_i2l, o_l2i, o_if, o_icmp, o_goto, o_dup, o_dup2, o_pop, fav, o_getf, o_putI, o_putZ, o_putL, o_ald, o_ast, o_alen, popn, rst, o_callV, o_callT, o_callS, swx, o_sw, o_ret, o_iret, o_zret, o_cret, o_lret, o_aret, lg, lput, lput2, ls1, isL, entL, wsum, rdI1, rdI2, rdA1, rdA21, rdA22, rdL1, rdL22, rdL21, upN_at, rep, sh_0, F_0_0, F_0_1, F_0_2, F_0_3, F_0_4, F_0_5, F_0_6, F_0_7, F_0_8, sh_1, F_1_0, F_1_1, F_1_2, F_1_3, F_1_4, F_1_5, sh_3, F_3_0, F_3_1, F_3_2, F_3_3, F_3_4, F_3_5, sh_5, F_5_0, F_5_1, F_5_2, F_5_3, F_5_4, F_5_5, F_5_6, F_5_7, F_5_8, sh_12, F_12_0, F_12_1, F_12_2, F_12_3, F_12_4, F_12_5, sh_14, F_14_0, F_14_1, F_14_2, F_14_3, F_14_4, F_14_5, F_14_6, F_14_7, F_14_8, sh_21, F_21_0, F_21_1, F_21_2, F_21_3, F_21_4, F_21_5, F_21_6, F_21_7, F_21_8, sh_28, F_28_0, F_28_1, F_28_2, F_28_3, F_28_4, F_28_5, F_28_6, F_28_7, F_28_8, sh_35, F_35_0, sh_39, F_39_0, F_39_1, F_39_2, F_39_3, F_39_4, F_39_5, F_39_6, F_39_7, F_39_8, F_39_9, F_39_10, F_39_11, F_39_12, F_39_13, A_2, A_4, A_6, A_7, A_8, A_9, A_10, A_11, A_13, A_15, A_16, A_17, A_18, A_19, A_20, A_22, A_23, A_24, A_25, A_26, A_27, A_29, A_30, A_31, A_32, A_33, A_34, A_36, A_37, A_38, A_40, A_41, A_42, A_43, A_44, A_45, A_46, A_47]
    refine ⟨fun q => absurd q (by decide), fun _ => ⟨k, by omega, rfl, fun z => h2 k rfl hk z, fun z => rem_i (by omega) hu hu10 ?_⟩⟩
    dsimp only [k_X4_lose_0, k_X4_lose_1, k_X4_lose_4, k_X4_lose_7, k_X4_lose_8, k_X4_lose_11, k_X4_lose_14, k_X4_lose_15, k_X4_lose_16, k_X4_lose_17, k_X4_lose_20, k_X4_lose_23, k_X4_lose_26, k_X4_lose_27, k_X4_lose_28, k_X4_lose_29, k_X4_lose_30, k_X4_lose_32, k_X4_lose_35, k_X4_lose_37, k_X4_lose_38, k_X4_lose_39, k_X4_lose_42, k_X4_lose_45, k_X4_lose_46, k_X4_lose_49, k_X4_lose_50, k_X4_lose_53, k_X4_lose_56, k_X4_lose_59, k_X4_lose_60, k_X4_lose_62, k_X4_lose_63, k_X4_lose_64, wp1, wp_s, cutIn, kont, Nat.reduceSub, Nat.reduceAdd, nth, o_const, o_lconst, o_ref, o_iload, o_lload, o_aload, o_istore, o_lstore, o_astore, o_iinc, o_bin, o_div, o_un, o_lbin, o_lsh, o_lcmp, o_i2l, o_l2i, o_if, o_icmp, o_goto, o_dup, o_dup2, o_pop, fav, o_getf, o_putI, o_putZ, o_putL, o_ald, o_ast, o_alen, popn, rst, o_callV, o_callT, o_callS, swx, o_sw, o_ret, o_iret, o_zret, o_cret, o_lret, o_aret, lg, lput, lput2, ls1, isL, entL, wsum, rdI1, rdI2, rdA1, rdA21, rdA22, rdL1, rdL22, rdL21, upN_at, rep, sh_0, F_0_0, F_0_1, F_0_2, F_0_3, F_0_4, F_0_5, F_0_6, F_0_7, F_0_8, sh_1, F_1_0, F_1_1, F_1_2, F_1_3, F_1_4, F_1_5, sh_3, F_3_0, F_3_1, F_3_2, F_3_3, F_3_4, F_3_5, sh_5, F_5_0, F_5_1, F_5_2, F_5_3, F_5_4, F_5_5, F_5_6, F_5_7, F_5_8, sh_12, F_12_0, F_12_1, F_12_2, F_12_3, F_12_4, F_12_5, sh_14, F_14_0, F_14_1, F_14_2, F_14_3, F_14_4, F_14_5, F_14_6, F_14_7, F_14_8, sh_21, F_21_0, F_21_1, F_21_2, F_21_3, F_21_4, F_21_5, F_21_6, F_21_7, F_21_8, sh_28, F_28_0, F_28_1, F_28_2, F_28_3, F_28_4, F_28_5, F_28_6, F_28_7, F_28_8, sh_35, F_35_0, sh_39, F_39_0, F_39_1, F_39_2, F_39_3, F_39_4, F_39_5, F_39_6, F_39_7, F_39_8, F_39_9, F_39_10, F_39_11, F_39_12, F_39_13, A_2, A_4, A_6, A_7, A_8, A_9, A_10, A_11, A_13, A_15, A_16, A_17, A_18, A_19, A_20, A_22, A_23, A_24, A_25, A_26, A_27, A_29, A_30, A_31, A_32, A_33, A_34, A_36, A_37, A_38, A_40, A_41, A_42, A_43, A_44, A_45, A_46, A_47]
    refine ⟨k, by omega, rfl, ?_⟩
    rw [rem_3]
    exact h3 k rfl hk z
  · rw [hn] at z
    dsimp only [k_X4_lose_0, k_X4_lose_1, k_X4_lose_4, k_X4_lose_7, k_X4_lose_8, k_X4_lose_11, k_X4_lose_14, k_X4_lose_15, k_X4_lose_16, k_X4_lose_17, k_X4_lose_20, k_X4_lose_23, k_X4_lose_26, k_X4_lose_27, k_X4_lose_28, k_X4_lose_29, k_X4_lose_30, k_X4_lose_32, k_X4_lose_35, k_X4_lose_37, k_X4_lose_38, k_X4_lose_39, k_X4_lose_42, k_X4_lose_45, k_X4_lose_46, k_X4_lose_49, k_X4_lose_50, k_X4_lose_53, k_X4_lose_56, k_X4_lose_59, k_X4_lose_60, k_X4_lose_62, k_X4_lose_63, k_X4_lose_64, wp1, wp_s, cutIn, kont, Nat.reduceSub, Nat.reduceAdd, nth, o_const, o_lconst, o_ref, o_iload, o_lload, o_aload, o_istore, o_lstore, o_astore, o_iinc, o_bin, o_div, o_un, o_lbin, o_lsh, o_lcmp, o_i2l, o_l2i, o_if, o_icmp, o_goto, o_dup, o_dup2, o_pop, fav, o_getf, o_putI, o_putZ, o_putL, o_ald, o_ast, o_alen, popn, rst, o_callV, o_callT, o_callS, swx, o_sw, o_ret, o_iret, o_zret, o_cret, o_lret, o_aret, lg, lput, lput2, ls1, isL, entL, wsum, rdI1, rdI2, rdA1, rdA21, rdA22, rdL1, rdL22, rdL21, upN_at, rep, sh_0, F_0_0, F_0_1, F_0_2, F_0_3, F_0_4, F_0_5, F_0_6, F_0_7, F_0_8, sh_1, F_1_0, F_1_1, F_1_2, F_1_3, F_1_4, F_1_5, sh_3, F_3_0, F_3_1, F_3_2, F_3_3, F_3_4, F_3_5, sh_5, F_5_0, F_5_1, F_5_2, F_5_3, F_5_4, F_5_5, F_5_6, F_5_7, F_5_8, sh_12, F_12_0, F_12_1, F_12_2, F_12_3, F_12_4, F_12_5, sh_14, F_14_0, F_14_1, F_14_2, F_14_3, F_14_4, F_14_5, F_14_6, F_14_7, F_14_8, sh_21, F_21_0, F_21_1, F_21_2, F_21_3, F_21_4, F_21_5, F_21_6, F_21_7, F_21_8, sh_28, F_28_0, F_28_1, F_28_2, F_28_3, F_28_4, F_28_5, F_28_6, F_28_7, F_28_8, sh_35, F_35_0, sh_39, F_39_0, F_39_1, F_39_2, F_39_3, F_39_4, F_39_5, F_39_6, F_39_7, F_39_8, F_39_9, F_39_10, F_39_11, F_39_12, F_39_13, A_2, A_4, A_6, A_7, A_8, A_9, A_10, A_11, A_13, A_15, A_16, A_17, A_18, A_19, A_20, A_22, A_23, A_24, A_25, A_26, A_27, A_29, A_30, A_31, A_32, A_33, A_34, A_36, A_37, A_38, A_40, A_41, A_42, A_43, A_44, A_45, A_46, A_47]
    exact ⟨fun _ => h1 z, fun q => absurd rfl q⟩
set_option maxRecDepth 100000 in
theorem v_X4_forge : ∀ as M post, S_X4_forge as M post → wsum as ≤ 3 ∧ RUN (T_X4_forge post) 0 (entL 3 as) [] M := by
  rintro as M post ⟨x, y, n, u, rfl, hn, hn8, hu, hu10, h1, h2, h3⟩
  refine ⟨by show 3 ≤ 3; omega, run_wp 90 ?_⟩
  dsimp only [k_X4_forge_0, k_X4_forge_1, k_X4_forge_4, k_X4_forge_7, k_X4_forge_8, k_X4_forge_11, k_X4_forge_14, k_X4_forge_15, k_X4_forge_18, k_X4_forge_19, k_X4_forge_21, k_X4_forge_24, k_X4_forge_25, k_X4_forge_26, k_X4_forge_27, k_X4_forge_30, k_X4_forge_33, k_X4_forge_36, k_X4_forge_37, k_X4_forge_38, k_X4_forge_40, k_X4_forge_43, k_X4_forge_45, k_X4_forge_46, k_X4_forge_47, k_X4_forge_50, k_X4_forge_53, k_X4_forge_54, k_X4_forge_57, k_X4_forge_58, k_X4_forge_61, k_X4_forge_64, k_X4_forge_67, k_X4_forge_68, k_X4_forge_69, k_X4_forge_70, k_X4_forge_71, k_X4_forge_72, k_X4_forge_73, k_X4_forge_74, k_X4_forge_75, k_X4_forge_76, k_X4_forge_79, k_X4_forge_82, k_X4_forge_85, k_X4_forge_86, k_X4_forge_87, wp1, wp_s, cutIn, kont, Nat.reduceSub, Nat.reduceAdd, nth, o_const, o_lconst, o_ref, o_iload, o_lload, o_aload, o_istore, o_lstore, o_astore, o_iinc, o_bin, o_div, o_un, o_lbin, o_lsh, o_lcmp, o_i2l, o_l2i, o_if, o_icmp, o_goto, o_dup, o_dup2, o_pop, fav, o_getf, o_putI, o_putZ, o_putL, o_ald, o_ast, o_alen, popn, rst, o_callV, o_callT, o_callS, swx, o_sw, o_ret, o_iret, o_zret, o_cret, o_lret, o_aret, lg, lput, lput2, ls1, isL, entL, wsum, rdI1, rdI2, rdA1, rdA21, rdA22, rdL1, rdL22, rdL21, upN_at, rep, sh_0, F_0_0, F_0_1, F_0_2, F_0_3, F_0_4, F_0_5, F_0_6, F_0_7, F_0_8, sh_1, F_1_0, F_1_1, F_1_2, F_1_3, F_1_4, F_1_5, sh_3, F_3_0, F_3_1, F_3_2, F_3_3, F_3_4, F_3_5, sh_5, F_5_0, F_5_1, F_5_2, F_5_3, F_5_4, F_5_5, F_5_6, F_5_7, F_5_8, sh_12, F_12_0, F_12_1, F_12_2, F_12_3, F_12_4, F_12_5, sh_14, F_14_0, F_14_1, F_14_2, F_14_3, F_14_4, F_14_5, F_14_6, F_14_7, F_14_8, sh_21, F_21_0, F_21_1, F_21_2, F_21_3, F_21_4, F_21_5, F_21_6, F_21_7, F_21_8, sh_28, F_28_0, F_28_1, F_28_2, F_28_3, F_28_4, F_28_5, F_28_6, F_28_7, F_28_8, sh_35, F_35_0, sh_39, F_39_0, F_39_1, F_39_2, F_39_3, F_39_4, F_39_5, F_39_6, F_39_7, F_39_8, F_39_9, F_39_10, F_39_11, F_39_12, F_39_13, A_2, A_4, A_6, A_7, A_8, A_9, A_10, A_11, A_13, A_15, A_16, A_17, A_18, A_19, A_20, A_22, A_23, A_24, A_25, A_26, A_27, A_29, A_30, A_31, A_32, A_33, A_34, A_36, A_37, A_38, A_40, A_41, A_42, A_43, A_44, A_45, A_46, A_47]
  refine ⟨5, x, rfl, Or.inl ⟨rfl, fun z => ?_, fun z => ?_⟩⟩
  · rw [hn] at z
    dsimp only [k_X4_forge_0, k_X4_forge_1, k_X4_forge_4, k_X4_forge_7, k_X4_forge_8, k_X4_forge_11, k_X4_forge_14, k_X4_forge_15, k_X4_forge_18, k_X4_forge_19, k_X4_forge_21, k_X4_forge_24, k_X4_forge_25, k_X4_forge_26, k_X4_forge_27, k_X4_forge_30, k_X4_forge_33, k_X4_forge_36, k_X4_forge_37, k_X4_forge_38, k_X4_forge_40, k_X4_forge_43, k_X4_forge_45, k_X4_forge_46, k_X4_forge_47, k_X4_forge_50, k_X4_forge_53, k_X4_forge_54, k_X4_forge_57, k_X4_forge_58, k_X4_forge_61, k_X4_forge_64, k_X4_forge_67, k_X4_forge_68, k_X4_forge_69, k_X4_forge_70, k_X4_forge_71, k_X4_forge_72, k_X4_forge_73, k_X4_forge_74, k_X4_forge_75, k_X4_forge_76, k_X4_forge_79, k_X4_forge_82, k_X4_forge_85, k_X4_forge_86, k_X4_forge_87, wp1, wp_s, cutIn, kont, Nat.reduceSub, Nat.reduceAdd, nth, o_const, o_lconst, o_ref, o_iload, o_lload, o_aload, o_istore, o_lstore, o_astore, o_iinc, o_bin, o_div, o_un, o_lbin, o_lsh, o_lcmp, o_i2l, o_l2i, o_if, o_icmp, o_goto, o_dup, o_dup2, o_pop, fav, o_getf, o_putI, o_putZ, o_putL, o_ald, o_ast, o_alen, popn, rst, o_callV, o_callT, o_callS, swx, o_sw, o_ret, o_iret, o_zret, o_cret, o_lret, o_aret, lg, lput, lput2, ls1, isL, entL, wsum, rdI1, rdI2, rdA1, rdA21, rdA22, rdL1, rdL22, rdL21, upN_at, rep, sh_0, F_0_0, F_0_1, F_0_2, F_0_3, F_0_4, F_0_5, F_0_6, F_0_7, F_0_8, sh_1, F_1_0, F_1_1, F_1_2, F_1_3, F_1_4, F_1_5, sh_3, F_3_0, F_3_1, F_3_2, F_3_3, F_3_4, F_3_5, sh_5, F_5_0, F_5_1, F_5_2, F_5_3, F_5_4, F_5_5, F_5_6, F_5_7, F_5_8, sh_12, F_12_0, F_12_1, F_12_2, F_12_3, F_12_4, F_12_5, sh_14, F_14_0, F_14_1, F_14_2, F_14_3, F_14_4, F_14_5, F_14_6, F_14_7, F_14_8, sh_21, F_21_0, F_21_1, F_21_2, F_21_3, F_21_4, F_21_5, F_21_6, F_21_7, F_21_8, sh_28, F_28_0, F_28_1, F_28_2, F_28_3, F_28_4, F_28_5, F_28_6, F_28_7, F_28_8, sh_35, F_35_0, sh_39, F_39_0, F_39_1, F_39_2, F_39_3, F_39_4, F_39_5, F_39_6, F_39_7, F_39_8, F_39_9, F_39_10, F_39_11, F_39_12, F_39_13, A_2, A_4, A_6, A_7, A_8, A_9, A_10, A_11, A_13, A_15, A_16, A_17, A_18, A_19, A_20, A_22, A_23, A_24, A_25, A_26, A_27, A_29, A_30, A_31, A_32, A_33, A_34, A_36, A_37, A_38, A_40, A_41, A_42, A_43, A_44, A_45, A_46, A_47]
    refine ⟨fun q => absurd q (by decide), fun _ => ⟨fun z2 => h1 fun q => absurd z2 (Int32.not_lt.mpr q.2.1), fun z2 => ⟨fun z3 => ?_, fun z3 => h1 fun q => z3 q.2.2⟩⟩⟩
    have hy : 0 ≤ y ∧ y < 9 := ⟨Int32.not_lt.mp z2, z3⟩
    obtain ⟨k, rfl, hk⟩ := rg (by omega) z
    obtain ⟨q, rfl, hq⟩ := rg (n := 9) (by omega) hy
    refine ⟨k, by omega, rfl, fun z4 => h2 k rfl hk hy z4, fun z4 => rem_i (by omega) hu hu10 ?_⟩
    dsimp only [k_X4_forge_0, k_X4_forge_1, k_X4_forge_4, k_X4_forge_7, k_X4_forge_8, k_X4_forge_11, k_X4_forge_14, k_X4_forge_15, k_X4_forge_18, k_X4_forge_19, k_X4_forge_21, k_X4_forge_24, k_X4_forge_25, k_X4_forge_26, k_X4_forge_27, k_X4_forge_30, k_X4_forge_33, k_X4_forge_36, k_X4_forge_37, k_X4_forge_38, k_X4_forge_40, k_X4_forge_43, k_X4_forge_45, k_X4_forge_46, k_X4_forge_47, k_X4_forge_50, k_X4_forge_53, k_X4_forge_54, k_X4_forge_57, k_X4_forge_58, k_X4_forge_61, k_X4_forge_64, k_X4_forge_67, k_X4_forge_68, k_X4_forge_69, k_X4_forge_70, k_X4_forge_71, k_X4_forge_72, k_X4_forge_73, k_X4_forge_74, k_X4_forge_75, k_X4_forge_76, k_X4_forge_79, k_X4_forge_82, k_X4_forge_85, k_X4_forge_86, k_X4_forge_87, wp1, wp_s, cutIn, kont, Nat.reduceSub, Nat.reduceAdd, nth, o_const, o_lconst, o_ref, o_iload, o_lload, o_aload, o_istore, o_lstore, o_astore, o_iinc, o_bin, o_div, o_un, o_lbin, o_lsh, o_lcmp, o_i2l, o_l2i, o_if, o_icmp, o_goto, o_dup, o_dup2, o_pop, fav, o_getf, o_putI, o_putZ, o_putL, o_ald, o_ast, o_alen, popn, rst, o_callV, o_callT, o_callS, swx, o_sw, o_ret, o_iret, o_zret, o_cret, o_lret, o_aret, lg, lput, lput2, ls1, isL, entL, wsum, rdI1, rdI2, rdA1, rdA21, rdA22, rdL1, rdL22, rdL21, upN_at, rep, sh_0, F_0_0, F_0_1, F_0_2, F_0_3, F_0_4, F_0_5, F_0_6, F_0_7, F_0_8, sh_1, F_1_0, F_1_1, F_1_2, F_1_3, F_1_4, F_1_5, sh_3, F_3_0, F_3_1, F_3_2, F_3_3, F_3_4, F_3_5, sh_5, F_5_0, F_5_1, F_5_2, F_5_3, F_5_4, F_5_5, F_5_6, F_5_7, F_5_8, sh_12, F_12_0, F_12_1, F_12_2, F_12_3, F_12_4, F_12_5, sh_14, F_14_0, F_14_1, F_14_2, F_14_3, F_14_4, F_14_5, F_14_6, F_14_7, F_14_8, sh_21, F_21_0, F_21_1, F_21_2, F_21_3, F_21_4, F_21_5, F_21_6, F_21_7, F_21_8, sh_28, F_28_0, F_28_1, F_28_2, F_28_3, F_28_4, F_28_5, F_28_6, F_28_7, F_28_8, sh_35, F_35_0, sh_39, F_39_0, F_39_1, F_39_2, F_39_3, F_39_4, F_39_5, F_39_6, F_39_7, F_39_8, F_39_9, F_39_10, F_39_11, F_39_12, F_39_13, A_2, A_4, A_6, A_7, A_8, A_9, A_10, A_11, A_13, A_15, A_16, A_17, A_18, A_19, A_20, A_22, A_23, A_24, A_25, A_26, A_27, A_29, A_30, A_31, A_32, A_33, A_34, A_36, A_37, A_38, A_40, A_41, A_42, A_43, A_44, A_45, A_46, A_47]
    refine ⟨k, by omega, rfl, k, by omega, rfl, k, by omega, rfl, ?_⟩
    rw [rem_2, one_shl (by omega), upd_s]
    exact h3 k q rfl hk rfl hq z4
  · rw [hn] at z
    dsimp only [k_X4_forge_0, k_X4_forge_1, k_X4_forge_4, k_X4_forge_7, k_X4_forge_8, k_X4_forge_11, k_X4_forge_14, k_X4_forge_15, k_X4_forge_18, k_X4_forge_19, k_X4_forge_21, k_X4_forge_24, k_X4_forge_25, k_X4_forge_26, k_X4_forge_27, k_X4_forge_30, k_X4_forge_33, k_X4_forge_36, k_X4_forge_37, k_X4_forge_38, k_X4_forge_40, k_X4_forge_43, k_X4_forge_45, k_X4_forge_46, k_X4_forge_47, k_X4_forge_50, k_X4_forge_53, k_X4_forge_54, k_X4_forge_57, k_X4_forge_58, k_X4_forge_61, k_X4_forge_64, k_X4_forge_67, k_X4_forge_68, k_X4_forge_69, k_X4_forge_70, k_X4_forge_71, k_X4_forge_72, k_X4_forge_73, k_X4_forge_74, k_X4_forge_75, k_X4_forge_76, k_X4_forge_79, k_X4_forge_82, k_X4_forge_85, k_X4_forge_86, k_X4_forge_87, wp1, wp_s, cutIn, kont, Nat.reduceSub, Nat.reduceAdd, nth, o_const, o_lconst, o_ref, o_iload, o_lload, o_aload, o_istore, o_lstore, o_astore, o_iinc, o_bin, o_div, o_un, o_lbin, o_lsh, o_lcmp, o_i2l, o_l2i, o_if, o_icmp, o_goto, o_dup, o_dup2, o_pop, fav, o_getf, o_putI, o_putZ, o_putL, o_ald, o_ast, o_alen, popn, rst, o_callV, o_callT, o_callS, swx, o_sw, o_ret, o_iret, o_zret, o_cret, o_lret, o_aret, lg, lput, lput2, ls1, isL, entL, wsum, rdI1, rdI2, rdA1, rdA21, rdA22, rdL1, rdL22, rdL21, upN_at, rep, sh_0, F_0_0, F_0_1, F_0_2, F_0_3, F_0_4, F_0_5, F_0_6, F_0_7, F_0_8, sh_1, F_1_0, F_1_1, F_1_2, F_1_3, F_1_4, F_1_5, sh_3, F_3_0, F_3_1, F_3_2, F_3_3, F_3_4, F_3_5, sh_5, F_5_0, F_5_1, F_5_2, F_5_3, F_5_4, F_5_5, F_5_6, F_5_7, F_5_8, sh_12, F_12_0, F_12_1, F_12_2, F_12_3, F_12_4, F_12_5, sh_14, F_14_0, F_14_1, F_14_2, F_14_3, F_14_4, F_14_5, F_14_6, F_14_7, F_14_8, sh_21, F_21_0, F_21_1, F_21_2, F_21_3, F_21_4, F_21_5, F_21_6, F_21_7, F_21_8, sh_28, F_28_0, F_28_1, F_28_2, F_28_3, F_28_4, F_28_5, F_28_6, F_28_7, F_28_8, sh_35, F_35_0, sh_39, F_39_0, F_39_1, F_39_2, F_39_3, F_39_4, F_39_5, F_39_6, F_39_7, F_39_8, F_39_9, F_39_10, F_39_11, F_39_12, F_39_13, A_2, A_4, A_6, A_7, A_8, A_9, A_10, A_11, A_13, A_15, A_16, A_17, A_18, A_19, A_20, A_22, A_23, A_24, A_25, A_26, A_27, A_29, A_30, A_31, A_32, A_33, A_34, A_36, A_37, A_38, A_40, A_41, A_42, A_43, A_44, A_45, A_46, A_47]
    exact ⟨fun _ => h1 fun q => z q.1, fun q => absurd rfl q⟩
set_option maxRecDepth 100000 in
theorem v_X4_undo : ∀ as M post, S_X4_undo as M post → wsum as ≤ 1 ∧ RUN (T_X4_undo post) 0 (entL 1 as) [] M := by
  rintro as M post ⟨u, rfl, hu, hu10, h1, h2⟩
  refine ⟨by show 1 ≤ 1; omega, run_wp 90 ?_⟩
  dsimp only [k_X4_undo_0, k_X4_undo_1, k_X4_undo_4, k_X4_undo_7, k_X4_undo_10, k_X4_undo_13, k_X4_undo_15, k_X4_undo_16, k_X4_undo_17, k_X4_undo_20, k_X4_undo_23, k_X4_undo_26, k_X4_undo_27, k_X4_undo_30, k_X4_undo_33, k_X4_undo_36, wp1, wp_s, cutIn, kont, Nat.reduceSub, Nat.reduceAdd, nth, o_const, o_lconst, o_ref, o_iload, o_lload, o_aload, o_istore, o_lstore, o_astore, o_iinc, o_bin, o_div, o_un, o_lbin, o_lsh, o_lcmp, o_i2l, o_l2i, o_if, o_icmp, o_goto, o_dup, o_dup2, o_pop, fav, o_getf, o_putI, o_putZ, o_putL, o_ald, o_ast, o_alen, popn, rst, o_callV, o_callT, o_callS, swx, o_sw, o_ret, o_iret, o_zret, o_cret, o_lret, o_aret, lg, lput, lput2, ls1, isL, entL, wsum, rdI1, rdI2, rdA1, rdA21, rdA22, rdL1, rdL22, rdL21, upN_at, rep, sh_0, F_0_0, F_0_1, F_0_2, F_0_3, F_0_4, F_0_5, F_0_6, F_0_7, F_0_8, sh_1, F_1_0, F_1_1, F_1_2, F_1_3, F_1_4, F_1_5, sh_3, F_3_0, F_3_1, F_3_2, F_3_3, F_3_4, F_3_5, sh_5, F_5_0, F_5_1, F_5_2, F_5_3, F_5_4, F_5_5, F_5_6, F_5_7, F_5_8, sh_12, F_12_0, F_12_1, F_12_2, F_12_3, F_12_4, F_12_5, sh_14, F_14_0, F_14_1, F_14_2, F_14_3, F_14_4, F_14_5, F_14_6, F_14_7, F_14_8, sh_21, F_21_0, F_21_1, F_21_2, F_21_3, F_21_4, F_21_5, F_21_6, F_21_7, F_21_8, sh_28, F_28_0, F_28_1, F_28_2, F_28_3, F_28_4, F_28_5, F_28_6, F_28_7, F_28_8, sh_35, F_35_0, sh_39, F_39_0, F_39_1, F_39_2, F_39_3, F_39_4, F_39_5, F_39_6, F_39_7, F_39_8, F_39_9, F_39_10, F_39_11, F_39_12, F_39_13, A_2, A_4, A_6, A_7, A_8, A_9, A_10, A_11, A_13, A_15, A_16, A_17, A_18, A_19, A_20, A_22, A_23, A_24, A_25, A_26, A_27, A_29, A_30, A_31, A_32, A_33, A_34, A_36, A_37, A_38, A_40, A_41, A_42, A_43, A_44, A_45, A_46, A_47]
  rw [hu]
  cases u with
  | zero => exact ⟨fun _ => h1 rfl, fun q => absurd rfl q⟩
  | succ v =>
    obtain ⟨k, hk, hk8, h⟩ := h2 v rfl
    refine ⟨fun q => absurd q (nI_ne0 (by omega) (by omega)), fun _ => ⟨v, k, rfl, hu, by omega, hk, hk8, ?_⟩⟩
    dsimp only [k_X4_undo_0, k_X4_undo_1, k_X4_undo_4, k_X4_undo_7, k_X4_undo_10, k_X4_undo_13, k_X4_undo_15, k_X4_undo_16, k_X4_undo_17, k_X4_undo_20, k_X4_undo_23, k_X4_undo_26, k_X4_undo_27, k_X4_undo_30, k_X4_undo_33, k_X4_undo_36, wp1, wp_s, cutIn, kont, Nat.reduceSub, Nat.reduceAdd, nth, o_const, o_lconst, o_ref, o_iload, o_lload, o_aload, o_istore, o_lstore, o_astore, o_iinc, o_bin, o_div, o_un, o_lbin, o_lsh, o_lcmp, o_i2l, o_l2i, o_if, o_icmp, o_goto, o_dup, o_dup2, o_pop, fav, o_getf, o_putI, o_putZ, o_putL, o_ald, o_ast, o_alen, popn, rst, o_callV, o_callT, o_callS, swx, o_sw, o_ret, o_iret, o_zret, o_cret, o_lret, o_aret, lg, lput, lput2, ls1, isL, entL, wsum, rdI1, rdI2, rdA1, rdA21, rdA22, rdL1, rdL22, rdL21, upN_at, rep, sh_0, F_0_0, F_0_1, F_0_2, F_0_3, F_0_4, F_0_5, F_0_6, F_0_7, F_0_8, sh_1, F_1_0, F_1_1, F_1_2, F_1_3, F_1_4, F_1_5, sh_3, F_3_0, F_3_1, F_3_2, F_3_3, F_3_4, F_3_5, sh_5, F_5_0, F_5_1, F_5_2, F_5_3, F_5_4, F_5_5, F_5_6, F_5_7, F_5_8, sh_12, F_12_0, F_12_1, F_12_2, F_12_3, F_12_4, F_12_5, sh_14, F_14_0, F_14_1, F_14_2, F_14_3, F_14_4, F_14_5, F_14_6, F_14_7, F_14_8, sh_21, F_21_0, F_21_1, F_21_2, F_21_3, F_21_4, F_21_5, F_21_6, F_21_7, F_21_8, sh_28, F_28_0, F_28_1, F_28_2, F_28_3, F_28_4, F_28_5, F_28_6, F_28_7, F_28_8, sh_35, F_35_0, sh_39, F_39_0, F_39_1, F_39_2, F_39_3, F_39_4, F_39_5, F_39_6, F_39_7, F_39_8, F_39_9, F_39_10, F_39_11, F_39_12, F_39_13, A_2, A_4, A_6, A_7, A_8, A_9, A_10, A_11, A_13, A_15, A_16, A_17, A_18, A_19, A_20, A_22, A_23, A_24, A_25, A_26, A_27, A_29, A_30, A_31, A_32, A_33, A_34, A_36, A_37, A_38, A_40, A_41, A_42, A_43, A_44, A_45, A_46, A_47]
    exact h
theorem c_X4_cut : Ctr yX4_cut cX4_cut 3 (some .int) ({ frames := 3, cells := 0, slots := 0, locals := 65 } : Room) S_X4_cut := ctr_of (T := T_X4_cut) (by decide +kernel) (fun post C hr => t_X4_cut post C hr) v_X4_cut
theorem c_X4_give : Ctr yX4_give cX4_give 4 (some .int) ({ frames := 3, cells := 0, slots := 0, locals := 65 } : Room) S_X4_give := ctr_of (T := T_X4_give) (by decide +kernel) (fun post C hr => t_X4_give post C hr) v_X4_give
theorem c_X4_lose : Ctr yX4_lose cX4_lose 3 (some .int) ({ frames := 3, cells := 0, slots := 0, locals := 65 } : Room) S_X4_lose := ctr_of (T := T_X4_lose) (by decide +kernel) (fun post C hr => t_X4_lose post C hr) v_X4_lose
theorem c_X4_forge : Ctr yX4_forge cX4_forge 3 (some .int) ({ frames := 3, cells := 0, slots := 0, locals := 65 } : Room) S_X4_forge := ctr_of (T := T_X4_forge) (by decide +kernel) (fun post C hr => t_X4_forge post C hr) v_X4_forge
theorem c_X4_undo : Ctr yX4_undo cX4_undo 1 (some .int) ({ frames := 1, cells := 0, slots := 0, locals := 21 } : Room) S_X4_undo := ctr_of (T := T_X4_undo) (by decide +kernel) (fun post C hr => t_X4_undo post C hr) v_X4_undo
/-- the keys that are not made by those ahead -/
def alF (r : Nat → Nat) (h : Nat → Int32) (n m : Nat) : Nat := mk (fun k => !(h k == -3) && !(rs (fsp r (us h n) k) (r k) 9 == 0)) m
def S_X4_alone : SP := fun as M post => ∃ n c p r h lk, as = [VR 0] ∧ XW M n c p r h lk ∧ ∀ f, post (some (VI (nI (alF r h n n)))) (sA 27 f M)
def S_X4_opens : SP := fun as M post => ∃ x n c p r h lk, as = [VR 0, VI x] ∧ XW M n c p r h lk ∧ (¬ In x (2 ^ p - 1) → post (some (VI (-1))) M) ∧ (∀ g, x = nI g → g &&& (2 ^ p - 1) = g → ∀ f, post (some (VI (nI (opn r n lk c (hd h g p n))))) (sA 27 f M))
theorem dX4_alone_0 : decode cX4_alone 0 = .ok (.aload_n 0, 1) := by decide +kernel
theorem dX4_alone_1 : decode cX4_alone 1 = .ok (.getfield 19, 3) := by decide +kernel
theorem dX4_alone_4 : decode cX4_alone 4 = .ok (.getfield 71, 3) := by decide +kernel
theorem dX4_alone_7 : decode cX4_alone 7 = .ok (.astore_n 1, 1) := by decide +kernel
theorem dX4_alone_8 : decode cX4_alone 8 = .ok (.iconst 0, 1) := by decide +kernel
theorem dX4_alone_9 : decode cX4_alone 9 = .ok (.istore_n 2, 1) := by decide +kernel
theorem dX4_alone_10 : decode cX4_alone 10 = .ok (.aload_n 0, 1) := by decide +kernel
theorem dX4_alone_11 : decode cX4_alone 11 = .ok (.getfield 39, 3) := by decide +kernel
theorem dX4_alone_14 : decode cX4_alone 14 = .ok (.invokevirtual 126, 3) := by decide +kernel
theorem dX4_alone_17 : decode cX4_alone 17 = .ok (.iconst 0, 1) := by decide +kernel
theorem dX4_alone_18 : decode cX4_alone 18 = .ok (.istore_n 3, 1) := by decide +kernel
theorem dX4_alone_19 : decode cX4_alone 19 = .ok (.iload_n 3, 1) := by decide +kernel
theorem dX4_alone_20 : decode cX4_alone 20 = .ok (.aload_n 1, 1) := by decide +kernel
theorem dX4_alone_21 : decode cX4_alone 21 = .ok (.getfield 108, 3) := by decide +kernel
theorem dX4_alone_24 : decode cX4_alone 24 = .ok (.if_icmp .ge 42, 3) := by decide +kernel
theorem dX4_alone_27 : decode cX4_alone 27 = .ok (.aload_n 1, 1) := by decide +kernel
theorem dX4_alone_28 : decode cX4_alone 28 = .ok (.getfield 84, 3) := by decide +kernel
theorem dX4_alone_31 : decode cX4_alone 31 = .ok (.iload_n 3, 1) := by decide +kernel
theorem dX4_alone_32 : decode cX4_alone 32 = .ok (.iaload, 1) := by decide +kernel
theorem dX4_alone_33 : decode cX4_alone 33 = .ok (.bipush (-3), 2) := by decide +kernel
theorem dX4_alone_35 : decode cX4_alone 35 = .ok (.if_icmp .eq 25, 3) := by decide +kernel
theorem dX4_alone_38 : decode cX4_alone 38 = .ok (.aload_n 0, 1) := by decide +kernel
theorem dX4_alone_39 : decode cX4_alone 39 = .ok (.getfield 39, 3) := by decide +kernel
theorem dX4_alone_42 : decode cX4_alone 42 = .ok (.aload_n 1, 1) := by decide +kernel
theorem dX4_alone_43 : decode cX4_alone 43 = .ok (.getfield 81, 3) := by decide +kernel
theorem dX4_alone_46 : decode cX4_alone 46 = .ok (.iload_n 3, 1) := by decide +kernel
theorem dX4_alone_47 : decode cX4_alone 47 = .ok (.iaload, 1) := by decide +kernel
theorem dX4_alone_48 : decode cX4_alone 48 = .ok (.invokevirtual 129, 3) := by decide +kernel
theorem dX4_alone_51 : decode cX4_alone 51 = .ok (.ifCond .eq 9, 3) := by decide +kernel
theorem dX4_alone_54 : decode cX4_alone 54 = .ok (.iload_n 2, 1) := by decide +kernel
theorem dX4_alone_55 : decode cX4_alone 55 = .ok (.iconst 1, 1) := by decide +kernel
theorem dX4_alone_56 : decode cX4_alone 56 = .ok (.iload_n 3, 1) := by decide +kernel
theorem dX4_alone_57 : decode cX4_alone 57 = .ok (.ishl, 1) := by decide +kernel
theorem dX4_alone_58 : decode cX4_alone 58 = .ok (.ior, 1) := by decide +kernel
theorem dX4_alone_59 : decode cX4_alone 59 = .ok (.istore_n 2, 1) := by decide +kernel
theorem dX4_alone_60 : decode cX4_alone 60 = .ok (.iinc 3 1, 3) := by decide +kernel
theorem dX4_alone_63 : decode cX4_alone 63 = .ok (.goto (-44), 3) := by decide +kernel
theorem dX4_alone_66 : decode cX4_alone 66 = .ok (.iload_n 2, 1) := by decide +kernel
theorem dX4_alone_67 : decode cX4_alone 67 = .ok (.ireturn, 1) := by decide +kernel
def T_X4_alone (post : PO) : List (Nat × OP) := [(0, o_aload 0 1), (1, o_getf 4 1 4), (4, o_getf 0 0 7), (7, o_astore 1 8), (8, o_const 0 9), (9, o_istore 2 10), (10, o_aload 0 11), (11, o_getf 4 5 14), (14, o_callV 2 S_X2_empty 0 17), (17, o_const 0 18), (18, o_istore 3 19), (19, o_iload 3 20), (20, o_aload 1 21), (21, o_getf 1 2 24), (24, o_icmp (fun x y => y ≤ x) 66 27), (27, o_aload 1 28), (28, o_getf 1 1 31), (31, o_iload 3 32), (32, o_ald 0 33), (33, o_const (-3) 35), (35, o_icmp (fun x y => x = y) 60 38), (38, o_aload 0 39), (39, o_getf 4 5 42), (42, o_aload 1 43), (43, o_getf 1 0 46), (46, o_iload 3 47), (47, o_ald 0 48), (48, o_callV 2 S_X2_widen 1 51), (51, o_if (fun x => x = 0) 60 54), (54, o_iload 2 55), (55, o_const 1 56), (56, o_iload 3 57), (57, o_bin (fun x y => x <<< (y &&& 31)) 58), (58, o_bin (fun x y => x ||| y) 59), (59, o_istore 2 60), (60, o_iinc 3 1 63), (63, o_goto 19), (66, o_iload 2 67), (67, o_iret post)]
theorem k_X4_alone_0 (post : PO) : lk (T_X4_alone post) 0 = o_aload 0 1 := rfl
theorem k_X4_alone_1 (post : PO) : lk (T_X4_alone post) 1 = o_getf 4 1 4 := rfl
theorem k_X4_alone_4 (post : PO) : lk (T_X4_alone post) 4 = o_getf 0 0 7 := rfl
theorem k_X4_alone_7 (post : PO) : lk (T_X4_alone post) 7 = o_astore 1 8 := rfl
theorem k_X4_alone_8 (post : PO) : lk (T_X4_alone post) 8 = o_const 0 9 := rfl
theorem k_X4_alone_9 (post : PO) : lk (T_X4_alone post) 9 = o_istore 2 10 := rfl
theorem k_X4_alone_10 (post : PO) : lk (T_X4_alone post) 10 = o_aload 0 11 := rfl
theorem k_X4_alone_11 (post : PO) : lk (T_X4_alone post) 11 = o_getf 4 5 14 := rfl
theorem k_X4_alone_14 (post : PO) : lk (T_X4_alone post) 14 = o_callV 2 S_X2_empty 0 17 := rfl
theorem k_X4_alone_17 (post : PO) : lk (T_X4_alone post) 17 = o_const 0 18 := rfl
theorem k_X4_alone_18 (post : PO) : lk (T_X4_alone post) 18 = o_istore 3 19 := rfl
theorem k_X4_alone_19 (post : PO) : lk (T_X4_alone post) 19 = o_iload 3 20 := rfl
theorem k_X4_alone_20 (post : PO) : lk (T_X4_alone post) 20 = o_aload 1 21 := rfl
theorem k_X4_alone_21 (post : PO) : lk (T_X4_alone post) 21 = o_getf 1 2 24 := rfl
theorem k_X4_alone_24 (post : PO) : lk (T_X4_alone post) 24 = o_icmp (fun x y => y ≤ x) 66 27 := rfl
theorem k_X4_alone_27 (post : PO) : lk (T_X4_alone post) 27 = o_aload 1 28 := rfl
theorem k_X4_alone_28 (post : PO) : lk (T_X4_alone post) 28 = o_getf 1 1 31 := rfl
theorem k_X4_alone_31 (post : PO) : lk (T_X4_alone post) 31 = o_iload 3 32 := rfl
theorem k_X4_alone_32 (post : PO) : lk (T_X4_alone post) 32 = o_ald 0 33 := rfl
theorem k_X4_alone_33 (post : PO) : lk (T_X4_alone post) 33 = o_const (-3) 35 := rfl
theorem k_X4_alone_35 (post : PO) : lk (T_X4_alone post) 35 = o_icmp (fun x y => x = y) 60 38 := rfl
theorem k_X4_alone_38 (post : PO) : lk (T_X4_alone post) 38 = o_aload 0 39 := rfl
theorem k_X4_alone_39 (post : PO) : lk (T_X4_alone post) 39 = o_getf 4 5 42 := rfl
theorem k_X4_alone_42 (post : PO) : lk (T_X4_alone post) 42 = o_aload 1 43 := rfl
theorem k_X4_alone_43 (post : PO) : lk (T_X4_alone post) 43 = o_getf 1 0 46 := rfl
theorem k_X4_alone_46 (post : PO) : lk (T_X4_alone post) 46 = o_iload 3 47 := rfl
theorem k_X4_alone_47 (post : PO) : lk (T_X4_alone post) 47 = o_ald 0 48 := rfl
theorem k_X4_alone_48 (post : PO) : lk (T_X4_alone post) 48 = o_callV 2 S_X2_widen 1 51 := rfl
theorem k_X4_alone_51 (post : PO) : lk (T_X4_alone post) 51 = o_if (fun x => x = 0) 60 54 := rfl
theorem k_X4_alone_54 (post : PO) : lk (T_X4_alone post) 54 = o_iload 2 55 := rfl
theorem k_X4_alone_55 (post : PO) : lk (T_X4_alone post) 55 = o_const 1 56 := rfl
theorem k_X4_alone_56 (post : PO) : lk (T_X4_alone post) 56 = o_iload 3 57 := rfl
theorem k_X4_alone_57 (post : PO) : lk (T_X4_alone post) 57 = o_bin (fun x y => x <<< (y &&& 31)) 58 := rfl
theorem k_X4_alone_58 (post : PO) : lk (T_X4_alone post) 58 = o_bin (fun x y => x ||| y) 59 := rfl
theorem k_X4_alone_59 (post : PO) : lk (T_X4_alone post) 59 = o_istore 2 60 := rfl
theorem k_X4_alone_60 (post : PO) : lk (T_X4_alone post) 60 = o_iinc 3 1 63 := rfl
theorem k_X4_alone_63 (post : PO) : lk (T_X4_alone post) 63 = o_goto 19 := rfl
theorem k_X4_alone_66 (post : PO) : lk (T_X4_alone post) 66 = o_iload 2 67 := rfl
theorem k_X4_alone_67 (post : PO) : lk (T_X4_alone post) 67 = o_iret post := rfl
set_option maxRecDepth 100000 in
theorem t_X4_alone {p : Program} {l : Launch} {e : Env} {s : State} {m : MethodId} {args : Array Value} {below : List Frame} {meth : Method} {c : Code} {D : va_G} {dA : Nat → ClassId} {ad : Nat → Nat} (post : PO) (C : CX p s m args meth c cX4_alone 4 yX4_alone.cls D dA ad (AA ad s.heap.size)) (hr : meth.sig.returnType = (some .int)) : SndL (WW p l e ({ frames := 2, cells := 0, slots := 0, locals := 46 } : Room) s m args below meth c 0 0 (MQ below (CQ D dA ad post (AA ad s.heap.size)) args s 0 0 (AA ad s.heap.size)) 4 D dA ad (AA ad s.heap.size)) (T_X4_alone post) := by
  refine snd_c (s_aload_n C rfl dX4_alone_0) ?_
  refine snd_c (s_getf C (ci := 4) (j := 1) (T := TX4) rfl inX4 (by decide) fl_RX4_19 dX4_alone_1) ?_
  refine snd_c (s_getf C (ci := 0) (j := 0) (T := TX0) rfl inX0 (by decide) fl_RX4_71 dX4_alone_4) ?_
  refine snd_c (s_astore_n C rfl (by decide) dX4_alone_7) ?_
  refine snd_c (s_iconst C dX4_alone_8 rfl) ?_
  refine snd_c (s_istore_n C rfl (by decide) dX4_alone_9) ?_
  refine snd_c (s_aload_n C rfl dX4_alone_10) ?_
  refine snd_c (s_getf C (ci := 4) (j := 5) (T := TX4) rfl inX4 (by decide) fl_RX4_39 dX4_alone_11) ?_
  refine snd_c (s_callV C (ci := 2) c_X2_empty rfl cw_RX4_126 ⟨rfl, rfl⟩ ⟨by decide +kernel, by decide +kernel, by decide +kernel⟩ ⟨by decide, by decide⟩ ⟨Nat.zero_le _, Nat.zero_le _⟩ dX4_alone_14) ?_
  refine snd_c (s_iconst C dX4_alone_17 rfl) ?_
  refine snd_c (s_istore_n C rfl (by decide) dX4_alone_18) ?_
  refine snd_c (s_iload_n C rfl dX4_alone_19) ?_
  refine snd_c (s_aload_n C rfl dX4_alone_20) ?_
  refine snd_c (s_getf C (ci := 1) (j := 2) (T := TX1) rfl inX1 (by decide) fl_RX4_108 dX4_alone_21) ?_
  refine snd_c (s_icmp_ge C dX4_alone_24 (by decide)) ?_
  refine snd_c (s_aload_n C rfl dX4_alone_27) ?_
  refine snd_c (s_getf C (ci := 1) (j := 1) (T := TX1) rfl inX1 (by decide) fl_RX4_84 dX4_alone_28) ?_
  refine snd_c (s_iload_n C rfl dX4_alone_31) ?_
  refine snd_c (s_iald C dX4_alone_32) ?_
  refine snd_c (s_bipush C dX4_alone_33 rfl) ?_
  refine snd_c (s_icmp_eq C dX4_alone_35 (by decide)) ?_
  refine snd_c (s_aload_n C rfl dX4_alone_38) ?_
  refine snd_c (s_getf C (ci := 4) (j := 5) (T := TX4) rfl inX4 (by decide) fl_RX4_39 dX4_alone_39) ?_
  refine snd_c (s_aload_n C rfl dX4_alone_42) ?_
  refine snd_c (s_getf C (ci := 1) (j := 0) (T := TX1) rfl inX1 (by decide) fl_RX4_81 dX4_alone_43) ?_
  refine snd_c (s_iload_n C rfl dX4_alone_46) ?_
  refine snd_c (s_iald C dX4_alone_47) ?_
  refine snd_c (s_callV C (ci := 2) c_X2_widen rfl cw_RX4_129 ⟨rfl, rfl⟩ ⟨by decide +kernel, by decide +kernel, by decide +kernel⟩ ⟨by decide, by decide⟩ ⟨Nat.zero_le _, Nat.zero_le _⟩ dX4_alone_48) ?_
  refine snd_c (s_if_eq C dX4_alone_51 (by decide)) ?_
  refine snd_c (s_iload_n C rfl dX4_alone_54) ?_
  refine snd_c (s_iconst C dX4_alone_55 rfl) ?_
  refine snd_c (s_iload_n C rfl dX4_alone_56) ?_
  refine snd_c (s_ishl C dX4_alone_57) ?_
  refine snd_c (s_ior C dX4_alone_58) ?_
  refine snd_c (s_istore_n C rfl (by decide) dX4_alone_59) ?_
  refine snd_c (s_iinc C (by decide) rfl dX4_alone_60) ?_
  refine snd_c (s_goto C dX4_alone_63 (by decide)) ?_
  refine snd_c (s_iload_n C rfl dX4_alone_66) ?_
  refine snd_c (s_iret C hr dX4_alone_67) ?_
  exact trivial
theorem dX4_opens_0 : decode cX4_opens 0 = .ok (.iload_n 1, 1) := by decide +kernel
theorem dX4_opens_1 : decode cX4_opens 1 = .ok (.aload_n 0, 1) := by decide +kernel
theorem dX4_opens_2 : decode cX4_opens 2 = .ok (.getfield 19, 3) := by decide +kernel
theorem dX4_opens_5 : decode cX4_opens 5 = .ok (.invokevirtual 137, 3) := by decide +kernel
theorem dX4_opens_8 : decode cX4_opens 8 = .ok (.invokestatic 97, 3) := by decide +kernel
theorem dX4_opens_11 : decode cX4_opens 11 = .ok (.ifCond .ne 5, 3) := by decide +kernel
theorem dX4_opens_14 : decode cX4_opens 14 = .ok (.iconst (-1), 1) := by decide +kernel
theorem dX4_opens_15 : decode cX4_opens 15 = .ok (.ireturn, 1) := by decide +kernel
theorem dX4_opens_16 : decode cX4_opens 16 = .ok (.aload_n 0, 1) := by decide +kernel
theorem dX4_opens_17 : decode cX4_opens 17 = .ok (.aload_n 0, 1) := by decide +kernel
theorem dX4_opens_18 : decode cX4_opens 18 = .ok (.getfield 19, 3) := by decide +kernel
theorem dX4_opens_21 : decode cX4_opens 21 = .ok (.iload_n 1, 1) := by decide +kernel
theorem dX4_opens_22 : decode cX4_opens 22 = .ok (.invokevirtual 140, 3) := by decide +kernel
theorem dX4_opens_25 : decode cX4_opens 25 = .ok (.invokevirtual 143, 3) := by decide +kernel
theorem dX4_opens_28 : decode cX4_opens 28 = .ok (.ireturn, 1) := by decide +kernel
def T_X4_opens (post : PO) : List (Nat × OP) := [(0, o_iload 1 1), (1, o_aload 0 2), (2, o_getf 4 1 5), (5, o_callV 0 S_X0_everybody 0 8), (8, o_callS S_X4_within 2 11), (11, o_if (fun x => x = 0) 14 16), (14, o_const (-1) 15), (15, o_iret post), (16, o_aload 0 17), (17, o_aload 0 18), (18, o_getf 4 1 21), (21, o_iload 1 22), (22, o_callV 0 S_X0_heldBy 1 25), (25, o_callV 4 S_X4_openedBy 1 28), (28, o_iret post)]
theorem k_X4_opens_0 (post : PO) : lk (T_X4_opens post) 0 = o_iload 1 1 := rfl
theorem k_X4_opens_1 (post : PO) : lk (T_X4_opens post) 1 = o_aload 0 2 := rfl
theorem k_X4_opens_2 (post : PO) : lk (T_X4_opens post) 2 = o_getf 4 1 5 := rfl
theorem k_X4_opens_5 (post : PO) : lk (T_X4_opens post) 5 = o_callV 0 S_X0_everybody 0 8 := rfl
theorem k_X4_opens_8 (post : PO) : lk (T_X4_opens post) 8 = o_callS S_X4_within 2 11 := rfl
theorem k_X4_opens_11 (post : PO) : lk (T_X4_opens post) 11 = o_if (fun x => x = 0) 14 16 := rfl
theorem k_X4_opens_14 (post : PO) : lk (T_X4_opens post) 14 = o_const (-1) 15 := rfl
theorem k_X4_opens_15 (post : PO) : lk (T_X4_opens post) 15 = o_iret post := rfl
theorem k_X4_opens_16 (post : PO) : lk (T_X4_opens post) 16 = o_aload 0 17 := rfl
theorem k_X4_opens_17 (post : PO) : lk (T_X4_opens post) 17 = o_aload 0 18 := rfl
theorem k_X4_opens_18 (post : PO) : lk (T_X4_opens post) 18 = o_getf 4 1 21 := rfl
theorem k_X4_opens_21 (post : PO) : lk (T_X4_opens post) 21 = o_iload 1 22 := rfl
theorem k_X4_opens_22 (post : PO) : lk (T_X4_opens post) 22 = o_callV 0 S_X0_heldBy 1 25 := rfl
theorem k_X4_opens_25 (post : PO) : lk (T_X4_opens post) 25 = o_callV 4 S_X4_openedBy 1 28 := rfl
theorem k_X4_opens_28 (post : PO) : lk (T_X4_opens post) 28 = o_iret post := rfl
set_option maxRecDepth 100000 in
theorem t_X4_opens {p : Program} {l : Launch} {e : Env} {s : State} {m : MethodId} {args : Array Value} {below : List Frame} {meth : Method} {c : Code} {D : va_G} {dA : Nat → ClassId} {ad : Nat → Nat} (post : PO) (C : CX p s m args meth c cX4_opens 2 yX4_opens.cls D dA ad (AA ad s.heap.size)) (hr : meth.sig.returnType = (some .int)) : SndL (WW p l e ({ frames := 4, cells := 0, slots := 0, locals := 91 } : Room) s m args below meth c 0 0 (MQ below (CQ D dA ad post (AA ad s.heap.size)) args s 0 0 (AA ad s.heap.size)) 2 D dA ad (AA ad s.heap.size)) (T_X4_opens post) := by
  refine snd_c (s_iload_n C rfl dX4_opens_0) ?_
  refine snd_c (s_aload_n C rfl dX4_opens_1) ?_
  refine snd_c (s_getf C (ci := 4) (j := 1) (T := TX4) rfl inX4 (by decide) fl_RX4_19 dX4_opens_2) ?_
  refine snd_c (s_callV C (ci := 0) c_X0_everybody rfl cw_RX4_137 ⟨rfl, rfl⟩ ⟨by decide +kernel, by decide +kernel, by decide +kernel⟩ ⟨by decide, by decide⟩ ⟨Nat.zero_le _, Nat.zero_le _⟩ dX4_opens_5) ?_
  refine snd_c (s_callS C c_X4_within cw_RX4_97 ⟨rfl, rfl⟩ ⟨by decide +kernel, by decide +kernel, by decide +kernel⟩ ⟨by decide, by decide⟩ ⟨Nat.zero_le _, Nat.zero_le _⟩ dX4_opens_8) ?_
  refine snd_c (s_if_ne C dX4_opens_11 (by decide)) ?_
  refine snd_c (s_iconst C dX4_opens_14 rfl) ?_
  refine snd_c (s_iret C hr dX4_opens_15) ?_
  refine snd_c (s_aload_n C rfl dX4_opens_16) ?_
  refine snd_c (s_aload_n C rfl dX4_opens_17) ?_
  refine snd_c (s_getf C (ci := 4) (j := 1) (T := TX4) rfl inX4 (by decide) fl_RX4_19 dX4_opens_18) ?_
  refine snd_c (s_iload_n C rfl dX4_opens_21) ?_
  refine snd_c (s_callV C (ci := 0) c_X0_heldBy rfl cw_RX4_140 ⟨rfl, rfl⟩ ⟨by decide +kernel, by decide +kernel, by decide +kernel⟩ ⟨by decide, by decide⟩ ⟨Nat.zero_le _, Nat.zero_le _⟩ dX4_opens_22) ?_
  refine snd_c (s_callV C (ci := 4) c_X4_openedBy rfl cw_RX4_143 ⟨rfl, rfl⟩ ⟨by decide +kernel, by decide +kernel, by decide +kernel⟩ ⟨by decide, by decide⟩ ⟨Nat.zero_le _, Nat.zero_le _⟩ dX4_opens_25) ?_
  refine snd_c (s_iret C hr dX4_opens_28) ?_
  exact trivial
theorem us_bit (h : Nat → Int32) (n k : Nat) : (us h n).testBit k = (decide (k < n) && !(h k == -3)) := mk_bit _ n k
set_option maxRecDepth 100000 in
theorem v_X4_alone : ∀ as M post, S_X4_alone as M post → wsum as ≤ 4 ∧ RUN (T_X4_alone post) 0 (entL 4 as) [] M := by
  rintro as M post ⟨n, c, p, r, h0, lk, rfl, hX, h⟩
  obtain ⟨hn, hn8, hc, hc6, hp, hp4, hr, hhk, hl⟩ := hX
  refine ⟨by show 1 ≤ 4; omega, run_of [19] (fun μ pc lv st M' => st = [] ∧ pc = 19 ∧ ∃ i f, i ≤ n ∧ (∀ j, j < 9 → f j = nI (fsp r (us h0 n) i j)) ∧ M' = sA 27 f M ∧ 20 - i = μ ∧ lv = [some (VR 0), some (VR 5), some (VI (nI (alF r h0 n i))), some (VI (nI i))]) 60 30 ?_ ?_⟩
  · rintro μ pc lv st M' ⟨rfl, rfl, i, f, hi, hf, rfl, rfl, rfl⟩
    dsimp only [k_X4_alone_0, k_X4_alone_1, k_X4_alone_4, k_X4_alone_7, k_X4_alone_8, k_X4_alone_9, k_X4_alone_10, k_X4_alone_11, k_X4_alone_14, k_X4_alone_17, k_X4_alone_18, k_X4_alone_19, k_X4_alone_20, k_X4_alone_21, k_X4_alone_24, k_X4_alone_27, k_X4_alone_28, k_X4_alone_31, k_X4_alone_32, k_X4_alone_33, k_X4_alone_35, k_X4_alone_38, k_X4_alone_39, k_X4_alone_42, k_X4_alone_43, k_X4_alone_46, k_X4_alone_47, k_X4_alone_48, k_X4_alone_51, k_X4_alone_54, k_X4_alone_55, k_X4_alone_56, k_X4_alone_57, k_X4_alone_58, k_X4_alone_59, k_X4_alone_60, k_X4_alone_63, k_X4_alone_66, k_X4_alone_67, wp1, wp_s, cutIn, kont, Nat.reduceSub, Nat.reduceAdd, nth, o_const, o_lconst, o_ref, o_iload, o_lload, o_aload, o_istore, o_lstore, o_astore, o_iinc, o_bin, o_div, o_un, o_lbin, o_lsh, o_lcmp, o_i2l, o_l2i, o_if, o_icmp, o_goto, o_dup, o_dup2, o_pop, fav, o_getf, o_putI, o_putZ, o_putL, o_ald, o_ast, o_alen, popn, rst, o_callV, o_callT, o_callS, swx, o_sw, o_ret, o_iret, o_zret, o_cret, o_lret, o_aret, lg, lput, lput2, ls1, isL, entL, wsum, rdI1, rdI2, rdA1, rdA21, rdA22, rdL1, rdL22, rdL21, upN_at, rep, sh_0, F_0_0, F_0_1, F_0_2, F_0_3, F_0_4, F_0_5, F_0_6, F_0_7, F_0_8, sh_1, F_1_0, F_1_1, F_1_2, F_1_3, F_1_4, F_1_5, sh_3, F_3_0, F_3_1, F_3_2, F_3_3, F_3_4, F_3_5, sh_5, F_5_0, F_5_1, F_5_2, F_5_3, F_5_4, F_5_5, F_5_6, F_5_7, F_5_8, sh_12, F_12_0, F_12_1, F_12_2, F_12_3, F_12_4, F_12_5, sh_14, F_14_0, F_14_1, F_14_2, F_14_3, F_14_4, F_14_5, F_14_6, F_14_7, F_14_8, sh_21, F_21_0, F_21_1, F_21_2, F_21_3, F_21_4, F_21_5, F_21_6, F_21_7, F_21_8, sh_28, F_28_0, F_28_1, F_28_2, F_28_3, F_28_4, F_28_5, F_28_6, F_28_7, F_28_8, sh_35, F_35_0, sh_39, F_39_0, F_39_1, F_39_2, F_39_3, F_39_4, F_39_5, F_39_6, F_39_7, F_39_8, F_39_9, F_39_10, F_39_11, F_39_12, F_39_13, A_2, A_4, A_6, A_7, A_8, A_9, A_10, A_11, A_13, A_15, A_16, A_17, A_18, A_19, A_20, A_22, A_23, A_24, A_25, A_26, A_27, A_29, A_30, A_31, A_32, A_33, A_34, A_36, A_37, A_38, A_40, A_41, A_42, A_43, A_44, A_45, A_46, A_47]
    rw [hn]
    simp (disch := omega) only [nI_leI, nI_ltI, nI_eq, nI_1, nI_add, one_shl, nI_or, nI_xor, nI_and, bit_0, bit_1, true_or, or_true, true_and, and_true, eq_self, not_true_eq_false, not_false_eq_true, forall_const]
    refine ⟨fun z => ?_, fun z => ⟨i, by omega, rfl, fun z2 => ?_, fun z2 => ⟨i, by omega, rfl, ?_⟩⟩⟩
    · have := h f
      rw [show i = n by omega]
      exact this
    · rw [hhk i (by omega)] at z2
      have e : (us h0 n).testBit i = false := by rw [us_bit, z2]; simp
      refine cut _ _ ⟨rfl, rfl, i + 1, f, by omega, ?_, rfl, rfl, rfl⟩ (by omega) ⟨rfl, rfl, vi_eq ?_, rfl, trivial⟩
      · intro j hj
        rw [fsp, if_neg (by rw [e]; decide)]; exact hf j hj
      · unfold alF
        rw [mk, if_neg (by rw [z2]; simp)]
    · rw [hhk i (by omega)] at z2
      have e : (us h0 n).testBit i = true := by rw [us_bit]; simp [z2]; omega
      have hlt := fsp_lt (r := r) (T := us h0 n) i (fun k hk => (hr k (by omega)).2)
      have hv := (hr i (by omega)).2
      have hw := rs_lt hlt 9 (Nat.le_refl 9) (r i) hv
      rw [(hr i (by omega)).1]
      refine ⟨r i, fsp r (us h0 n) i, rfl, hv, fun j hj => ⟨hf j hj, hlt j hj⟩, fun z3 => ?_, fun t ht hb hz => ?_⟩
      · dsimp only [k_X4_alone_0, k_X4_alone_1, k_X4_alone_4, k_X4_alone_7, k_X4_alone_8, k_X4_alone_9, k_X4_alone_10, k_X4_alone_11, k_X4_alone_14, k_X4_alone_17, k_X4_alone_18, k_X4_alone_19, k_X4_alone_20, k_X4_alone_21, k_X4_alone_24, k_X4_alone_27, k_X4_alone_28, k_X4_alone_31, k_X4_alone_32, k_X4_alone_33, k_X4_alone_35, k_X4_alone_38, k_X4_alone_39, k_X4_alone_42, k_X4_alone_43, k_X4_alone_46, k_X4_alone_47, k_X4_alone_48, k_X4_alone_51, k_X4_alone_54, k_X4_alone_55, k_X4_alone_56, k_X4_alone_57, k_X4_alone_58, k_X4_alone_59, k_X4_alone_60, k_X4_alone_63, k_X4_alone_66, k_X4_alone_67, wp1, wp_s, cutIn, kont, Nat.reduceSub, Nat.reduceAdd, nth, o_const, o_lconst, o_ref, o_iload, o_lload, o_aload, o_istore, o_lstore, o_astore, o_iinc, o_bin, o_div, o_un, o_lbin, o_lsh, o_lcmp, o_i2l, o_l2i, o_if, o_icmp, o_goto, o_dup, o_dup2, o_pop, fav, o_getf, o_putI, o_putZ, o_putL, o_ald, o_ast, o_alen, popn, rst, o_callV, o_callT, o_callS, swx, o_sw, o_ret, o_iret, o_zret, o_cret, o_lret, o_aret, lg, lput, lput2, ls1, isL, entL, wsum, rdI1, rdI2, rdA1, rdA21, rdA22, rdL1, rdL22, rdL21, upN_at, rep, sh_0, F_0_0, F_0_1, F_0_2, F_0_3, F_0_4, F_0_5, F_0_6, F_0_7, F_0_8, sh_1, F_1_0, F_1_1, F_1_2, F_1_3, F_1_4, F_1_5, sh_3, F_3_0, F_3_1, F_3_2, F_3_3, F_3_4, F_3_5, sh_5, F_5_0, F_5_1, F_5_2, F_5_3, F_5_4, F_5_5, F_5_6, F_5_7, F_5_8, sh_12, F_12_0, F_12_1, F_12_2, F_12_3, F_12_4, F_12_5, sh_14, F_14_0, F_14_1, F_14_2, F_14_3, F_14_4, F_14_5, F_14_6, F_14_7, F_14_8, sh_21, F_21_0, F_21_1, F_21_2, F_21_3, F_21_4, F_21_5, F_21_6, F_21_7, F_21_8, sh_28, F_28_0, F_28_1, F_28_2, F_28_3, F_28_4, F_28_5, F_28_6, F_28_7, F_28_8, sh_35, F_35_0, sh_39, F_39_0, F_39_1, F_39_2, F_39_3, F_39_4, F_39_5, F_39_6, F_39_7, F_39_8, F_39_9, F_39_10, F_39_11, F_39_12, F_39_13, A_2, A_4, A_6, A_7, A_8, A_9, A_10, A_11, A_13, A_15, A_16, A_17, A_18, A_19, A_20, A_22, A_23, A_24, A_25, A_26, A_27, A_29, A_30, A_31, A_32, A_33, A_34, A_36, A_37, A_38, A_40, A_41, A_42, A_43, A_44, A_45, A_46, A_47]
        refine ⟨fun _ => cut _ _ ⟨rfl, rfl, i + 1, f, by omega, ?_, rfl, rfl, rfl⟩ (by omega) ⟨rfl, rfl, vi_eq ?_, vi_eq (nI_1 _), trivial⟩, fun q => absurd rfl q⟩
        · intro j hj
          rw [fsp, if_pos e, wid, if_pos z3]; exact hf j hj
        · unfold alF
          rw [mk, if_neg (by rw [z3]; simp)]
      · have h0' : rs (fsp r (us h0 n) i) (r i) 9 ≠ 0 := fun e => by rw [e, Nat.zero_testBit] at hb; cases hb
        dsimp only [k_X4_alone_0, k_X4_alone_1, k_X4_alone_4, k_X4_alone_7, k_X4_alone_8, k_X4_alone_9, k_X4_alone_10, k_X4_alone_11, k_X4_alone_14, k_X4_alone_17, k_X4_alone_18, k_X4_alone_19, k_X4_alone_20, k_X4_alone_21, k_X4_alone_24, k_X4_alone_27, k_X4_alone_28, k_X4_alone_31, k_X4_alone_32, k_X4_alone_33, k_X4_alone_35, k_X4_alone_38, k_X4_alone_39, k_X4_alone_42, k_X4_alone_43, k_X4_alone_46, k_X4_alone_47, k_X4_alone_48, k_X4_alone_51, k_X4_alone_54, k_X4_alone_55, k_X4_alone_56, k_X4_alone_57, k_X4_alone_58, k_X4_alone_59, k_X4_alone_60, k_X4_alone_63, k_X4_alone_66, k_X4_alone_67, wp1, wp_s, cutIn, kont, Nat.reduceSub, Nat.reduceAdd, nth, o_const, o_lconst, o_ref, o_iload, o_lload, o_aload, o_istore, o_lstore, o_astore, o_iinc, o_bin, o_div, o_un, o_lbin, o_lsh, o_lcmp, o_i2l, o_l2i, o_if, o_icmp, o_goto, o_dup, o_dup2, o_pop, fav, o_getf, o_putI, o_putZ, o_putL, o_ald, o_ast, o_alen, popn, rst, o_callV, o_callT, o_callS, swx, o_sw, o_ret, o_iret, o_zret, o_cret, o_lret, o_aret, lg, lput, lput2, ls1, isL, entL, wsum, rdI1, rdI2, rdA1, rdA21, rdA22, rdL1, rdL22, rdL21, upN_at, rep, sh_0, F_0_0, F_0_1, F_0_2, F_0_3, F_0_4, F_0_5, F_0_6, F_0_7, F_0_8, sh_1, F_1_0, F_1_1, F_1_2, F_1_3, F_1_4, F_1_5, sh_3, F_3_0, F_3_1, F_3_2, F_3_3, F_3_4, F_3_5, sh_5, F_5_0, F_5_1, F_5_2, F_5_3, F_5_4, F_5_5, F_5_6, F_5_7, F_5_8, sh_12, F_12_0, F_12_1, F_12_2, F_12_3, F_12_4, F_12_5, sh_14, F_14_0, F_14_1, F_14_2, F_14_3, F_14_4, F_14_5, F_14_6, F_14_7, F_14_8, sh_21, F_21_0, F_21_1, F_21_2, F_21_3, F_21_4, F_21_5, F_21_6, F_21_7, F_21_8, sh_28, F_28_0, F_28_1, F_28_2, F_28_3, F_28_4, F_28_5, F_28_6, F_28_7, F_28_8, sh_35, F_35_0, sh_39, F_39_0, F_39_1, F_39_2, F_39_3, F_39_4, F_39_5, F_39_6, F_39_7, F_39_8, F_39_9, F_39_10, F_39_11, F_39_12, F_39_13, A_2, A_4, A_6, A_7, A_8, A_9, A_10, A_11, A_13, A_15, A_16, A_17, A_18, A_19, A_20, A_22, A_23, A_24, A_25, A_26, A_27, A_29, A_30, A_31, A_32, A_33, A_34, A_36, A_37, A_38, A_40, A_41, A_42, A_43, A_44, A_45, A_46, A_47]
        refine ⟨fun q => absurd q (by decide), fun _ => cut _ _ ⟨rfl, rfl, i + 1, upd f t (nI (rs (fsp r (us h0 n) i) (r i) 9)), by omega, ?_, ?_, rfl, rfl⟩ (by omega) ⟨rfl, rfl, vi_eq ?_, vi_eq (nI_1 _), trivial⟩⟩
        · intro j hj
          obtain ⟨t1, t2, t3⟩ := tp_spec 9 (ne0_bit hw h0')
          have et : t = tp (rs (fsp r (us h0 n) i) (r i) 9) 9 := by
            rcases Nat.lt_trichotomy t (tp (rs (fsp r (us h0 n) i) (r i) 9) 9) with g | g | g
            · rw [hz _ g t1] at t2; cases t2
            · exact g
            · rw [t3 _ g ht] at hb; cases hb
          rw [fsp, if_pos e, wid, if_neg h0']
          unfold upd
          rw [← et]
          split
          · rfl
          · exact hf j hj
        · rw [sA_sA]
        · unfold alF
          rw [mk, if_pos (by simp [z2, h0']), one_shl (by omega), nI_or]
  · dsimp only [k_X4_alone_0, k_X4_alone_1, k_X4_alone_4, k_X4_alone_7, k_X4_alone_8, k_X4_alone_9, k_X4_alone_10, k_X4_alone_11, k_X4_alone_14, k_X4_alone_17, k_X4_alone_18, k_X4_alone_19, k_X4_alone_20, k_X4_alone_21, k_X4_alone_24, k_X4_alone_27, k_X4_alone_28, k_X4_alone_31, k_X4_alone_32, k_X4_alone_33, k_X4_alone_35, k_X4_alone_38, k_X4_alone_39, k_X4_alone_42, k_X4_alone_43, k_X4_alone_46, k_X4_alone_47, k_X4_alone_48, k_X4_alone_51, k_X4_alone_54, k_X4_alone_55, k_X4_alone_56, k_X4_alone_57, k_X4_alone_58, k_X4_alone_59, k_X4_alone_60, k_X4_alone_63, k_X4_alone_66, k_X4_alone_67, wp1, wp_s, cutIn, kont, Nat.reduceSub, Nat.reduceAdd, nth, o_const, o_lconst, o_ref, o_iload, o_lload, o_aload, o_istore, o_lstore, o_astore, o_iinc, o_bin, o_div, o_un, o_lbin, o_lsh, o_lcmp, o_i2l, o_l2i, o_if, o_icmp, o_goto, o_dup, o_dup2, o_pop, fav, o_getf, o_putI, o_putZ, o_putL, o_ald, o_ast, o_alen, popn, rst, o_callV, o_callT, o_callS, swx, o_sw, o_ret, o_iret, o_zret, o_cret, o_lret, o_aret, lg, lput, lput2, ls1, isL, entL, wsum, rdI1, rdI2, rdA1, rdA21, rdA22, rdL1, rdL22, rdL21, upN_at, rep, sh_0, F_0_0, F_0_1, F_0_2, F_0_3, F_0_4, F_0_5, F_0_6, F_0_7, F_0_8, sh_1, F_1_0, F_1_1, F_1_2, F_1_3, F_1_4, F_1_5, sh_3, F_3_0, F_3_1, F_3_2, F_3_3, F_3_4, F_3_5, sh_5, F_5_0, F_5_1, F_5_2, F_5_3, F_5_4, F_5_5, F_5_6, F_5_7, F_5_8, sh_12, F_12_0, F_12_1, F_12_2, F_12_3, F_12_4, F_12_5, sh_14, F_14_0, F_14_1, F_14_2, F_14_3, F_14_4, F_14_5, F_14_6, F_14_7, F_14_8, sh_21, F_21_0, F_21_1, F_21_2, F_21_3, F_21_4, F_21_5, F_21_6, F_21_7, F_21_8, sh_28, F_28_0, F_28_1, F_28_2, F_28_3, F_28_4, F_28_5, F_28_6, F_28_7, F_28_8, sh_35, F_35_0, sh_39, F_39_0, F_39_1, F_39_2, F_39_3, F_39_4, F_39_5, F_39_6, F_39_7, F_39_8, F_39_9, F_39_10, F_39_11, F_39_12, F_39_13, A_2, A_4, A_6, A_7, A_8, A_9, A_10, A_11, A_13, A_15, A_16, A_17, A_18, A_19, A_20, A_22, A_23, A_24, A_25, A_26, A_27, A_29, A_30, A_31, A_32, A_33, A_34, A_36, A_37, A_38, A_40, A_41, A_42, A_43, A_44, A_45, A_46, A_47]
    refine ⟨rfl, ?_⟩
    dsimp only [k_X4_alone_0, k_X4_alone_1, k_X4_alone_4, k_X4_alone_7, k_X4_alone_8, k_X4_alone_9, k_X4_alone_10, k_X4_alone_11, k_X4_alone_14, k_X4_alone_17, k_X4_alone_18, k_X4_alone_19, k_X4_alone_20, k_X4_alone_21, k_X4_alone_24, k_X4_alone_27, k_X4_alone_28, k_X4_alone_31, k_X4_alone_32, k_X4_alone_33, k_X4_alone_35, k_X4_alone_38, k_X4_alone_39, k_X4_alone_42, k_X4_alone_43, k_X4_alone_46, k_X4_alone_47, k_X4_alone_48, k_X4_alone_51, k_X4_alone_54, k_X4_alone_55, k_X4_alone_56, k_X4_alone_57, k_X4_alone_58, k_X4_alone_59, k_X4_alone_60, k_X4_alone_63, k_X4_alone_66, k_X4_alone_67, wp1, wp_s, cutIn, kont, Nat.reduceSub, Nat.reduceAdd, nth, o_const, o_lconst, o_ref, o_iload, o_lload, o_aload, o_istore, o_lstore, o_astore, o_iinc, o_bin, o_div, o_un, o_lbin, o_lsh, o_lcmp, o_i2l, o_l2i, o_if, o_icmp, o_goto, o_dup, o_dup2, o_pop, fav, o_getf, o_putI, o_putZ, o_putL, o_ald, o_ast, o_alen, popn, rst, o_callV, o_callT, o_callS, swx, o_sw, o_ret, o_iret, o_zret, o_cret, o_lret, o_aret, lg, lput, lput2, ls1, isL, entL, wsum, rdI1, rdI2, rdA1, rdA21, rdA22, rdL1, rdL22, rdL21, upN_at, rep, sh_0, F_0_0, F_0_1, F_0_2, F_0_3, F_0_4, F_0_5, F_0_6, F_0_7, F_0_8, sh_1, F_1_0, F_1_1, F_1_2, F_1_3, F_1_4, F_1_5, sh_3, F_3_0, F_3_1, F_3_2, F_3_3, F_3_4, F_3_5, sh_5, F_5_0, F_5_1, F_5_2, F_5_3, F_5_4, F_5_5, F_5_6, F_5_7, F_5_8, sh_12, F_12_0, F_12_1, F_12_2, F_12_3, F_12_4, F_12_5, sh_14, F_14_0, F_14_1, F_14_2, F_14_3, F_14_4, F_14_5, F_14_6, F_14_7, F_14_8, sh_21, F_21_0, F_21_1, F_21_2, F_21_3, F_21_4, F_21_5, F_21_6, F_21_7, F_21_8, sh_28, F_28_0, F_28_1, F_28_2, F_28_3, F_28_4, F_28_5, F_28_6, F_28_7, F_28_8, sh_35, F_35_0, sh_39, F_39_0, F_39_1, F_39_2, F_39_3, F_39_4, F_39_5, F_39_6, F_39_7, F_39_8, F_39_9, F_39_10, F_39_11, F_39_12, F_39_13, A_2, A_4, A_6, A_7, A_8, A_9, A_10, A_11, A_13, A_15, A_16, A_17, A_18, A_19, A_20, A_22, A_23, A_24, A_25, A_26, A_27, A_29, A_30, A_31, A_32, A_33, A_34, A_36, A_37, A_38, A_40, A_41, A_42, A_43, A_44, A_45, A_46, A_47]
    refine cut _ _ ⟨rfl, rfl, 0, _, by omega, ?_, rfl, rfl, rfl⟩ (by omega) ⟨rfl, rfl, rfl, rfl, trivial⟩
    intro j hj
    unfold cpy
    rw [if_pos hj]; rfl
set_option maxRecDepth 100000 in
theorem v_X4_opens : ∀ as M post, S_X4_opens as M post → wsum as ≤ 2 ∧ RUN (T_X4_opens post) 0 (entL 2 as) [] M := by
  rintro as M post ⟨x, n, c, p, r, h0, lk, rfl, hX, h1, h2⟩
  have hX0 := hX
  obtain ⟨hn, hn8, hc, hc6, hp, hp4, hr, hhk, hl⟩ := hX
  have hev := ev_lt hp4
  refine ⟨by show 2 ≤ 2; omega, run_wp 60 ?_⟩
  dsimp only [k_X4_opens_0, k_X4_opens_1, k_X4_opens_2, k_X4_opens_5, k_X4_opens_8, k_X4_opens_11, k_X4_opens_14, k_X4_opens_15, k_X4_opens_16, k_X4_opens_17, k_X4_opens_18, k_X4_opens_21, k_X4_opens_22, k_X4_opens_25, k_X4_opens_28, wp1, wp_s, cutIn, kont, Nat.reduceSub, Nat.reduceAdd, nth, o_const, o_lconst, o_ref, o_iload, o_lload, o_aload, o_istore, o_lstore, o_astore, o_iinc, o_bin, o_div, o_un, o_lbin, o_lsh, o_lcmp, o_i2l, o_l2i, o_if, o_icmp, o_goto, o_dup, o_dup2, o_pop, fav, o_getf, o_putI, o_putZ, o_putL, o_ald, o_ast, o_alen, popn, rst, o_callV, o_callT, o_callS, swx, o_sw, o_ret, o_iret, o_zret, o_cret, o_lret, o_aret, lg, lput, lput2, ls1, isL, entL, wsum, rdI1, rdI2, rdA1, rdA21, rdA22, rdL1, rdL22, rdL21, upN_at, rep, sh_0, F_0_0, F_0_1, F_0_2, F_0_3, F_0_4, F_0_5, F_0_6, F_0_7, F_0_8, sh_1, F_1_0, F_1_1, F_1_2, F_1_3, F_1_4, F_1_5, sh_3, F_3_0, F_3_1, F_3_2, F_3_3, F_3_4, F_3_5, sh_5, F_5_0, F_5_1, F_5_2, F_5_3, F_5_4, F_5_5, F_5_6, F_5_7, F_5_8, sh_12, F_12_0, F_12_1, F_12_2, F_12_3, F_12_4, F_12_5, sh_14, F_14_0, F_14_1, F_14_2, F_14_3, F_14_4, F_14_5, F_14_6, F_14_7, F_14_8, sh_21, F_21_0, F_21_1, F_21_2, F_21_3, F_21_4, F_21_5, F_21_6, F_21_7, F_21_8, sh_28, F_28_0, F_28_1, F_28_2, F_28_3, F_28_4, F_28_5, F_28_6, F_28_7, F_28_8, sh_35, F_35_0, sh_39, F_39_0, F_39_1, F_39_2, F_39_3, F_39_4, F_39_5, F_39_6, F_39_7, F_39_8, F_39_9, F_39_10, F_39_11, F_39_12, F_39_13, A_2, A_4, A_6, A_7, A_8, A_9, A_10, A_11, A_13, A_15, A_16, A_17, A_18, A_19, A_20, A_22, A_23, A_24, A_25, A_26, A_27, A_29, A_30, A_31, A_32, A_33, A_34, A_36, A_37, A_38, A_40, A_41, A_42, A_43, A_44, A_45, A_46, A_47]
  refine ⟨p, rfl, hp, hp4, ?_⟩
  dsimp only [k_X4_opens_0, k_X4_opens_1, k_X4_opens_2, k_X4_opens_5, k_X4_opens_8, k_X4_opens_11, k_X4_opens_14, k_X4_opens_15, k_X4_opens_16, k_X4_opens_17, k_X4_opens_18, k_X4_opens_21, k_X4_opens_22, k_X4_opens_25, k_X4_opens_28, wp1, wp_s, cutIn, kont, Nat.reduceSub, Nat.reduceAdd, nth, o_const, o_lconst, o_ref, o_iload, o_lload, o_aload, o_istore, o_lstore, o_astore, o_iinc, o_bin, o_div, o_un, o_lbin, o_lsh, o_lcmp, o_i2l, o_l2i, o_if, o_icmp, o_goto, o_dup, o_dup2, o_pop, fav, o_getf, o_putI, o_putZ, o_putL, o_ald, o_ast, o_alen, popn, rst, o_callV, o_callT, o_callS, swx, o_sw, o_ret, o_iret, o_zret, o_cret, o_lret, o_aret, lg, lput, lput2, ls1, isL, entL, wsum, rdI1, rdI2, rdA1, rdA21, rdA22, rdL1, rdL22, rdL21, upN_at, rep, sh_0, F_0_0, F_0_1, F_0_2, F_0_3, F_0_4, F_0_5, F_0_6, F_0_7, F_0_8, sh_1, F_1_0, F_1_1, F_1_2, F_1_3, F_1_4, F_1_5, sh_3, F_3_0, F_3_1, F_3_2, F_3_3, F_3_4, F_3_5, sh_5, F_5_0, F_5_1, F_5_2, F_5_3, F_5_4, F_5_5, F_5_6, F_5_7, F_5_8, sh_12, F_12_0, F_12_1, F_12_2, F_12_3, F_12_4, F_12_5, sh_14, F_14_0, F_14_1, F_14_2, F_14_3, F_14_4, F_14_5, F_14_6, F_14_7, F_14_8, sh_21, F_21_0, F_21_1, F_21_2, F_21_3, F_21_4, F_21_5, F_21_6, F_21_7, F_21_8, sh_28, F_28_0, F_28_1, F_28_2, F_28_3, F_28_4, F_28_5, F_28_6, F_28_7, F_28_8, sh_35, F_35_0, sh_39, F_39_0, F_39_1, F_39_2, F_39_3, F_39_4, F_39_5, F_39_6, F_39_7, F_39_8, F_39_9, F_39_10, F_39_11, F_39_12, F_39_13, A_2, A_4, A_6, A_7, A_8, A_9, A_10, A_11, A_13, A_15, A_16, A_17, A_18, A_19, A_20, A_22, A_23, A_24, A_25, A_26, A_27, A_29, A_30, A_31, A_32, A_33, A_34, A_36, A_37, A_38, A_40, A_41, A_42, A_43, A_44, A_45, A_46, A_47]
  refine ⟨x, _, rfl, fun z => ?_, fun z => ?_⟩
  · obtain ⟨g, rfl, hg, hgl⟩ := In_at (by omega) z
    dsimp only [k_X4_opens_0, k_X4_opens_1, k_X4_opens_2, k_X4_opens_5, k_X4_opens_8, k_X4_opens_11, k_X4_opens_14, k_X4_opens_15, k_X4_opens_16, k_X4_opens_17, k_X4_opens_18, k_X4_opens_21, k_X4_opens_22, k_X4_opens_25, k_X4_opens_28, wp1, wp_s, cutIn, kont, Nat.reduceSub, Nat.reduceAdd, nth, o_const, o_lconst, o_ref, o_iload, o_lload, o_aload, o_istore, o_lstore, o_astore, o_iinc, o_bin, o_div, o_un, o_lbin, o_lsh, o_lcmp, o_i2l, o_l2i, o_if, o_icmp, o_goto, o_dup, o_dup2, o_pop, fav, o_getf, o_putI, o_putZ, o_putL, o_ald, o_ast, o_alen, popn, rst, o_callV, o_callT, o_callS, swx, o_sw, o_ret, o_iret, o_zret, o_cret, o_lret, o_aret, lg, lput, lput2, ls1, isL, entL, wsum, rdI1, rdI2, rdA1, rdA21, rdA22, rdL1, rdL22, rdL21, upN_at, rep, sh_0, F_0_0, F_0_1, F_0_2, F_0_3, F_0_4, F_0_5, F_0_6, F_0_7, F_0_8, sh_1, F_1_0, F_1_1, F_1_2, F_1_3, F_1_4, F_1_5, sh_3, F_3_0, F_3_1, F_3_2, F_3_3, F_3_4, F_3_5, sh_5, F_5_0, F_5_1, F_5_2, F_5_3, F_5_4, F_5_5, F_5_6, F_5_7, F_5_8, sh_12, F_12_0, F_12_1, F_12_2, F_12_3, F_12_4, F_12_5, sh_14, F_14_0, F_14_1, F_14_2, F_14_3, F_14_4, F_14_5, F_14_6, F_14_7, F_14_8, sh_21, F_21_0, F_21_1, F_21_2, F_21_3, F_21_4, F_21_5, F_21_6, F_21_7, F_21_8, sh_28, F_28_0, F_28_1, F_28_2, F_28_3, F_28_4, F_28_5, F_28_6, F_28_7, F_28_8, sh_35, F_35_0, sh_39, F_39_0, F_39_1, F_39_2, F_39_3, F_39_4, F_39_5, F_39_6, F_39_7, F_39_8, F_39_9, F_39_10, F_39_11, F_39_12, F_39_13, A_2, A_4, A_6, A_7, A_8, A_9, A_10, A_11, A_13, A_15, A_16, A_17, A_18, A_19, A_20, A_22, A_23, A_24, A_25, A_26, A_27, A_29, A_30, A_31, A_32, A_33, A_34, A_36, A_37, A_38, A_40, A_41, A_42, A_43, A_44, A_45, A_46, A_47]
    refine ⟨fun q => absurd q (by decide), fun _ => ⟨g, p, n, rfl, by omega, hp, hp4, hn, hn8, ?_⟩⟩
    rw [show mk (hh (M.2.2 3) g p) n = hd h0 g p n from hd_congr hhk _ p]
    have hdl := hd_lt h0 g p hn8
    dsimp only [k_X4_opens_0, k_X4_opens_1, k_X4_opens_2, k_X4_opens_5, k_X4_opens_8, k_X4_opens_11, k_X4_opens_14, k_X4_opens_15, k_X4_opens_16, k_X4_opens_17, k_X4_opens_18, k_X4_opens_21, k_X4_opens_22, k_X4_opens_25, k_X4_opens_28, wp1, wp_s, cutIn, kont, Nat.reduceSub, Nat.reduceAdd, nth, o_const, o_lconst, o_ref, o_iload, o_lload, o_aload, o_istore, o_lstore, o_astore, o_iinc, o_bin, o_div, o_un, o_lbin, o_lsh, o_lcmp, o_i2l, o_l2i, o_if, o_icmp, o_goto, o_dup, o_dup2, o_pop, fav, o_getf, o_putI, o_putZ, o_putL, o_ald, o_ast, o_alen, popn, rst, o_callV, o_callT, o_callS, swx, o_sw, o_ret, o_iret, o_zret, o_cret, o_lret, o_aret, lg, lput, lput2, ls1, isL, entL, wsum, rdI1, rdI2, rdA1, rdA21, rdA22, rdL1, rdL22, rdL21, upN_at, rep, sh_0, F_0_0, F_0_1, F_0_2, F_0_3, F_0_4, F_0_5, F_0_6, F_0_7, F_0_8, sh_1, F_1_0, F_1_1, F_1_2, F_1_3, F_1_4, F_1_5, sh_3, F_3_0, F_3_1, F_3_2, F_3_3, F_3_4, F_3_5, sh_5, F_5_0, F_5_1, F_5_2, F_5_3, F_5_4, F_5_5, F_5_6, F_5_7, F_5_8, sh_12, F_12_0, F_12_1, F_12_2, F_12_3, F_12_4, F_12_5, sh_14, F_14_0, F_14_1, F_14_2, F_14_3, F_14_4, F_14_5, F_14_6, F_14_7, F_14_8, sh_21, F_21_0, F_21_1, F_21_2, F_21_3, F_21_4, F_21_5, F_21_6, F_21_7, F_21_8, sh_28, F_28_0, F_28_1, F_28_2, F_28_3, F_28_4, F_28_5, F_28_6, F_28_7, F_28_8, sh_35, F_35_0, sh_39, F_39_0, F_39_1, F_39_2, F_39_3, F_39_4, F_39_5, F_39_6, F_39_7, F_39_8, F_39_9, F_39_10, F_39_11, F_39_12, F_39_13, A_2, A_4, A_6, A_7, A_8, A_9, A_10, A_11, A_13, A_15, A_16, A_17, A_18, A_19, A_20, A_22, A_23, A_24, A_25, A_26, A_27, A_29, A_30, A_31, A_32, A_33, A_34, A_36, A_37, A_38, A_40, A_41, A_42, A_43, A_44, A_45, A_46, A_47]
    refine ⟨_, n, c, p, r, h0, lk, rfl, by omega, hX0, fun f => ?_⟩
    dsimp only [k_X4_opens_0, k_X4_opens_1, k_X4_opens_2, k_X4_opens_5, k_X4_opens_8, k_X4_opens_11, k_X4_opens_14, k_X4_opens_15, k_X4_opens_16, k_X4_opens_17, k_X4_opens_18, k_X4_opens_21, k_X4_opens_22, k_X4_opens_25, k_X4_opens_28, wp1, wp_s, cutIn, kont, Nat.reduceSub, Nat.reduceAdd, nth, o_const, o_lconst, o_ref, o_iload, o_lload, o_aload, o_istore, o_lstore, o_astore, o_iinc, o_bin, o_div, o_un, o_lbin, o_lsh, o_lcmp, o_i2l, o_l2i, o_if, o_icmp, o_goto, o_dup, o_dup2, o_pop, fav, o_getf, o_putI, o_putZ, o_putL, o_ald, o_ast, o_alen, popn, rst, o_callV, o_callT, o_callS, swx, o_sw, o_ret, o_iret, o_zret, o_cret, o_lret, o_aret, lg, lput, lput2, ls1, isL, entL, wsum, rdI1, rdI2, rdA1, rdA21, rdA22, rdL1, rdL22, rdL21, upN_at, rep, sh_0, F_0_0, F_0_1, F_0_2, F_0_3, F_0_4, F_0_5, F_0_6, F_0_7, F_0_8, sh_1, F_1_0, F_1_1, F_1_2, F_1_3, F_1_4, F_1_5, sh_3, F_3_0, F_3_1, F_3_2, F_3_3, F_3_4, F_3_5, sh_5, F_5_0, F_5_1, F_5_2, F_5_3, F_5_4, F_5_5, F_5_6, F_5_7, F_5_8, sh_12, F_12_0, F_12_1, F_12_2, F_12_3, F_12_4, F_12_5, sh_14, F_14_0, F_14_1, F_14_2, F_14_3, F_14_4, F_14_5, F_14_6, F_14_7, F_14_8, sh_21, F_21_0, F_21_1, F_21_2, F_21_3, F_21_4, F_21_5, F_21_6, F_21_7, F_21_8, sh_28, F_28_0, F_28_1, F_28_2, F_28_3, F_28_4, F_28_5, F_28_6, F_28_7, F_28_8, sh_35, F_35_0, sh_39, F_39_0, F_39_1, F_39_2, F_39_3, F_39_4, F_39_5, F_39_6, F_39_7, F_39_8, F_39_9, F_39_10, F_39_11, F_39_12, F_39_13, A_2, A_4, A_6, A_7, A_8, A_9, A_10, A_11, A_13, A_15, A_16, A_17, A_18, A_19, A_20, A_22, A_23, A_24, A_25, A_26, A_27, A_29, A_30, A_31, A_32, A_33, A_34, A_36, A_37, A_38, A_40, A_41, A_42, A_43, A_44, A_45, A_46, A_47]
    exact h2 g rfl hg f
  · dsimp only [k_X4_opens_0, k_X4_opens_1, k_X4_opens_2, k_X4_opens_5, k_X4_opens_8, k_X4_opens_11, k_X4_opens_14, k_X4_opens_15, k_X4_opens_16, k_X4_opens_17, k_X4_opens_18, k_X4_opens_21, k_X4_opens_22, k_X4_opens_25, k_X4_opens_28, wp1, wp_s, cutIn, kont, Nat.reduceSub, Nat.reduceAdd, nth, o_const, o_lconst, o_ref, o_iload, o_lload, o_aload, o_istore, o_lstore, o_astore, o_iinc, o_bin, o_div, o_un, o_lbin, o_lsh, o_lcmp, o_i2l, o_l2i, o_if, o_icmp, o_goto, o_dup, o_dup2, o_pop, fav, o_getf, o_putI, o_putZ, o_putL, o_ald, o_ast, o_alen, popn, rst, o_callV, o_callT, o_callS, swx, o_sw, o_ret, o_iret, o_zret, o_cret, o_lret, o_aret, lg, lput, lput2, ls1, isL, entL, wsum, rdI1, rdI2, rdA1, rdA21, rdA22, rdL1, rdL22, rdL21, upN_at, rep, sh_0, F_0_0, F_0_1, F_0_2, F_0_3, F_0_4, F_0_5, F_0_6, F_0_7, F_0_8, sh_1, F_1_0, F_1_1, F_1_2, F_1_3, F_1_4, F_1_5, sh_3, F_3_0, F_3_1, F_3_2, F_3_3, F_3_4, F_3_5, sh_5, F_5_0, F_5_1, F_5_2, F_5_3, F_5_4, F_5_5, F_5_6, F_5_7, F_5_8, sh_12, F_12_0, F_12_1, F_12_2, F_12_3, F_12_4, F_12_5, sh_14, F_14_0, F_14_1, F_14_2, F_14_3, F_14_4, F_14_5, F_14_6, F_14_7, F_14_8, sh_21, F_21_0, F_21_1, F_21_2, F_21_3, F_21_4, F_21_5, F_21_6, F_21_7, F_21_8, sh_28, F_28_0, F_28_1, F_28_2, F_28_3, F_28_4, F_28_5, F_28_6, F_28_7, F_28_8, sh_35, F_35_0, sh_39, F_39_0, F_39_1, F_39_2, F_39_3, F_39_4, F_39_5, F_39_6, F_39_7, F_39_8, F_39_9, F_39_10, F_39_11, F_39_12, F_39_13, A_2, A_4, A_6, A_7, A_8, A_9, A_10, A_11, A_13, A_15, A_16, A_17, A_18, A_19, A_20, A_22, A_23, A_24, A_25, A_26, A_27, A_29, A_30, A_31, A_32, A_33, A_34, A_36, A_37, A_38, A_40, A_41, A_42, A_43, A_44, A_45, A_46, A_47]
    exact ⟨fun _ => h1 z, fun q => absurd rfl q⟩
theorem c_X4_alone : Ctr yX4_alone cX4_alone 4 (some .int) ({ frames := 2, cells := 0, slots := 0, locals := 46 } : Room) S_X4_alone := ctr_of (T := T_X4_alone) (by decide +kernel) (fun post C hr => t_X4_alone post C hr) v_X4_alone
theorem c_X4_opens : Ctr yX4_opens cX4_opens 2 (some .int) ({ frames := 4, cells := 0, slots := 0, locals := 91 } : Room) S_X4_opens := ctr_of (T := T_X4_opens) (by decide +kernel) (fun post C hr => t_X4_opens post C hr) v_X4_opens
