/-! The class's wishes, what is wanting: the rest. -/
/-- a row that would do -/
def Wsh (B : Nat → Nat) (v : Nat) (b : Nat → Int32) (row : Nat) : Prop := b row = 0 ∧ (rs B v 9 = 0 ∨ rs B row 9 = rs B v 9)
def S_X4_leastWish : SP := fun as M post => ∃ g v n c p r h lk, as = [VR 0, VI (nI g), VI (nI v)] ∧ g < 16 ∧ v < 512 ∧ XW M n c p r h lk ∧
  (∀ row, row < 512 → Wsh (fsp r (hd h g p n) n) v (M.2.2 28) row → (∀ j, j < row → ¬ Wsh (fsp r (hd h g p n) n) v (M.2.2 28) j) → ∀ f, post (some (VI (nI row))) (sA 27 f M)) ∧
  ((∀ row, row < 512 → ¬ Wsh (fsp r (hd h g p n) n) v (M.2.2 28) row) → ∀ f, post (some (VI (-9))) (sA 27 f M))
/-- the keys that are not lost -/
def us (h : Nat → Int32) (n : Nat) : Nat := mk (fun k => !(h k == -3)) n
def S_X4_noteLacks : SP := fun as M post => ∃ n c p r h lk, as = [VR 0] ∧ XW M n c p r h lk ∧ ∀ f g, (∀ j, j < 9 → f j = nI (fsp r (us h n) n j)) → (∀ l, l < c → g l = nI (rs (fsp r (us h n) n) (lk l) 9)) → post none (sA 29 g (sA 27 f M))
/-- how many of the first n -/
def ct (P : Nat → Bool) : Nat → Nat
  | 0 => 0
  | n + 1 => ct P n + (if P n = true then 1 else 0)
theorem ct_le (P : Nat → Bool) : ∀ n, ct P n ≤ n := by
  intro n
  induction n with
  | zero => exact Nat.le_refl 0
  | succ n ih => rw [ct]; split <;> omega
def S_X4_openedWith : SP := fun as M post => ∃ v B n c p r h lk, ∃ e : Nat → Nat, as = [VR 0, VI (nI v)] ∧ v < 512 ∧ isB M B ∧ XW M n c p r h lk ∧ (∀ l, l < c → M.2.2 29 l = nI (e l) ∧ e l < 512) ∧ post (some (VI (nI (ct (fun l => e l == 0 || e l == rs B v 9) c)))) M
theorem dX4_leastWish_0 : decode cX4_leastWish 0 = .ok (.aload_n 0, 1) := by decide +kernel
theorem dX4_leastWish_1 : decode cX4_leastWish 1 = .ok (.aload_n 0, 1) := by decide +kernel
theorem dX4_leastWish_2 : decode cX4_leastWish 2 = .ok (.getfield 19, 3) := by decide +kernel
theorem dX4_leastWish_5 : decode cX4_leastWish 5 = .ok (.iload_n 1, 1) := by decide +kernel
theorem dX4_leastWish_6 : decode cX4_leastWish 6 = .ok (.invokevirtual 140, 3) := by decide +kernel
theorem dX4_leastWish_9 : decode cX4_leastWish 9 = .ok (.invokevirtual 169, 3) := by decide +kernel
theorem dX4_leastWish_12 : decode cX4_leastWish 12 = .ok (.aload_n 0, 1) := by decide +kernel
theorem dX4_leastWish_13 : decode cX4_leastWish 13 = .ok (.getfield 39, 3) := by decide +kernel
theorem dX4_leastWish_16 : decode cX4_leastWish 16 = .ok (.iload_n 2, 1) := by decide +kernel
theorem dX4_leastWish_17 : decode cX4_leastWish 17 = .ok (.invokevirtual 224, 3) := by decide +kernel
theorem dX4_leastWish_20 : decode cX4_leastWish 20 = .ok (.istore_n 3, 1) := by decide +kernel
theorem dX4_leastWish_21 : decode cX4_leastWish 21 = .ok (.iconst 0, 1) := by decide +kernel
theorem dX4_leastWish_22 : decode cX4_leastWish 22 = .ok (.istore 4, 2) := by decide +kernel
theorem dX4_leastWish_24 : decode cX4_leastWish 24 = .ok (.iload 4, 2) := by decide +kernel
theorem dX4_leastWish_26 : decode cX4_leastWish 26 = .ok (.sipush 512, 3) := by decide +kernel
theorem dX4_leastWish_29 : decode cX4_leastWish 29 = .ok (.if_icmp .ge 39, 3) := by decide +kernel
theorem dX4_leastWish_32 : decode cX4_leastWish 32 = .ok (.aload_n 0, 1) := by decide +kernel
theorem dX4_leastWish_33 : decode cX4_leastWish 33 = .ok (.getfield 43, 3) := by decide +kernel
theorem dX4_leastWish_36 : decode cX4_leastWish 36 = .ok (.iload 4, 2) := by decide +kernel
theorem dX4_leastWish_38 : decode cX4_leastWish 38 = .ok (.baload, 1) := by decide +kernel
theorem dX4_leastWish_39 : decode cX4_leastWish 39 = .ok (.ifCond .ne 23, 3) := by decide +kernel
theorem dX4_leastWish_42 : decode cX4_leastWish 42 = .ok (.iload_n 3, 1) := by decide +kernel
theorem dX4_leastWish_43 : decode cX4_leastWish 43 = .ok (.ifCond .eq 16, 3) := by decide +kernel
theorem dX4_leastWish_46 : decode cX4_leastWish 46 = .ok (.aload_n 0, 1) := by decide +kernel
theorem dX4_leastWish_47 : decode cX4_leastWish 47 = .ok (.getfield 39, 3) := by decide +kernel
theorem dX4_leastWish_50 : decode cX4_leastWish 50 = .ok (.iload 4, 2) := by decide +kernel
theorem dX4_leastWish_52 : decode cX4_leastWish 52 = .ok (.invokevirtual 224, 3) := by decide +kernel
theorem dX4_leastWish_55 : decode cX4_leastWish 55 = .ok (.iload_n 3, 1) := by decide +kernel
theorem dX4_leastWish_56 : decode cX4_leastWish 56 = .ok (.if_icmp .ne 6, 3) := by decide +kernel
theorem dX4_leastWish_59 : decode cX4_leastWish 59 = .ok (.iload 4, 2) := by decide +kernel
theorem dX4_leastWish_61 : decode cX4_leastWish 61 = .ok (.ireturn, 1) := by decide +kernel
theorem dX4_leastWish_62 : decode cX4_leastWish 62 = .ok (.iinc 4 1, 3) := by decide +kernel
theorem dX4_leastWish_65 : decode cX4_leastWish 65 = .ok (.goto (-41), 3) := by decide +kernel
theorem dX4_leastWish_68 : decode cX4_leastWish 68 = .ok (.bipush (-9), 2) := by decide +kernel
theorem dX4_leastWish_70 : decode cX4_leastWish 70 = .ok (.ireturn, 1) := by decide +kernel
def T_X4_leastWish (post : PO) : List (Nat × OP) := [(0, o_aload 0 1), (1, o_aload 0 2), (2, o_getf 4 1 5), (5, o_iload 1 6), (6, o_callV 0 S_X0_heldBy 1 9), (9, o_callV 4 S_X4_fillSpan 1 12), (12, o_aload 0 13), (13, o_getf 4 5 16), (16, o_iload 2 17), (17, o_callV 2 S_X2_rest 1 20), (20, o_istore 3 21), (21, o_const 0 22), (22, o_istore 4 24), (24, o_iload 4 26), (26, o_const 512 29), (29, o_icmp (fun x y => y ≤ x) 68 32), (32, o_aload 0 33), (33, o_getf 4 6 36), (36, o_iload 4 38), (38, o_ald 2 39), (39, o_if (fun x => x = 0) 42 62), (42, o_iload 3 43), (43, o_if (fun x => x = 0) 59 46), (46, o_aload 0 47), (47, o_getf 4 5 50), (50, o_iload 4 52), (52, o_callV 2 S_X2_rest 1 55), (55, o_iload 3 56), (56, o_icmp (fun x y => x = y) 59 62), (59, o_iload 4 61), (61, o_iret post), (62, o_iinc 4 1 65), (65, o_goto 24), (68, o_const (-9) 70), (70, o_iret post)]
theorem k_X4_leastWish_0 (post : PO) : lk (T_X4_leastWish post) 0 = o_aload 0 1 := rfl
theorem k_X4_leastWish_1 (post : PO) : lk (T_X4_leastWish post) 1 = o_aload 0 2 := rfl
theorem k_X4_leastWish_2 (post : PO) : lk (T_X4_leastWish post) 2 = o_getf 4 1 5 := rfl
theorem k_X4_leastWish_5 (post : PO) : lk (T_X4_leastWish post) 5 = o_iload 1 6 := rfl
theorem k_X4_leastWish_6 (post : PO) : lk (T_X4_leastWish post) 6 = o_callV 0 S_X0_heldBy 1 9 := rfl
theorem k_X4_leastWish_9 (post : PO) : lk (T_X4_leastWish post) 9 = o_callV 4 S_X4_fillSpan 1 12 := rfl
theorem k_X4_leastWish_12 (post : PO) : lk (T_X4_leastWish post) 12 = o_aload 0 13 := rfl
theorem k_X4_leastWish_13 (post : PO) : lk (T_X4_leastWish post) 13 = o_getf 4 5 16 := rfl
theorem k_X4_leastWish_16 (post : PO) : lk (T_X4_leastWish post) 16 = o_iload 2 17 := rfl
theorem k_X4_leastWish_17 (post : PO) : lk (T_X4_leastWish post) 17 = o_callV 2 S_X2_rest 1 20 := rfl
theorem k_X4_leastWish_20 (post : PO) : lk (T_X4_leastWish post) 20 = o_istore 3 21 := rfl
theorem k_X4_leastWish_21 (post : PO) : lk (T_X4_leastWish post) 21 = o_const 0 22 := rfl
theorem k_X4_leastWish_22 (post : PO) : lk (T_X4_leastWish post) 22 = o_istore 4 24 := rfl
theorem k_X4_leastWish_24 (post : PO) : lk (T_X4_leastWish post) 24 = o_iload 4 26 := rfl
theorem k_X4_leastWish_26 (post : PO) : lk (T_X4_leastWish post) 26 = o_const 512 29 := rfl
theorem k_X4_leastWish_29 (post : PO) : lk (T_X4_leastWish post) 29 = o_icmp (fun x y => y ≤ x) 68 32 := rfl
theorem k_X4_leastWish_32 (post : PO) : lk (T_X4_leastWish post) 32 = o_aload 0 33 := rfl
theorem k_X4_leastWish_33 (post : PO) : lk (T_X4_leastWish post) 33 = o_getf 4 6 36 := rfl
theorem k_X4_leastWish_36 (post : PO) : lk (T_X4_leastWish post) 36 = o_iload 4 38 := rfl
theorem k_X4_leastWish_38 (post : PO) : lk (T_X4_leastWish post) 38 = o_ald 2 39 := rfl
theorem k_X4_leastWish_39 (post : PO) : lk (T_X4_leastWish post) 39 = o_if (fun x => x = 0) 42 62 := rfl
theorem k_X4_leastWish_42 (post : PO) : lk (T_X4_leastWish post) 42 = o_iload 3 43 := rfl
theorem k_X4_leastWish_43 (post : PO) : lk (T_X4_leastWish post) 43 = o_if (fun x => x = 0) 59 46 := rfl
theorem k_X4_leastWish_46 (post : PO) : lk (T_X4_leastWish post) 46 = o_aload 0 47 := rfl
theorem k_X4_leastWish_47 (post : PO) : lk (T_X4_leastWish post) 47 = o_getf 4 5 50 := rfl
theorem k_X4_leastWish_50 (post : PO) : lk (T_X4_leastWish post) 50 = o_iload 4 52 := rfl
theorem k_X4_leastWish_52 (post : PO) : lk (T_X4_leastWish post) 52 = o_callV 2 S_X2_rest 1 55 := rfl
theorem k_X4_leastWish_55 (post : PO) : lk (T_X4_leastWish post) 55 = o_iload 3 56 := rfl
theorem k_X4_leastWish_56 (post : PO) : lk (T_X4_leastWish post) 56 = o_icmp (fun x y => x = y) 59 62 := rfl
theorem k_X4_leastWish_59 (post : PO) : lk (T_X4_leastWish post) 59 = o_iload 4 61 := rfl
theorem k_X4_leastWish_61 (post : PO) : lk (T_X4_leastWish post) 61 = o_iret post := rfl
theorem k_X4_leastWish_62 (post : PO) : lk (T_X4_leastWish post) 62 = o_iinc 4 1 65 := rfl
theorem k_X4_leastWish_65 (post : PO) : lk (T_X4_leastWish post) 65 = o_goto 24 := rfl
theorem k_X4_leastWish_68 (post : PO) : lk (T_X4_leastWish post) 68 = o_const (-9) 70 := rfl
theorem k_X4_leastWish_70 (post : PO) : lk (T_X4_leastWish post) 70 = o_iret post := rfl
set_option maxRecDepth 100000 in
theorem t_X4_leastWish {p : Program} {l : Launch} {e : Env} {s : State} {m : MethodId} {args : Array Value} {below : List Frame} {meth : Method} {c : Code} {D : va_G} {dA : Nat → ClassId} {ad : Nat → Nat} (post : PO) (C : CX p s m args meth c cX4_leastWish 5 yX4_leastWish.cls D dA ad (AA ad s.heap.size)) (hr : meth.sig.returnType = (some .int)) : SndL (WW p l e ({ frames := 3, cells := 0, slots := 0, locals := 68 } : Room) s m args below meth c 0 0 (MQ below (CQ D dA ad post (AA ad s.heap.size)) args s 0 0 (AA ad s.heap.size)) 5 D dA ad (AA ad s.heap.size)) (T_X4_leastWish post) := by
  refine snd_c (s_aload_n C rfl dX4_leastWish_0) ?_
  refine snd_c (s_aload_n C rfl dX4_leastWish_1) ?_
  refine snd_c (s_getf C (ci := 4) (j := 1) (T := TX4) rfl inX4 (by decide) fl_RX4_19 dX4_leastWish_2) ?_
  refine snd_c (s_iload_n C rfl dX4_leastWish_5) ?_
  refine snd_c (s_callV C (ci := 0) c_X0_heldBy rfl cw_RX4_140 ⟨rfl, rfl⟩ ⟨by decide +kernel, by decide +kernel, by decide +kernel⟩ ⟨by decide, by decide⟩ ⟨Nat.zero_le _, Nat.zero_le _⟩ dX4_leastWish_6) ?_
  refine snd_c (s_callV C (ci := 4) c_X4_fillSpan rfl cw_RX4_169 ⟨rfl, rfl⟩ ⟨by decide +kernel, by decide +kernel, by decide +kernel⟩ ⟨by decide, by decide⟩ ⟨Nat.zero_le _, Nat.zero_le _⟩ dX4_leastWish_9) ?_
  refine snd_c (s_aload_n C rfl dX4_leastWish_12) ?_
  refine snd_c (s_getf C (ci := 4) (j := 5) (T := TX4) rfl inX4 (by decide) fl_RX4_39 dX4_leastWish_13) ?_
  refine snd_c (s_iload_n C rfl dX4_leastWish_16) ?_
  refine snd_c (s_callV C (ci := 2) c_X2_rest rfl cw_RX4_224 ⟨rfl, rfl⟩ ⟨by decide +kernel, by decide +kernel, by decide +kernel⟩ ⟨by decide, by decide⟩ ⟨Nat.zero_le _, Nat.zero_le _⟩ dX4_leastWish_17) ?_
  refine snd_c (s_istore_n C rfl (by decide) dX4_leastWish_20) ?_
  refine snd_c (s_iconst C dX4_leastWish_21 rfl) ?_
  refine snd_c (s_istore C (by decide) dX4_leastWish_22) ?_
  refine snd_c (s_iload C dX4_leastWish_24) ?_
  refine snd_c (s_sipush C dX4_leastWish_26 rfl) ?_
  refine snd_c (s_icmp_ge C dX4_leastWish_29 (by decide)) ?_
  refine snd_c (s_aload_n C rfl dX4_leastWish_32) ?_
  refine snd_c (s_getf C (ci := 4) (j := 6) (T := TX4) rfl inX4 (by decide) fl_RX4_43 dX4_leastWish_33) ?_
  refine snd_c (s_iload C dX4_leastWish_36) ?_
  refine snd_c (s_bald2 C dX4_leastWish_38) ?_
  refine snd_c (s_if_ne C dX4_leastWish_39 (by decide)) ?_
  refine snd_c (s_iload_n C rfl dX4_leastWish_42) ?_
  refine snd_c (s_if_eq C dX4_leastWish_43 (by decide)) ?_
  refine snd_c (s_aload_n C rfl dX4_leastWish_46) ?_
  refine snd_c (s_getf C (ci := 4) (j := 5) (T := TX4) rfl inX4 (by decide) fl_RX4_39 dX4_leastWish_47) ?_
  refine snd_c (s_iload C dX4_leastWish_50) ?_
  refine snd_c (s_callV C (ci := 2) c_X2_rest rfl cw_RX4_224 ⟨rfl, rfl⟩ ⟨by decide +kernel, by decide +kernel, by decide +kernel⟩ ⟨by decide, by decide⟩ ⟨Nat.zero_le _, Nat.zero_le _⟩ dX4_leastWish_52) ?_
  refine snd_c (s_iload_n C rfl dX4_leastWish_55) ?_
  refine snd_c (s_icmp_ne C dX4_leastWish_56 (by decide)) ?_
  refine snd_c (s_iload C dX4_leastWish_59) ?_
  refine snd_c (s_iret C hr dX4_leastWish_61) ?_
  refine snd_c (s_iinc C (by decide) rfl dX4_leastWish_62) ?_
  refine snd_c (s_goto C dX4_leastWish_65 (by decide)) ?_
  refine snd_c (s_bipush C dX4_leastWish_68 rfl) ?_
  refine snd_c (s_iret C hr dX4_leastWish_70) ?_
  exact trivial
theorem cw_RX4_93 : ∀ w ∈ ([.methodLink RX4 93 yX1_usable, .instanceMethod yX1_usable, .selects yX1_usable.cls yX1_usable yX1_usable, .initialized yX1_usable.cls, .code yX1_usable cX1_usable 1 (some .int)] : List Cond), w ∈ tb := tb_all [397, 398, 399, 57, 400] (by decide +kernel) (by decide +kernel)
theorem fl_RX4_47 : Cond.fieldLink RX4 47 (TX4 7).1 (TX4 7).2.1 (TX4 7).2.2.1 ∈ tb := tb_of 192 (by decide +kernel) (by decide +kernel)
theorem dX4_noteLacks_0 : decode cX4_noteLacks 0 = .ok (.aload_n 0, 1) := by decide +kernel
theorem dX4_noteLacks_1 : decode cX4_noteLacks 1 = .ok (.aload_n 0, 1) := by decide +kernel
theorem dX4_noteLacks_2 : decode cX4_noteLacks 2 = .ok (.getfield 19, 3) := by decide +kernel
theorem dX4_noteLacks_5 : decode cX4_noteLacks 5 = .ok (.getfield 71, 3) := by decide +kernel
theorem dX4_noteLacks_8 : decode cX4_noteLacks 8 = .ok (.invokevirtual 93, 3) := by decide +kernel
theorem dX4_noteLacks_11 : decode cX4_noteLacks 11 = .ok (.invokevirtual 169, 3) := by decide +kernel
theorem dX4_noteLacks_14 : decode cX4_noteLacks 14 = .ok (.iconst 0, 1) := by decide +kernel
theorem dX4_noteLacks_15 : decode cX4_noteLacks 15 = .ok (.istore_n 1, 1) := by decide +kernel
theorem dX4_noteLacks_16 : decode cX4_noteLacks 16 = .ok (.iload_n 1, 1) := by decide +kernel
theorem dX4_noteLacks_17 : decode cX4_noteLacks 17 = .ok (.aload_n 0, 1) := by decide +kernel
theorem dX4_noteLacks_18 : decode cX4_noteLacks 18 = .ok (.getfield 19, 3) := by decide +kernel
theorem dX4_noteLacks_21 : decode cX4_noteLacks 21 = .ok (.getfield 208, 3) := by decide +kernel
theorem dX4_noteLacks_24 : decode cX4_noteLacks 24 = .ok (.if_icmp .ge 31, 3) := by decide +kernel
theorem dX4_noteLacks_27 : decode cX4_noteLacks 27 = .ok (.aload_n 0, 1) := by decide +kernel
theorem dX4_noteLacks_28 : decode cX4_noteLacks 28 = .ok (.getfield 47, 3) := by decide +kernel
theorem dX4_noteLacks_31 : decode cX4_noteLacks 31 = .ok (.iload_n 1, 1) := by decide +kernel
theorem dX4_noteLacks_32 : decode cX4_noteLacks 32 = .ok (.aload_n 0, 1) := by decide +kernel
theorem dX4_noteLacks_33 : decode cX4_noteLacks 33 = .ok (.getfield 39, 3) := by decide +kernel
theorem dX4_noteLacks_36 : decode cX4_noteLacks 36 = .ok (.aload_n 0, 1) := by decide +kernel
theorem dX4_noteLacks_37 : decode cX4_noteLacks 37 = .ok (.getfield 19, 3) := by decide +kernel
theorem dX4_noteLacks_40 : decode cX4_noteLacks 40 = .ok (.getfield 90, 3) := by decide +kernel
theorem dX4_noteLacks_43 : decode cX4_noteLacks 43 = .ok (.iload_n 1, 1) := by decide +kernel
theorem dX4_noteLacks_44 : decode cX4_noteLacks 44 = .ok (.iaload, 1) := by decide +kernel
theorem dX4_noteLacks_45 : decode cX4_noteLacks 45 = .ok (.invokevirtual 224, 3) := by decide +kernel
theorem dX4_noteLacks_48 : decode cX4_noteLacks 48 = .ok (.iastore, 1) := by decide +kernel
theorem dX4_noteLacks_49 : decode cX4_noteLacks 49 = .ok (.iinc 1 1, 3) := by decide +kernel
theorem dX4_noteLacks_52 : decode cX4_noteLacks 52 = .ok (.goto (-36), 3) := by decide +kernel
theorem dX4_noteLacks_55 : decode cX4_noteLacks 55 = .ok (.return_, 1) := by decide +kernel
def T_X4_noteLacks (post : PO) : List (Nat × OP) := [(0, o_aload 0 1), (1, o_aload 0 2), (2, o_getf 4 1 5), (5, o_getf 0 0 8), (8, o_callV 1 S_X1_usable 0 11), (11, o_callV 4 S_X4_fillSpan 1 14), (14, o_const 0 15), (15, o_istore 1 16), (16, o_iload 1 17), (17, o_aload 0 18), (18, o_getf 4 1 21), (21, o_getf 0 2 24), (24, o_icmp (fun x y => y ≤ x) 55 27), (27, o_aload 0 28), (28, o_getf 4 7 31), (31, o_iload 1 32), (32, o_aload 0 33), (33, o_getf 4 5 36), (36, o_aload 0 37), (37, o_getf 4 1 40), (40, o_getf 0 1 43), (43, o_iload 1 44), (44, o_ald 0 45), (45, o_callV 2 S_X2_rest 1 48), (48, o_ast 0 (fun x => x) 49), (49, o_iinc 1 1 52), (52, o_goto 16), (55, o_ret post)]
theorem k_X4_noteLacks_0 (post : PO) : lk (T_X4_noteLacks post) 0 = o_aload 0 1 := rfl
theorem k_X4_noteLacks_1 (post : PO) : lk (T_X4_noteLacks post) 1 = o_aload 0 2 := rfl
theorem k_X4_noteLacks_2 (post : PO) : lk (T_X4_noteLacks post) 2 = o_getf 4 1 5 := rfl
theorem k_X4_noteLacks_5 (post : PO) : lk (T_X4_noteLacks post) 5 = o_getf 0 0 8 := rfl
theorem k_X4_noteLacks_8 (post : PO) : lk (T_X4_noteLacks post) 8 = o_callV 1 S_X1_usable 0 11 := rfl
theorem k_X4_noteLacks_11 (post : PO) : lk (T_X4_noteLacks post) 11 = o_callV 4 S_X4_fillSpan 1 14 := rfl
theorem k_X4_noteLacks_14 (post : PO) : lk (T_X4_noteLacks post) 14 = o_const 0 15 := rfl
theorem k_X4_noteLacks_15 (post : PO) : lk (T_X4_noteLacks post) 15 = o_istore 1 16 := rfl
theorem k_X4_noteLacks_16 (post : PO) : lk (T_X4_noteLacks post) 16 = o_iload 1 17 := rfl
theorem k_X4_noteLacks_17 (post : PO) : lk (T_X4_noteLacks post) 17 = o_aload 0 18 := rfl
theorem k_X4_noteLacks_18 (post : PO) : lk (T_X4_noteLacks post) 18 = o_getf 4 1 21 := rfl
theorem k_X4_noteLacks_21 (post : PO) : lk (T_X4_noteLacks post) 21 = o_getf 0 2 24 := rfl
theorem k_X4_noteLacks_24 (post : PO) : lk (T_X4_noteLacks post) 24 = o_icmp (fun x y => y ≤ x) 55 27 := rfl
theorem k_X4_noteLacks_27 (post : PO) : lk (T_X4_noteLacks post) 27 = o_aload 0 28 := rfl
theorem k_X4_noteLacks_28 (post : PO) : lk (T_X4_noteLacks post) 28 = o_getf 4 7 31 := rfl
theorem k_X4_noteLacks_31 (post : PO) : lk (T_X4_noteLacks post) 31 = o_iload 1 32 := rfl
theorem k_X4_noteLacks_32 (post : PO) : lk (T_X4_noteLacks post) 32 = o_aload 0 33 := rfl
theorem k_X4_noteLacks_33 (post : PO) : lk (T_X4_noteLacks post) 33 = o_getf 4 5 36 := rfl
theorem k_X4_noteLacks_36 (post : PO) : lk (T_X4_noteLacks post) 36 = o_aload 0 37 := rfl
theorem k_X4_noteLacks_37 (post : PO) : lk (T_X4_noteLacks post) 37 = o_getf 4 1 40 := rfl
theorem k_X4_noteLacks_40 (post : PO) : lk (T_X4_noteLacks post) 40 = o_getf 0 1 43 := rfl
theorem k_X4_noteLacks_43 (post : PO) : lk (T_X4_noteLacks post) 43 = o_iload 1 44 := rfl
theorem k_X4_noteLacks_44 (post : PO) : lk (T_X4_noteLacks post) 44 = o_ald 0 45 := rfl
theorem k_X4_noteLacks_45 (post : PO) : lk (T_X4_noteLacks post) 45 = o_callV 2 S_X2_rest 1 48 := rfl
theorem k_X4_noteLacks_48 (post : PO) : lk (T_X4_noteLacks post) 48 = o_ast 0 (fun x => x) 49 := rfl
theorem k_X4_noteLacks_49 (post : PO) : lk (T_X4_noteLacks post) 49 = o_iinc 1 1 52 := rfl
theorem k_X4_noteLacks_52 (post : PO) : lk (T_X4_noteLacks post) 52 = o_goto 16 := rfl
theorem k_X4_noteLacks_55 (post : PO) : lk (T_X4_noteLacks post) 55 = o_ret post := rfl
set_option maxRecDepth 100000 in
theorem t_X4_noteLacks {p : Program} {l : Launch} {e : Env} {s : State} {m : MethodId} {args : Array Value} {below : List Frame} {meth : Method} {c : Code} {D : va_G} {dA : Nat → ClassId} {ad : Nat → Nat} (post : PO) (C : CX p s m args meth c cX4_noteLacks 2 yX4_noteLacks.cls D dA ad (AA ad s.heap.size)) (hr : meth.sig.returnType = none) : SndL (WW p l e ({ frames := 3, cells := 0, slots := 0, locals := 68 } : Room) s m args below meth c 0 0 (MQ below (CQ D dA ad post (AA ad s.heap.size)) args s 0 0 (AA ad s.heap.size)) 2 D dA ad (AA ad s.heap.size)) (T_X4_noteLacks post) := by
  refine snd_c (s_aload_n C rfl dX4_noteLacks_0) ?_
  refine snd_c (s_aload_n C rfl dX4_noteLacks_1) ?_
  refine snd_c (s_getf C (ci := 4) (j := 1) (T := TX4) rfl inX4 (by decide) fl_RX4_19 dX4_noteLacks_2) ?_
  refine snd_c (s_getf C (ci := 0) (j := 0) (T := TX0) rfl inX0 (by decide) fl_RX4_71 dX4_noteLacks_5) ?_
  refine snd_c (s_callV C (ci := 1) c_X1_usable rfl cw_RX4_93 ⟨rfl, rfl⟩ ⟨by decide +kernel, by decide +kernel, by decide +kernel⟩ ⟨by decide, by decide⟩ ⟨Nat.zero_le _, Nat.zero_le _⟩ dX4_noteLacks_8) ?_
  refine snd_c (s_callV C (ci := 4) c_X4_fillSpan rfl cw_RX4_169 ⟨rfl, rfl⟩ ⟨by decide +kernel, by decide +kernel, by decide +kernel⟩ ⟨by decide, by decide⟩ ⟨Nat.zero_le _, Nat.zero_le _⟩ dX4_noteLacks_11) ?_
  refine snd_c (s_iconst C dX4_noteLacks_14 rfl) ?_
  refine snd_c (s_istore_n C rfl (by decide) dX4_noteLacks_15) ?_
  refine snd_c (s_iload_n C rfl dX4_noteLacks_16) ?_
  refine snd_c (s_aload_n C rfl dX4_noteLacks_17) ?_
  refine snd_c (s_getf C (ci := 4) (j := 1) (T := TX4) rfl inX4 (by decide) fl_RX4_19 dX4_noteLacks_18) ?_
  refine snd_c (s_getf C (ci := 0) (j := 2) (T := TX0) rfl inX0 (by decide) fl_RX4_208 dX4_noteLacks_21) ?_
  refine snd_c (s_icmp_ge C dX4_noteLacks_24 (by decide)) ?_
  refine snd_c (s_aload_n C rfl dX4_noteLacks_27) ?_
  refine snd_c (s_getf C (ci := 4) (j := 7) (T := TX4) rfl inX4 (by decide) fl_RX4_47 dX4_noteLacks_28) ?_
  refine snd_c (s_iload_n C rfl dX4_noteLacks_31) ?_
  refine snd_c (s_aload_n C rfl dX4_noteLacks_32) ?_
  refine snd_c (s_getf C (ci := 4) (j := 5) (T := TX4) rfl inX4 (by decide) fl_RX4_39 dX4_noteLacks_33) ?_
  refine snd_c (s_aload_n C rfl dX4_noteLacks_36) ?_
  refine snd_c (s_getf C (ci := 4) (j := 1) (T := TX4) rfl inX4 (by decide) fl_RX4_19 dX4_noteLacks_37) ?_
  refine snd_c (s_getf C (ci := 0) (j := 1) (T := TX0) rfl inX0 (by decide) fl_RX4_90 dX4_noteLacks_40) ?_
  refine snd_c (s_iload_n C rfl dX4_noteLacks_43) ?_
  refine snd_c (s_iald C dX4_noteLacks_44) ?_
  refine snd_c (s_callV C (ci := 2) c_X2_rest rfl cw_RX4_224 ⟨rfl, rfl⟩ ⟨by decide +kernel, by decide +kernel, by decide +kernel⟩ ⟨by decide, by decide⟩ ⟨Nat.zero_le _, Nat.zero_le _⟩ dX4_noteLacks_45) ?_
  refine snd_c (s_iast C dX4_noteLacks_48) ?_
  refine snd_c (s_iinc C (by decide) rfl dX4_noteLacks_49) ?_
  refine snd_c (s_goto C dX4_noteLacks_52 (by decide)) ?_
  refine snd_c (s_ret C hr dX4_noteLacks_55) ?_
  exact trivial
theorem dX4_openedWith_0 : decode cX4_openedWith 0 = .ok (.aload_n 0, 1) := by decide +kernel
theorem dX4_openedWith_1 : decode cX4_openedWith 1 = .ok (.getfield 39, 3) := by decide +kernel
theorem dX4_openedWith_4 : decode cX4_openedWith 4 = .ok (.iload_n 1, 1) := by decide +kernel
theorem dX4_openedWith_5 : decode cX4_openedWith 5 = .ok (.invokevirtual 224, 3) := by decide +kernel
theorem dX4_openedWith_8 : decode cX4_openedWith 8 = .ok (.istore_n 2, 1) := by decide +kernel
theorem dX4_openedWith_9 : decode cX4_openedWith 9 = .ok (.iconst 0, 1) := by decide +kernel
theorem dX4_openedWith_10 : decode cX4_openedWith 10 = .ok (.istore_n 3, 1) := by decide +kernel
theorem dX4_openedWith_11 : decode cX4_openedWith 11 = .ok (.iconst 0, 1) := by decide +kernel
theorem dX4_openedWith_12 : decode cX4_openedWith 12 = .ok (.istore 4, 2) := by decide +kernel
theorem dX4_openedWith_14 : decode cX4_openedWith 14 = .ok (.iload 4, 2) := by decide +kernel
theorem dX4_openedWith_16 : decode cX4_openedWith 16 = .ok (.aload_n 0, 1) := by decide +kernel
theorem dX4_openedWith_17 : decode cX4_openedWith 17 = .ok (.getfield 19, 3) := by decide +kernel
theorem dX4_openedWith_20 : decode cX4_openedWith 20 = .ok (.getfield 208, 3) := by decide +kernel
theorem dX4_openedWith_23 : decode cX4_openedWith 23 = .ok (.if_icmp .ge 33, 3) := by decide +kernel
theorem dX4_openedWith_26 : decode cX4_openedWith 26 = .ok (.aload_n 0, 1) := by decide +kernel
theorem dX4_openedWith_27 : decode cX4_openedWith 27 = .ok (.getfield 47, 3) := by decide +kernel
theorem dX4_openedWith_30 : decode cX4_openedWith 30 = .ok (.iload 4, 2) := by decide +kernel
theorem dX4_openedWith_32 : decode cX4_openedWith 32 = .ok (.iaload, 1) := by decide +kernel
theorem dX4_openedWith_33 : decode cX4_openedWith 33 = .ok (.ifCond .eq 14, 3) := by decide +kernel
theorem dX4_openedWith_36 : decode cX4_openedWith 36 = .ok (.aload_n 0, 1) := by decide +kernel
theorem dX4_openedWith_37 : decode cX4_openedWith 37 = .ok (.getfield 47, 3) := by decide +kernel
theorem dX4_openedWith_40 : decode cX4_openedWith 40 = .ok (.iload 4, 2) := by decide +kernel
theorem dX4_openedWith_42 : decode cX4_openedWith 42 = .ok (.iaload, 1) := by decide +kernel
theorem dX4_openedWith_43 : decode cX4_openedWith 43 = .ok (.iload_n 2, 1) := by decide +kernel
theorem dX4_openedWith_44 : decode cX4_openedWith 44 = .ok (.if_icmp .ne 6, 3) := by decide +kernel
theorem dX4_openedWith_47 : decode cX4_openedWith 47 = .ok (.iinc 3 1, 3) := by decide +kernel
theorem dX4_openedWith_50 : decode cX4_openedWith 50 = .ok (.iinc 4 1, 3) := by decide +kernel
theorem dX4_openedWith_53 : decode cX4_openedWith 53 = .ok (.goto (-39), 3) := by decide +kernel
theorem dX4_openedWith_56 : decode cX4_openedWith 56 = .ok (.iload_n 3, 1) := by decide +kernel
theorem dX4_openedWith_57 : decode cX4_openedWith 57 = .ok (.ireturn, 1) := by decide +kernel
def T_X4_openedWith (post : PO) : List (Nat × OP) := [(0, o_aload 0 1), (1, o_getf 4 5 4), (4, o_iload 1 5), (5, o_callV 2 S_X2_rest 1 8), (8, o_istore 2 9), (9, o_const 0 10), (10, o_istore 3 11), (11, o_const 0 12), (12, o_istore 4 14), (14, o_iload 4 16), (16, o_aload 0 17), (17, o_getf 4 1 20), (20, o_getf 0 2 23), (23, o_icmp (fun x y => y ≤ x) 56 26), (26, o_aload 0 27), (27, o_getf 4 7 30), (30, o_iload 4 32), (32, o_ald 0 33), (33, o_if (fun x => x = 0) 47 36), (36, o_aload 0 37), (37, o_getf 4 7 40), (40, o_iload 4 42), (42, o_ald 0 43), (43, o_iload 2 44), (44, o_icmp (fun x y => x = y) 47 50), (47, o_iinc 3 1 50), (50, o_iinc 4 1 53), (53, o_goto 14), (56, o_iload 3 57), (57, o_iret post)]
theorem k_X4_openedWith_0 (post : PO) : lk (T_X4_openedWith post) 0 = o_aload 0 1 := rfl
theorem k_X4_openedWith_1 (post : PO) : lk (T_X4_openedWith post) 1 = o_getf 4 5 4 := rfl
theorem k_X4_openedWith_4 (post : PO) : lk (T_X4_openedWith post) 4 = o_iload 1 5 := rfl
theorem k_X4_openedWith_5 (post : PO) : lk (T_X4_openedWith post) 5 = o_callV 2 S_X2_rest 1 8 := rfl
theorem k_X4_openedWith_8 (post : PO) : lk (T_X4_openedWith post) 8 = o_istore 2 9 := rfl
theorem k_X4_openedWith_9 (post : PO) : lk (T_X4_openedWith post) 9 = o_const 0 10 := rfl
theorem k_X4_openedWith_10 (post : PO) : lk (T_X4_openedWith post) 10 = o_istore 3 11 := rfl
theorem k_X4_openedWith_11 (post : PO) : lk (T_X4_openedWith post) 11 = o_const 0 12 := rfl
theorem k_X4_openedWith_12 (post : PO) : lk (T_X4_openedWith post) 12 = o_istore 4 14 := rfl
theorem k_X4_openedWith_14 (post : PO) : lk (T_X4_openedWith post) 14 = o_iload 4 16 := rfl
theorem k_X4_openedWith_16 (post : PO) : lk (T_X4_openedWith post) 16 = o_aload 0 17 := rfl
theorem k_X4_openedWith_17 (post : PO) : lk (T_X4_openedWith post) 17 = o_getf 4 1 20 := rfl
theorem k_X4_openedWith_20 (post : PO) : lk (T_X4_openedWith post) 20 = o_getf 0 2 23 := rfl
theorem k_X4_openedWith_23 (post : PO) : lk (T_X4_openedWith post) 23 = o_icmp (fun x y => y ≤ x) 56 26 := rfl
theorem k_X4_openedWith_26 (post : PO) : lk (T_X4_openedWith post) 26 = o_aload 0 27 := rfl
theorem k_X4_openedWith_27 (post : PO) : lk (T_X4_openedWith post) 27 = o_getf 4 7 30 := rfl
theorem k_X4_openedWith_30 (post : PO) : lk (T_X4_openedWith post) 30 = o_iload 4 32 := rfl
theorem k_X4_openedWith_32 (post : PO) : lk (T_X4_openedWith post) 32 = o_ald 0 33 := rfl
theorem k_X4_openedWith_33 (post : PO) : lk (T_X4_openedWith post) 33 = o_if (fun x => x = 0) 47 36 := rfl
theorem k_X4_openedWith_36 (post : PO) : lk (T_X4_openedWith post) 36 = o_aload 0 37 := rfl
theorem k_X4_openedWith_37 (post : PO) : lk (T_X4_openedWith post) 37 = o_getf 4 7 40 := rfl
theorem k_X4_openedWith_40 (post : PO) : lk (T_X4_openedWith post) 40 = o_iload 4 42 := rfl
theorem k_X4_openedWith_42 (post : PO) : lk (T_X4_openedWith post) 42 = o_ald 0 43 := rfl
theorem k_X4_openedWith_43 (post : PO) : lk (T_X4_openedWith post) 43 = o_iload 2 44 := rfl
theorem k_X4_openedWith_44 (post : PO) : lk (T_X4_openedWith post) 44 = o_icmp (fun x y => x = y) 47 50 := rfl
theorem k_X4_openedWith_47 (post : PO) : lk (T_X4_openedWith post) 47 = o_iinc 3 1 50 := rfl
theorem k_X4_openedWith_50 (post : PO) : lk (T_X4_openedWith post) 50 = o_iinc 4 1 53 := rfl
theorem k_X4_openedWith_53 (post : PO) : lk (T_X4_openedWith post) 53 = o_goto 14 := rfl
theorem k_X4_openedWith_56 (post : PO) : lk (T_X4_openedWith post) 56 = o_iload 3 57 := rfl
theorem k_X4_openedWith_57 (post : PO) : lk (T_X4_openedWith post) 57 = o_iret post := rfl
set_option maxRecDepth 100000 in
theorem t_X4_openedWith {p : Program} {l : Launch} {e : Env} {s : State} {m : MethodId} {args : Array Value} {below : List Frame} {meth : Method} {c : Code} {D : va_G} {dA : Nat → ClassId} {ad : Nat → Nat} (post : PO) (C : CX p s m args meth c cX4_openedWith 5 yX4_openedWith.cls D dA ad (AA ad s.heap.size)) (hr : meth.sig.returnType = (some .int)) : SndL (WW p l e ({ frames := 1, cells := 0, slots := 0, locals := 23 } : Room) s m args below meth c 0 0 (MQ below (CQ D dA ad post (AA ad s.heap.size)) args s 0 0 (AA ad s.heap.size)) 5 D dA ad (AA ad s.heap.size)) (T_X4_openedWith post) := by
  refine snd_c (s_aload_n C rfl dX4_openedWith_0) ?_
  refine snd_c (s_getf C (ci := 4) (j := 5) (T := TX4) rfl inX4 (by decide) fl_RX4_39 dX4_openedWith_1) ?_
  refine snd_c (s_iload_n C rfl dX4_openedWith_4) ?_
  refine snd_c (s_callV C (ci := 2) c_X2_rest rfl cw_RX4_224 ⟨rfl, rfl⟩ ⟨by decide +kernel, by decide +kernel, by decide +kernel⟩ ⟨by decide, by decide⟩ ⟨Nat.zero_le _, Nat.zero_le _⟩ dX4_openedWith_5) ?_
  refine snd_c (s_istore_n C rfl (by decide) dX4_openedWith_8) ?_
  refine snd_c (s_iconst C dX4_openedWith_9 rfl) ?_
  refine snd_c (s_istore_n C rfl (by decide) dX4_openedWith_10) ?_
  refine snd_c (s_iconst C dX4_openedWith_11 rfl) ?_
  refine snd_c (s_istore C (by decide) dX4_openedWith_12) ?_
  refine snd_c (s_iload C dX4_openedWith_14) ?_
  refine snd_c (s_aload_n C rfl dX4_openedWith_16) ?_
  refine snd_c (s_getf C (ci := 4) (j := 1) (T := TX4) rfl inX4 (by decide) fl_RX4_19 dX4_openedWith_17) ?_
  refine snd_c (s_getf C (ci := 0) (j := 2) (T := TX0) rfl inX0 (by decide) fl_RX4_208 dX4_openedWith_20) ?_
  refine snd_c (s_icmp_ge C dX4_openedWith_23 (by decide)) ?_
  refine snd_c (s_aload_n C rfl dX4_openedWith_26) ?_
  refine snd_c (s_getf C (ci := 4) (j := 7) (T := TX4) rfl inX4 (by decide) fl_RX4_47 dX4_openedWith_27) ?_
  refine snd_c (s_iload C dX4_openedWith_30) ?_
  refine snd_c (s_iald C dX4_openedWith_32) ?_
  refine snd_c (s_if_eq C dX4_openedWith_33 (by decide)) ?_
  refine snd_c (s_aload_n C rfl dX4_openedWith_36) ?_
  refine snd_c (s_getf C (ci := 4) (j := 7) (T := TX4) rfl inX4 (by decide) fl_RX4_47 dX4_openedWith_37) ?_
  refine snd_c (s_iload C dX4_openedWith_40) ?_
  refine snd_c (s_iald C dX4_openedWith_42) ?_
  refine snd_c (s_iload_n C rfl dX4_openedWith_43) ?_
  refine snd_c (s_icmp_ne C dX4_openedWith_44 (by decide)) ?_
  refine snd_c (s_iinc C (by decide) rfl dX4_openedWith_47) ?_
  refine snd_c (s_iinc C (by decide) rfl dX4_openedWith_50) ?_
  refine snd_c (s_goto C dX4_openedWith_53 (by decide)) ?_
  refine snd_c (s_iload_n C rfl dX4_openedWith_56) ?_
  refine snd_c (s_iret C hr dX4_openedWith_57) ?_
  exact trivial
set_option maxRecDepth 100000 in
theorem v_X4_leastWish : ∀ as M post, S_X4_leastWish as M post → wsum as ≤ 5 ∧ RUN (T_X4_leastWish post) 0 (entL 5 as) [] M := by
  rintro as M post ⟨g, v, n, c, p, r, h0, lk, rfl, hg, hv, hX, h1, h2⟩
  have hX0 := hX
  obtain ⟨hn, hn8, hc, hc6, hp, hp4, hr, hhk, hl⟩ := hX
  have hblt := fsp_lt (r := r) (T := hd h0 g p n) n (fun k hk => (hr k hk).2)
  have hlt := fun w hw => rs_lt hblt 9 (Nat.le_refl 9) w hw
  have hvl := hlt v hv
  refine ⟨by show 3 ≤ 5; omega, run_of [24] (fun μ pc lv st M' => st = [] ∧ pc = 24 ∧ ∃ i f, i ≤ 512 ∧ (∀ j, j < 9 → f j = nI (fsp r (hd h0 g p n) n j)) ∧ (∀ j, j < i → ¬ Wsh (fsp r (hd h0 g p n) n) v (M.2.2 28) j) ∧ M' = sA 27 f M ∧ 1000 - i = μ ∧ lv = [some (VR 0), some (VI (nI g)), some (VI (nI v)), some (VI (nI (rs (fsp r (hd h0 g p n) n) v 9))), some (VI (nI i))]) 80 3000 ?_ ?_⟩
  · rintro μ pc lv st M' ⟨rfl, rfl, i, f, hi, hf, hw, rfl, rfl, rfl⟩
    dsimp only [k_X4_leastWish_0, k_X4_leastWish_1, k_X4_leastWish_2, k_X4_leastWish_5, k_X4_leastWish_6, k_X4_leastWish_9, k_X4_leastWish_12, k_X4_leastWish_13, k_X4_leastWish_16, k_X4_leastWish_17, k_X4_leastWish_20, k_X4_leastWish_21, k_X4_leastWish_22, k_X4_leastWish_24, k_X4_leastWish_26, k_X4_leastWish_29, k_X4_leastWish_32, k_X4_leastWish_33, k_X4_leastWish_36, k_X4_leastWish_38, k_X4_leastWish_39, k_X4_leastWish_42, k_X4_leastWish_43, k_X4_leastWish_46, k_X4_leastWish_47, k_X4_leastWish_50, k_X4_leastWish_52, k_X4_leastWish_55, k_X4_leastWish_56, k_X4_leastWish_59, k_X4_leastWish_61, k_X4_leastWish_62, k_X4_leastWish_65, k_X4_leastWish_68, k_X4_leastWish_70, wp1, wp_s, cutIn, kont, Nat.reduceSub, Nat.reduceAdd, nth, o_const, o_lconst, o_ref, o_iload, o_lload, o_aload, o_istore, o_lstore, o_astore, o_iinc, o_bin, o_div, o_un, o_lbin, o_lsh, o_lcmp, o_i2l, o_l2i, o_if, o_icmp, o_goto, o_dup, o_dup2, o_pop, fav, o_getf, o_putI, o_putZ, o_putL, o_ald, o_ast, o_alen, popn, rst, o_callV, o_callT, o_callS, swx, o_sw, o_ret, o_iret, o_zret, o_cret, o_lret, o_aret, lg, lput, lput2, ls1, isL, entL, wsum, rdI1, rdI2, rdA1, rdA21, rdA22, rdL1, rdL22, rdL21, upN_at, rep, sh_0, F_0_0, F_0_1, F_0_2, F_0_3, F_0_4, F_0_5, F_0_6, F_0_7, F_0_8, sh_1, F_1_0, F_1_1, F_1_2, F_1_3, F_1_4, F_1_5, sh_3, F_3_0, F_3_1, F_3_2, F_3_3, F_3_4, F_3_5, sh_5, F_5_0, F_5_1, F_5_2, F_5_3, F_5_4, F_5_5, F_5_6, F_5_7, F_5_8, sh_12, F_12_0, F_12_1, F_12_2, F_12_3, F_12_4, F_12_5, sh_14, F_14_0, F_14_1, F_14_2, F_14_3, F_14_4, F_14_5, F_14_6, F_14_7, F_14_8, sh_21, F_21_0, F_21_1, F_21_2, F_21_3, F_21_4, F_21_5, F_21_6, F_21_7, F_21_8, sh_28, F_28_0, F_28_1, F_28_2, F_28_3, F_28_4, F_28_5, F_28_6, F_28_7, F_28_8, sh_35, F_35_0, sh_39, F_39_0, F_39_1, F_39_2, F_39_3, F_39_4, F_39_5, F_39_6, F_39_7, F_39_8, F_39_9, F_39_10, F_39_11, F_39_12, F_39_13, A_2, A_4, A_6, A_7, A_8, A_9, A_10, A_11, A_13, A_15, A_16, A_17, A_18, A_19, A_20, A_22, A_23, A_24, A_25, A_26, A_27, A_29, A_30, A_31, A_32, A_33, A_34, A_36, A_37, A_38, A_40, A_41, A_42, A_43, A_44, A_45, A_46, A_47]
    rw [show (512 : Int32) = nI 512 from rfl]
    simp (disch := omega) only [nI_leI, nI_ltI, nI_eq, nI_1, nI_add, one_shl, nI_or, nI_xor, nI_and, bit_0, bit_1, true_or, or_true, true_and, and_true, eq_self, not_true_eq_false, not_false_eq_true, forall_const]
    have nx : ¬ Wsh (fsp r (hd h0 g p n) n) v (M.2.2 28) i → ∀ j, j < i + 1 → ¬ Wsh (fsp r (hd h0 g p n) n) v (M.2.2 28) j := by
      intro z j hj
      rcases Nat.lt_or_ge j i with e | e
      · exact hw j e
      · rw [show j = i by omega]; exact z
    refine ⟨fun z => h2 (fun row hrow => hw row (by omega)) f, fun z => ⟨i, by omega, rfl, fun z2 => ⟨fun z3 => ?_, fun z3 => ⟨i, fsp r (hd h0 g p n) n, rfl, by omega, fun j hj => ⟨hf j hj, hblt j hj⟩, ?_⟩⟩, fun z2 => ?_⟩⟩
    · rw [show (0 : Int32) = nI 0 from rfl, nI_eq (by omega) (by omega)] at z3
      exact h1 i (by omega) ⟨z2, Or.inl z3⟩ hw f
    · have hil := hlt i (by omega)
      rw [show (0 : Int32) = nI 0 from rfl, nI_eq (by omega) (by omega)] at z3
      dsimp only [k_X4_leastWish_0, k_X4_leastWish_1, k_X4_leastWish_2, k_X4_leastWish_5, k_X4_leastWish_6, k_X4_leastWish_9, k_X4_leastWish_12, k_X4_leastWish_13, k_X4_leastWish_16, k_X4_leastWish_17, k_X4_leastWish_20, k_X4_leastWish_21, k_X4_leastWish_22, k_X4_leastWish_24, k_X4_leastWish_26, k_X4_leastWish_29, k_X4_leastWish_32, k_X4_leastWish_33, k_X4_leastWish_36, k_X4_leastWish_38, k_X4_leastWish_39, k_X4_leastWish_42, k_X4_leastWish_43, k_X4_leastWish_46, k_X4_leastWish_47, k_X4_leastWish_50, k_X4_leastWish_52, k_X4_leastWish_55, k_X4_leastWish_56, k_X4_leastWish_59, k_X4_leastWish_61, k_X4_leastWish_62, k_X4_leastWish_65, k_X4_leastWish_68, k_X4_leastWish_70, wp1, wp_s, cutIn, kont, Nat.reduceSub, Nat.reduceAdd, nth, o_const, o_lconst, o_ref, o_iload, o_lload, o_aload, o_istore, o_lstore, o_astore, o_iinc, o_bin, o_div, o_un, o_lbin, o_lsh, o_lcmp, o_i2l, o_l2i, o_if, o_icmp, o_goto, o_dup, o_dup2, o_pop, fav, o_getf, o_putI, o_putZ, o_putL, o_ald, o_ast, o_alen, popn, rst, o_callV, o_callT, o_callS, swx, o_sw, o_ret, o_iret, o_zret, o_cret, o_lret, o_aret, lg, lput, lput2, ls1, isL, entL, wsum, rdI1, rdI2, rdA1, rdA21, rdA22, rdL1, rdL22, rdL21, upN_at, rep, sh_0, F_0_0, F_0_1, F_0_2, F_0_3, F_0_4, F_0_5, F_0_6, F_0_7, F_0_8, sh_1, F_1_0, F_1_1, F_1_2, F_1_3, F_1_4, F_1_5, sh_3, F_3_0, F_3_1, F_3_2, F_3_3, F_3_4, F_3_5, sh_5, F_5_0, F_5_1, F_5_2, F_5_3, F_5_4, F_5_5, F_5_6, F_5_7, F_5_8, sh_12, F_12_0, F_12_1, F_12_2, F_12_3, F_12_4, F_12_5, sh_14, F_14_0, F_14_1, F_14_2, F_14_3, F_14_4, F_14_5, F_14_6, F_14_7, F_14_8, sh_21, F_21_0, F_21_1, F_21_2, F_21_3, F_21_4, F_21_5, F_21_6, F_21_7, F_21_8, sh_28, F_28_0, F_28_1, F_28_2, F_28_3, F_28_4, F_28_5, F_28_6, F_28_7, F_28_8, sh_35, F_35_0, sh_39, F_39_0, F_39_1, F_39_2, F_39_3, F_39_4, F_39_5, F_39_6, F_39_7, F_39_8, F_39_9, F_39_10, F_39_11, F_39_12, F_39_13, A_2, A_4, A_6, A_7, A_8, A_9, A_10, A_11, A_13, A_15, A_16, A_17, A_18, A_19, A_20, A_22, A_23, A_24, A_25, A_26, A_27, A_29, A_30, A_31, A_32, A_33, A_34, A_36, A_37, A_38, A_40, A_41, A_42, A_43, A_44, A_45, A_46, A_47]
      simp (disch := omega) only [nI_leI, nI_ltI, nI_eq, nI_1, nI_add, one_shl, nI_or, nI_xor, nI_and, bit_0, bit_1, true_or, or_true, true_and, and_true, eq_self, not_true_eq_false, not_false_eq_true, forall_const]
      exact ⟨fun z4 => h1 i (by omega) ⟨z2, Or.inr z4⟩ hw f, fun z4 => cut _ _ ⟨rfl, rfl, i + 1, f, by omega, hf, nx (fun z5 => z5.2.elim z3 z4), rfl, rfl, rfl⟩ (by omega) ⟨rfl, rfl, rfl, rfl, rfl, trivial⟩⟩
    · exact cut _ _ ⟨rfl, rfl, i + 1, f, by omega, hf, nx (fun z5 => z2 z5.1), rfl, rfl, rfl⟩ (by omega) ⟨rfl, rfl, rfl, rfl, rfl, trivial⟩
  · dsimp only [k_X4_leastWish_0, k_X4_leastWish_1, k_X4_leastWish_2, k_X4_leastWish_5, k_X4_leastWish_6, k_X4_leastWish_9, k_X4_leastWish_12, k_X4_leastWish_13, k_X4_leastWish_16, k_X4_leastWish_17, k_X4_leastWish_20, k_X4_leastWish_21, k_X4_leastWish_22, k_X4_leastWish_24, k_X4_leastWish_26, k_X4_leastWish_29, k_X4_leastWish_32, k_X4_leastWish_33, k_X4_leastWish_36, k_X4_leastWish_38, k_X4_leastWish_39, k_X4_leastWish_42, k_X4_leastWish_43, k_X4_leastWish_46, k_X4_leastWish_47, k_X4_leastWish_50, k_X4_leastWish_52, k_X4_leastWish_55, k_X4_leastWish_56, k_X4_leastWish_59, k_X4_leastWish_61, k_X4_leastWish_62, k_X4_leastWish_65, k_X4_leastWish_68, k_X4_leastWish_70, wp1, wp_s, cutIn, kont, Nat.reduceSub, Nat.reduceAdd, nth, o_const, o_lconst, o_ref, o_iload, o_lload, o_aload, o_istore, o_lstore, o_astore, o_iinc, o_bin, o_div, o_un, o_lbin, o_lsh, o_lcmp, o_i2l, o_l2i, o_if, o_icmp, o_goto, o_dup, o_dup2, o_pop, fav, o_getf, o_putI, o_putZ, o_putL, o_ald, o_ast, o_alen, popn, rst, o_callV, o_callT, o_callS, swx, o_sw, o_ret, o_iret, o_zret, o_cret, o_lret, o_aret, lg, lput, lput2, ls1, isL, entL, wsum, rdI1, rdI2, rdA1, rdA21, rdA22, rdL1, rdL22, rdL21, upN_at, rep, sh_0, F_0_0, F_0_1, F_0_2, F_0_3, F_0_4, F_0_5, F_0_6, F_0_7, F_0_8, sh_1, F_1_0, F_1_1, F_1_2, F_1_3, F_1_4, F_1_5, sh_3, F_3_0, F_3_1, F_3_2, F_3_3, F_3_4, F_3_5, sh_5, F_5_0, F_5_1, F_5_2, F_5_3, F_5_4, F_5_5, F_5_6, F_5_7, F_5_8, sh_12, F_12_0, F_12_1, F_12_2, F_12_3, F_12_4, F_12_5, sh_14, F_14_0, F_14_1, F_14_2, F_14_3, F_14_4, F_14_5, F_14_6, F_14_7, F_14_8, sh_21, F_21_0, F_21_1, F_21_2, F_21_3, F_21_4, F_21_5, F_21_6, F_21_7, F_21_8, sh_28, F_28_0, F_28_1, F_28_2, F_28_3, F_28_4, F_28_5, F_28_6, F_28_7, F_28_8, sh_35, F_35_0, sh_39, F_39_0, F_39_1, F_39_2, F_39_3, F_39_4, F_39_5, F_39_6, F_39_7, F_39_8, F_39_9, F_39_10, F_39_11, F_39_12, F_39_13, A_2, A_4, A_6, A_7, A_8, A_9, A_10, A_11, A_13, A_15, A_16, A_17, A_18, A_19, A_20, A_22, A_23, A_24, A_25, A_26, A_27, A_29, A_30, A_31, A_32, A_33, A_34, A_36, A_37, A_38, A_40, A_41, A_42, A_43, A_44, A_45, A_46, A_47]
    refine ⟨g, p, n, rfl, by omega, hp, hp4, hn, hn8, ?_⟩
    rw [show mk (hh (M.2.2 3) g p) n = hd h0 g p n from hd_congr hhk _ p]
    have hdl := hd_lt h0 g p hn8
    dsimp only [k_X4_leastWish_0, k_X4_leastWish_1, k_X4_leastWish_2, k_X4_leastWish_5, k_X4_leastWish_6, k_X4_leastWish_9, k_X4_leastWish_12, k_X4_leastWish_13, k_X4_leastWish_16, k_X4_leastWish_17, k_X4_leastWish_20, k_X4_leastWish_21, k_X4_leastWish_22, k_X4_leastWish_24, k_X4_leastWish_26, k_X4_leastWish_29, k_X4_leastWish_32, k_X4_leastWish_33, k_X4_leastWish_36, k_X4_leastWish_38, k_X4_leastWish_39, k_X4_leastWish_42, k_X4_leastWish_43, k_X4_leastWish_46, k_X4_leastWish_47, k_X4_leastWish_50, k_X4_leastWish_52, k_X4_leastWish_55, k_X4_leastWish_56, k_X4_leastWish_59, k_X4_leastWish_61, k_X4_leastWish_62, k_X4_leastWish_65, k_X4_leastWish_68, k_X4_leastWish_70, wp1, wp_s, cutIn, kont, Nat.reduceSub, Nat.reduceAdd, nth, o_const, o_lconst, o_ref, o_iload, o_lload, o_aload, o_istore, o_lstore, o_astore, o_iinc, o_bin, o_div, o_un, o_lbin, o_lsh, o_lcmp, o_i2l, o_l2i, o_if, o_icmp, o_goto, o_dup, o_dup2, o_pop, fav, o_getf, o_putI, o_putZ, o_putL, o_ald, o_ast, o_alen, popn, rst, o_callV, o_callT, o_callS, swx, o_sw, o_ret, o_iret, o_zret, o_cret, o_lret, o_aret, lg, lput, lput2, ls1, isL, entL, wsum, rdI1, rdI2, rdA1, rdA21, rdA22, rdL1, rdL22, rdL21, upN_at, rep, sh_0, F_0_0, F_0_1, F_0_2, F_0_3, F_0_4, F_0_5, F_0_6, F_0_7, F_0_8, sh_1, F_1_0, F_1_1, F_1_2, F_1_3, F_1_4, F_1_5, sh_3, F_3_0, F_3_1, F_3_2, F_3_3, F_3_4, F_3_5, sh_5, F_5_0, F_5_1, F_5_2, F_5_3, F_5_4, F_5_5, F_5_6, F_5_7, F_5_8, sh_12, F_12_0, F_12_1, F_12_2, F_12_3, F_12_4, F_12_5, sh_14, F_14_0, F_14_1, F_14_2, F_14_3, F_14_4, F_14_5, F_14_6, F_14_7, F_14_8, sh_21, F_21_0, F_21_1, F_21_2, F_21_3, F_21_4, F_21_5, F_21_6, F_21_7, F_21_8, sh_28, F_28_0, F_28_1, F_28_2, F_28_3, F_28_4, F_28_5, F_28_6, F_28_7, F_28_8, sh_35, F_35_0, sh_39, F_39_0, F_39_1, F_39_2, F_39_3, F_39_4, F_39_5, F_39_6, F_39_7, F_39_8, F_39_9, F_39_10, F_39_11, F_39_12, F_39_13, A_2, A_4, A_6, A_7, A_8, A_9, A_10, A_11, A_13, A_15, A_16, A_17, A_18, A_19, A_20, A_22, A_23, A_24, A_25, A_26, A_27, A_29, A_30, A_31, A_32, A_33, A_34, A_36, A_37, A_38, A_40, A_41, A_42, A_43, A_44, A_45, A_46, A_47]
    refine ⟨_, n, c, p, r, h0, lk, rfl, by omega, hX0, fun f hf => ?_⟩
    dsimp only [k_X4_leastWish_0, k_X4_leastWish_1, k_X4_leastWish_2, k_X4_leastWish_5, k_X4_leastWish_6, k_X4_leastWish_9, k_X4_leastWish_12, k_X4_leastWish_13, k_X4_leastWish_16, k_X4_leastWish_17, k_X4_leastWish_20, k_X4_leastWish_21, k_X4_leastWish_22, k_X4_leastWish_24, k_X4_leastWish_26, k_X4_leastWish_29, k_X4_leastWish_32, k_X4_leastWish_33, k_X4_leastWish_36, k_X4_leastWish_38, k_X4_leastWish_39, k_X4_leastWish_42, k_X4_leastWish_43, k_X4_leastWish_46, k_X4_leastWish_47, k_X4_leastWish_50, k_X4_leastWish_52, k_X4_leastWish_55, k_X4_leastWish_56, k_X4_leastWish_59, k_X4_leastWish_61, k_X4_leastWish_62, k_X4_leastWish_65, k_X4_leastWish_68, k_X4_leastWish_70, wp1, wp_s, cutIn, kont, Nat.reduceSub, Nat.reduceAdd, nth, o_const, o_lconst, o_ref, o_iload, o_lload, o_aload, o_istore, o_lstore, o_astore, o_iinc, o_bin, o_div, o_un, o_lbin, o_lsh, o_lcmp, o_i2l, o_l2i, o_if, o_icmp, o_goto, o_dup, o_dup2, o_pop, fav, o_getf, o_putI, o_putZ, o_putL, o_ald, o_ast, o_alen, popn, rst, o_callV, o_callT, o_callS, swx, o_sw, o_ret, o_iret, o_zret, o_cret, o_lret, o_aret, lg, lput, lput2, ls1, isL, entL, wsum, rdI1, rdI2, rdA1, rdA21, rdA22, rdL1, rdL22, rdL21, upN_at, rep, sh_0, F_0_0, F_0_1, F_0_2, F_0_3, F_0_4, F_0_5, F_0_6, F_0_7, F_0_8, sh_1, F_1_0, F_1_1, F_1_2, F_1_3, F_1_4, F_1_5, sh_3, F_3_0, F_3_1, F_3_2, F_3_3, F_3_4, F_3_5, sh_5, F_5_0, F_5_1, F_5_2, F_5_3, F_5_4, F_5_5, F_5_6, F_5_7, F_5_8, sh_12, F_12_0, F_12_1, F_12_2, F_12_3, F_12_4, F_12_5, sh_14, F_14_0, F_14_1, F_14_2, F_14_3, F_14_4, F_14_5, F_14_6, F_14_7, F_14_8, sh_21, F_21_0, F_21_1, F_21_2, F_21_3, F_21_4, F_21_5, F_21_6, F_21_7, F_21_8, sh_28, F_28_0, F_28_1, F_28_2, F_28_3, F_28_4, F_28_5, F_28_6, F_28_7, F_28_8, sh_35, F_35_0, sh_39, F_39_0, F_39_1, F_39_2, F_39_3, F_39_4, F_39_5, F_39_6, F_39_7, F_39_8, F_39_9, F_39_10, F_39_11, F_39_12, F_39_13, A_2, A_4, A_6, A_7, A_8, A_9, A_10, A_11, A_13, A_15, A_16, A_17, A_18, A_19, A_20, A_22, A_23, A_24, A_25, A_26, A_27, A_29, A_30, A_31, A_32, A_33, A_34, A_36, A_37, A_38, A_40, A_41, A_42, A_43, A_44, A_45, A_46, A_47]
    refine ⟨v, fsp r (hd h0 g p n) n, rfl, hv, fun j hj => ⟨hf j hj, hblt j hj⟩, ?_⟩
    dsimp only [k_X4_leastWish_0, k_X4_leastWish_1, k_X4_leastWish_2, k_X4_leastWish_5, k_X4_leastWish_6, k_X4_leastWish_9, k_X4_leastWish_12, k_X4_leastWish_13, k_X4_leastWish_16, k_X4_leastWish_17, k_X4_leastWish_20, k_X4_leastWish_21, k_X4_leastWish_22, k_X4_leastWish_24, k_X4_leastWish_26, k_X4_leastWish_29, k_X4_leastWish_32, k_X4_leastWish_33, k_X4_leastWish_36, k_X4_leastWish_38, k_X4_leastWish_39, k_X4_leastWish_42, k_X4_leastWish_43, k_X4_leastWish_46, k_X4_leastWish_47, k_X4_leastWish_50, k_X4_leastWish_52, k_X4_leastWish_55, k_X4_leastWish_56, k_X4_leastWish_59, k_X4_leastWish_61, k_X4_leastWish_62, k_X4_leastWish_65, k_X4_leastWish_68, k_X4_leastWish_70, wp1, wp_s, cutIn, kont, Nat.reduceSub, Nat.reduceAdd, nth, o_const, o_lconst, o_ref, o_iload, o_lload, o_aload, o_istore, o_lstore, o_astore, o_iinc, o_bin, o_div, o_un, o_lbin, o_lsh, o_lcmp, o_i2l, o_l2i, o_if, o_icmp, o_goto, o_dup, o_dup2, o_pop, fav, o_getf, o_putI, o_putZ, o_putL, o_ald, o_ast, o_alen, popn, rst, o_callV, o_callT, o_callS, swx, o_sw, o_ret, o_iret, o_zret, o_cret, o_lret, o_aret, lg, lput, lput2, ls1, isL, entL, wsum, rdI1, rdI2, rdA1, rdA21, rdA22, rdL1, rdL22, rdL21, upN_at, rep, sh_0, F_0_0, F_0_1, F_0_2, F_0_3, F_0_4, F_0_5, F_0_6, F_0_7, F_0_8, sh_1, F_1_0, F_1_1, F_1_2, F_1_3, F_1_4, F_1_5, sh_3, F_3_0, F_3_1, F_3_2, F_3_3, F_3_4, F_3_5, sh_5, F_5_0, F_5_1, F_5_2, F_5_3, F_5_4, F_5_5, F_5_6, F_5_7, F_5_8, sh_12, F_12_0, F_12_1, F_12_2, F_12_3, F_12_4, F_12_5, sh_14, F_14_0, F_14_1, F_14_2, F_14_3, F_14_4, F_14_5, F_14_6, F_14_7, F_14_8, sh_21, F_21_0, F_21_1, F_21_2, F_21_3, F_21_4, F_21_5, F_21_6, F_21_7, F_21_8, sh_28, F_28_0, F_28_1, F_28_2, F_28_3, F_28_4, F_28_5, F_28_6, F_28_7, F_28_8, sh_35, F_35_0, sh_39, F_39_0, F_39_1, F_39_2, F_39_3, F_39_4, F_39_5, F_39_6, F_39_7, F_39_8, F_39_9, F_39_10, F_39_11, F_39_12, F_39_13, A_2, A_4, A_6, A_7, A_8, A_9, A_10, A_11, A_13, A_15, A_16, A_17, A_18, A_19, A_20, A_22, A_23, A_24, A_25, A_26, A_27, A_29, A_30, A_31, A_32, A_33, A_34, A_36, A_37, A_38, A_40, A_41, A_42, A_43, A_44, A_45, A_46, A_47]
    exact cut _ _ ⟨rfl, rfl, 0, f, by omega, hf, fun j hj => absurd hj (by omega), rfl, rfl, rfl⟩ (by omega) ⟨rfl, rfl, rfl, rfl, rfl, trivial⟩
theorem us_congr {h h' : Nat → Int32} {n : Nat} (hk : ∀ k, k < n → h k = h' k) : us h n = us h' n := mk_congr fun k hkn => by rw [hk k hkn]
theorem us_lt (h : Nat → Int32) {n : Nat} (hn : n ≤ 8) : us h n < 256 := Nat.lt_of_lt_of_le (mk_lt _ n) (Nat.pow_le_pow_right (n := 2) (by omega) hn)
set_option maxRecDepth 100000 in
theorem v_X4_noteLacks : ∀ as M post, S_X4_noteLacks as M post → wsum as ≤ 2 ∧ RUN (T_X4_noteLacks post) 0 (entL 2 as) [] M := by
  rintro as M post ⟨n, c, p, r, h0, lk, rfl, hX, h⟩
  have hX0 := hX
  obtain ⟨hn, hn8, hc, hc6, hp, hp4, hr, hhk, hl⟩ := hX
  have hblt := fsp_lt (r := r) (T := us h0 n) n (fun k hk => (hr k hk).2)
  refine ⟨by show 1 ≤ 2; omega, run_of [16] (fun μ pc lv st M' => st = [] ∧ pc = 16 ∧ ∃ i f g, i ≤ c ∧ (∀ j, j < 9 → f j = nI (fsp r (us h0 n) n j)) ∧ (∀ l, l < i → g l = nI (rs (fsp r (us h0 n) n) (lk l) 9)) ∧ M' = sA 29 g (sA 27 f M) ∧ 100 - i = μ ∧ lv = [some (VR 0), some (VI (nI i))]) 80 200 ?_ ?_⟩
  · rintro μ pc lv st M' ⟨rfl, rfl, i, f, g, hi, hf, hg, rfl, rfl, rfl⟩
    dsimp only [k_X4_noteLacks_0, k_X4_noteLacks_1, k_X4_noteLacks_2, k_X4_noteLacks_5, k_X4_noteLacks_8, k_X4_noteLacks_11, k_X4_noteLacks_14, k_X4_noteLacks_15, k_X4_noteLacks_16, k_X4_noteLacks_17, k_X4_noteLacks_18, k_X4_noteLacks_21, k_X4_noteLacks_24, k_X4_noteLacks_27, k_X4_noteLacks_28, k_X4_noteLacks_31, k_X4_noteLacks_32, k_X4_noteLacks_33, k_X4_noteLacks_36, k_X4_noteLacks_37, k_X4_noteLacks_40, k_X4_noteLacks_43, k_X4_noteLacks_44, k_X4_noteLacks_45, k_X4_noteLacks_48, k_X4_noteLacks_49, k_X4_noteLacks_52, k_X4_noteLacks_55, wp1, wp_s, cutIn, kont, Nat.reduceSub, Nat.reduceAdd, nth, o_const, o_lconst, o_ref, o_iload, o_lload, o_aload, o_istore, o_lstore, o_astore, o_iinc, o_bin, o_div, o_un, o_lbin, o_lsh, o_lcmp, o_i2l, o_l2i, o_if, o_icmp, o_goto, o_dup, o_dup2, o_pop, fav, o_getf, o_putI, o_putZ, o_putL, o_ald, o_ast, o_alen, popn, rst, o_callV, o_callT, o_callS, swx, o_sw, o_ret, o_iret, o_zret, o_cret, o_lret, o_aret, lg, lput, lput2, ls1, isL, entL, wsum, rdI1, rdI2, rdA1, rdA21, rdA22, rdL1, rdL22, rdL21, upN_at, rep, sh_0, F_0_0, F_0_1, F_0_2, F_0_3, F_0_4, F_0_5, F_0_6, F_0_7, F_0_8, sh_1, F_1_0, F_1_1, F_1_2, F_1_3, F_1_4, F_1_5, sh_3, F_3_0, F_3_1, F_3_2, F_3_3, F_3_4, F_3_5, sh_5, F_5_0, F_5_1, F_5_2, F_5_3, F_5_4, F_5_5, F_5_6, F_5_7, F_5_8, sh_12, F_12_0, F_12_1, F_12_2, F_12_3, F_12_4, F_12_5, sh_14, F_14_0, F_14_1, F_14_2, F_14_3, F_14_4, F_14_5, F_14_6, F_14_7, F_14_8, sh_21, F_21_0, F_21_1, F_21_2, F_21_3, F_21_4, F_21_5, F_21_6, F_21_7, F_21_8, sh_28, F_28_0, F_28_1, F_28_2, F_28_3, F_28_4, F_28_5, F_28_6, F_28_7, F_28_8, sh_35, F_35_0, sh_39, F_39_0, F_39_1, F_39_2, F_39_3, F_39_4, F_39_5, F_39_6, F_39_7, F_39_8, F_39_9, F_39_10, F_39_11, F_39_12, F_39_13, A_2, A_4, A_6, A_7, A_8, A_9, A_10, A_11, A_13, A_15, A_16, A_17, A_18, A_19, A_20, A_22, A_23, A_24, A_25, A_26, A_27, A_29, A_30, A_31, A_32, A_33, A_34, A_36, A_37, A_38, A_40, A_41, A_42, A_43, A_44, A_45, A_46, A_47]
    rw [hc]
    simp (disch := omega) only [nI_leI, nI_ltI, nI_eq, nI_1, nI_add, one_shl, nI_or, nI_xor, nI_and, bit_0, bit_1, true_or, or_true, true_and, and_true, eq_self, not_true_eq_false, not_false_eq_true, forall_const]
    refine ⟨fun z => h f g hf (fun l hl2 => hg l (by omega)), fun z => ⟨i, by omega, rfl, ?_⟩⟩
    rw [(hl i (by omega)).1]
    refine ⟨lk i, fsp r (us h0 n) n, rfl, (hl i (by omega)).2, fun j hj => ⟨hf j hj, hblt j hj⟩, ?_⟩
    dsimp only [k_X4_noteLacks_0, k_X4_noteLacks_1, k_X4_noteLacks_2, k_X4_noteLacks_5, k_X4_noteLacks_8, k_X4_noteLacks_11, k_X4_noteLacks_14, k_X4_noteLacks_15, k_X4_noteLacks_16, k_X4_noteLacks_17, k_X4_noteLacks_18, k_X4_noteLacks_21, k_X4_noteLacks_24, k_X4_noteLacks_27, k_X4_noteLacks_28, k_X4_noteLacks_31, k_X4_noteLacks_32, k_X4_noteLacks_33, k_X4_noteLacks_36, k_X4_noteLacks_37, k_X4_noteLacks_40, k_X4_noteLacks_43, k_X4_noteLacks_44, k_X4_noteLacks_45, k_X4_noteLacks_48, k_X4_noteLacks_49, k_X4_noteLacks_52, k_X4_noteLacks_55, wp1, wp_s, cutIn, kont, Nat.reduceSub, Nat.reduceAdd, nth, o_const, o_lconst, o_ref, o_iload, o_lload, o_aload, o_istore, o_lstore, o_astore, o_iinc, o_bin, o_div, o_un, o_lbin, o_lsh, o_lcmp, o_i2l, o_l2i, o_if, o_icmp, o_goto, o_dup, o_dup2, o_pop, fav, o_getf, o_putI, o_putZ, o_putL, o_ald, o_ast, o_alen, popn, rst, o_callV, o_callT, o_callS, swx, o_sw, o_ret, o_iret, o_zret, o_cret, o_lret, o_aret, lg, lput, lput2, ls1, isL, entL, wsum, rdI1, rdI2, rdA1, rdA21, rdA22, rdL1, rdL22, rdL21, upN_at, rep, sh_0, F_0_0, F_0_1, F_0_2, F_0_3, F_0_4, F_0_5, F_0_6, F_0_7, F_0_8, sh_1, F_1_0, F_1_1, F_1_2, F_1_3, F_1_4, F_1_5, sh_3, F_3_0, F_3_1, F_3_2, F_3_3, F_3_4, F_3_5, sh_5, F_5_0, F_5_1, F_5_2, F_5_3, F_5_4, F_5_5, F_5_6, F_5_7, F_5_8, sh_12, F_12_0, F_12_1, F_12_2, F_12_3, F_12_4, F_12_5, sh_14, F_14_0, F_14_1, F_14_2, F_14_3, F_14_4, F_14_5, F_14_6, F_14_7, F_14_8, sh_21, F_21_0, F_21_1, F_21_2, F_21_3, F_21_4, F_21_5, F_21_6, F_21_7, F_21_8, sh_28, F_28_0, F_28_1, F_28_2, F_28_3, F_28_4, F_28_5, F_28_6, F_28_7, F_28_8, sh_35, F_35_0, sh_39, F_39_0, F_39_1, F_39_2, F_39_3, F_39_4, F_39_5, F_39_6, F_39_7, F_39_8, F_39_9, F_39_10, F_39_11, F_39_12, F_39_13, A_2, A_4, A_6, A_7, A_8, A_9, A_10, A_11, A_13, A_15, A_16, A_17, A_18, A_19, A_20, A_22, A_23, A_24, A_25, A_26, A_27, A_29, A_30, A_31, A_32, A_33, A_34, A_36, A_37, A_38, A_40, A_41, A_42, A_43, A_44, A_45, A_46, A_47]
    refine ⟨i, by omega, rfl, cut _ _ ⟨rfl, rfl, i + 1, f, upd g i (nI (rs (fsp r (us h0 n) n) (lk i) 9)), by omega, hf, fun l hl2 => ?_, ?_, rfl, rfl⟩ (by omega) ⟨rfl, vi_eq (nI_1 _), trivial⟩⟩
    · rcases Nat.lt_or_ge l i with e | e
      · rw [upd_n _ _ (by omega)]; exact hg l e
      · rw [show l = i by omega, upd_s]
    · rw [sA_sA]
  · dsimp only [k_X4_noteLacks_0, k_X4_noteLacks_1, k_X4_noteLacks_2, k_X4_noteLacks_5, k_X4_noteLacks_8, k_X4_noteLacks_11, k_X4_noteLacks_14, k_X4_noteLacks_15, k_X4_noteLacks_16, k_X4_noteLacks_17, k_X4_noteLacks_18, k_X4_noteLacks_21, k_X4_noteLacks_24, k_X4_noteLacks_27, k_X4_noteLacks_28, k_X4_noteLacks_31, k_X4_noteLacks_32, k_X4_noteLacks_33, k_X4_noteLacks_36, k_X4_noteLacks_37, k_X4_noteLacks_40, k_X4_noteLacks_43, k_X4_noteLacks_44, k_X4_noteLacks_45, k_X4_noteLacks_48, k_X4_noteLacks_49, k_X4_noteLacks_52, k_X4_noteLacks_55, wp1, wp_s, cutIn, kont, Nat.reduceSub, Nat.reduceAdd, nth, o_const, o_lconst, o_ref, o_iload, o_lload, o_aload, o_istore, o_lstore, o_astore, o_iinc, o_bin, o_div, o_un, o_lbin, o_lsh, o_lcmp, o_i2l, o_l2i, o_if, o_icmp, o_goto, o_dup, o_dup2, o_pop, fav, o_getf, o_putI, o_putZ, o_putL, o_ald, o_ast, o_alen, popn, rst, o_callV, o_callT, o_callS, swx, o_sw, o_ret, o_iret, o_zret, o_cret, o_lret, o_aret, lg, lput, lput2, ls1, isL, entL, wsum, rdI1, rdI2, rdA1, rdA21, rdA22, rdL1, rdL22, rdL21, upN_at, rep, sh_0, F_0_0, F_0_1, F_0_2, F_0_3, F_0_4, F_0_5, F_0_6, F_0_7, F_0_8, sh_1, F_1_0, F_1_1, F_1_2, F_1_3, F_1_4, F_1_5, sh_3, F_3_0, F_3_1, F_3_2, F_3_3, F_3_4, F_3_5, sh_5, F_5_0, F_5_1, F_5_2, F_5_3, F_5_4, F_5_5, F_5_6, F_5_7, F_5_8, sh_12, F_12_0, F_12_1, F_12_2, F_12_3, F_12_4, F_12_5, sh_14, F_14_0, F_14_1, F_14_2, F_14_3, F_14_4, F_14_5, F_14_6, F_14_7, F_14_8, sh_21, F_21_0, F_21_1, F_21_2, F_21_3, F_21_4, F_21_5, F_21_6, F_21_7, F_21_8, sh_28, F_28_0, F_28_1, F_28_2, F_28_3, F_28_4, F_28_5, F_28_6, F_28_7, F_28_8, sh_35, F_35_0, sh_39, F_39_0, F_39_1, F_39_2, F_39_3, F_39_4, F_39_5, F_39_6, F_39_7, F_39_8, F_39_9, F_39_10, F_39_11, F_39_12, F_39_13, A_2, A_4, A_6, A_7, A_8, A_9, A_10, A_11, A_13, A_15, A_16, A_17, A_18, A_19, A_20, A_22, A_23, A_24, A_25, A_26, A_27, A_29, A_30, A_31, A_32, A_33, A_34, A_36, A_37, A_38, A_40, A_41, A_42, A_43, A_44, A_45, A_46, A_47]
    refine ⟨n, rfl, hn, hn8, ?_⟩
    rw [show mk (fun k => !(M.2.2 3 k == -3)) n = us h0 n from us_congr hhk]
    have hul := us_lt h0 hn8
    dsimp only [k_X4_noteLacks_0, k_X4_noteLacks_1, k_X4_noteLacks_2, k_X4_noteLacks_5, k_X4_noteLacks_8, k_X4_noteLacks_11, k_X4_noteLacks_14, k_X4_noteLacks_15, k_X4_noteLacks_16, k_X4_noteLacks_17, k_X4_noteLacks_18, k_X4_noteLacks_21, k_X4_noteLacks_24, k_X4_noteLacks_27, k_X4_noteLacks_28, k_X4_noteLacks_31, k_X4_noteLacks_32, k_X4_noteLacks_33, k_X4_noteLacks_36, k_X4_noteLacks_37, k_X4_noteLacks_40, k_X4_noteLacks_43, k_X4_noteLacks_44, k_X4_noteLacks_45, k_X4_noteLacks_48, k_X4_noteLacks_49, k_X4_noteLacks_52, k_X4_noteLacks_55, wp1, wp_s, cutIn, kont, Nat.reduceSub, Nat.reduceAdd, nth, o_const, o_lconst, o_ref, o_iload, o_lload, o_aload, o_istore, o_lstore, o_astore, o_iinc, o_bin, o_div, o_un, o_lbin, o_lsh, o_lcmp, o_i2l, o_l2i, o_if, o_icmp, o_goto, o_dup, o_dup2, o_pop, fav, o_getf, o_putI, o_putZ, o_putL, o_ald, o_ast, o_alen, popn, rst, o_callV, o_callT, o_callS, swx, o_sw, o_ret, o_iret, o_zret, o_cret, o_lret, o_aret, lg, lput, lput2, ls1, isL, entL, wsum, rdI1, rdI2, rdA1, rdA21, rdA22, rdL1, rdL22, rdL21, upN_at, rep, sh_0, F_0_0, F_0_1, F_0_2, F_0_3, F_0_4, F_0_5, F_0_6, F_0_7, F_0_8, sh_1, F_1_0, F_1_1, F_1_2, F_1_3, F_1_4, F_1_5, sh_3, F_3_0, F_3_1, F_3_2, F_3_3, F_3_4, F_3_5, sh_5, F_5_0, F_5_1, F_5_2, F_5_3, F_5_4, F_5_5, F_5_6, F_5_7, F_5_8, sh_12, F_12_0, F_12_1, F_12_2, F_12_3, F_12_4, F_12_5, sh_14, F_14_0, F_14_1, F_14_2, F_14_3, F_14_4, F_14_5, F_14_6, F_14_7, F_14_8, sh_21, F_21_0, F_21_1, F_21_2, F_21_3, F_21_4, F_21_5, F_21_6, F_21_7, F_21_8, sh_28, F_28_0, F_28_1, F_28_2, F_28_3, F_28_4, F_28_5, F_28_6, F_28_7, F_28_8, sh_35, F_35_0, sh_39, F_39_0, F_39_1, F_39_2, F_39_3, F_39_4, F_39_5, F_39_6, F_39_7, F_39_8, F_39_9, F_39_10, F_39_11, F_39_12, F_39_13, A_2, A_4, A_6, A_7, A_8, A_9, A_10, A_11, A_13, A_15, A_16, A_17, A_18, A_19, A_20, A_22, A_23, A_24, A_25, A_26, A_27, A_29, A_30, A_31, A_32, A_33, A_34, A_36, A_37, A_38, A_40, A_41, A_42, A_43, A_44, A_45, A_46, A_47]
    refine ⟨_, n, c, p, r, h0, lk, rfl, by omega, hX0, fun f hf => ?_⟩
    dsimp only [k_X4_noteLacks_0, k_X4_noteLacks_1, k_X4_noteLacks_2, k_X4_noteLacks_5, k_X4_noteLacks_8, k_X4_noteLacks_11, k_X4_noteLacks_14, k_X4_noteLacks_15, k_X4_noteLacks_16, k_X4_noteLacks_17, k_X4_noteLacks_18, k_X4_noteLacks_21, k_X4_noteLacks_24, k_X4_noteLacks_27, k_X4_noteLacks_28, k_X4_noteLacks_31, k_X4_noteLacks_32, k_X4_noteLacks_33, k_X4_noteLacks_36, k_X4_noteLacks_37, k_X4_noteLacks_40, k_X4_noteLacks_43, k_X4_noteLacks_44, k_X4_noteLacks_45, k_X4_noteLacks_48, k_X4_noteLacks_49, k_X4_noteLacks_52, k_X4_noteLacks_55, wp1, wp_s, cutIn, kont, Nat.reduceSub, Nat.reduceAdd, nth, o_const, o_lconst, o_ref, o_iload, o_lload, o_aload, o_istore, o_lstore, o_astore, o_iinc, o_bin, o_div, o_un, o_lbin, o_lsh, o_lcmp, o_i2l, o_l2i, o_if, o_icmp, o_goto, o_dup, o_dup2, o_pop, fav, o_getf, o_putI, o_putZ, o_putL, o_ald, o_ast, o_alen, popn, rst, o_callV, o_callT, o_callS, swx, o_sw, o_ret, o_iret, o_zret, o_cret, o_lret, o_aret, lg, lput, lput2, ls1, isL, entL, wsum, rdI1, rdI2, rdA1, rdA21, rdA22, rdL1, rdL22, rdL21, upN_at, rep, sh_0, F_0_0, F_0_1, F_0_2, F_0_3, F_0_4, F_0_5, F_0_6, F_0_7, F_0_8, sh_1, F_1_0, F_1_1, F_1_2, F_1_3, F_1_4, F_1_5, sh_3, F_3_0, F_3_1, F_3_2, F_3_3, F_3_4, F_3_5, sh_5, F_5_0, F_5_1, F_5_2, F_5_3, F_5_4, F_5_5, F_5_6, F_5_7, F_5_8, sh_12, F_12_0, F_12_1, F_12_2, F_12_3, F_12_4, F_12_5, sh_14, F_14_0, F_14_1, F_14_2, F_14_3, F_14_4, F_14_5, F_14_6, F_14_7, F_14_8, sh_21, F_21_0, F_21_1, F_21_2, F_21_3, F_21_4, F_21_5, F_21_6, F_21_7, F_21_8, sh_28, F_28_0, F_28_1, F_28_2, F_28_3, F_28_4, F_28_5, F_28_6, F_28_7, F_28_8, sh_35, F_35_0, sh_39, F_39_0, F_39_1, F_39_2, F_39_3, F_39_4, F_39_5, F_39_6, F_39_7, F_39_8, F_39_9, F_39_10, F_39_11, F_39_12, F_39_13, A_2, A_4, A_6, A_7, A_8, A_9, A_10, A_11, A_13, A_15, A_16, A_17, A_18, A_19, A_20, A_22, A_23, A_24, A_25, A_26, A_27, A_29, A_30, A_31, A_32, A_33, A_34, A_36, A_37, A_38, A_40, A_41, A_42, A_43, A_44, A_45, A_46, A_47]
    refine cut _ _ ⟨rfl, rfl, 0, f, M.2.2 29, by omega, hf, fun l hl2 => absurd hl2 (by omega), ?_, rfl, rfl⟩ (by omega) ⟨rfl, rfl, trivial⟩
    exact (sA_id rfl).symm
set_option maxRecDepth 100000 in
theorem v_X4_openedWith : ∀ as M post, S_X4_openedWith as M post → wsum as ≤ 5 ∧ RUN (T_X4_openedWith post) 0 (entL 5 as) [] M := by
  rintro as M post ⟨v, B, n, c, p, r, h0, lk, e, rfl, hv, hB, hX, he, h⟩
  obtain ⟨hn, hn8, hc, hc6, hp, hp4, hr, hhk, hl⟩ := hX
  have hvl := rs_lt (fun j hj => (hB j hj).2) 9 (Nat.le_refl 9) v hv
  refine ⟨by show 2 ≤ 5; omega, run_of [14] (fun μ pc lv st M' => st = [] ∧ pc = 14 ∧ M' = M ∧ ∃ i, i ≤ c ∧ 100 - i = μ ∧ lv = [some (VR 0), some (VI (nI v)), some (VI (nI (rs B v 9))), some (VI (nI (ct (fun l => e l == 0 || e l == rs B v 9) i))), some (VI (nI i))]) 80 200 ?_ ?_⟩
  · rintro μ pc lv st M' ⟨rfl, rfl, rfl, i, hi, rfl, rfl⟩
    dsimp only [k_X4_openedWith_0, k_X4_openedWith_1, k_X4_openedWith_4, k_X4_openedWith_5, k_X4_openedWith_8, k_X4_openedWith_9, k_X4_openedWith_10, k_X4_openedWith_11, k_X4_openedWith_12, k_X4_openedWith_14, k_X4_openedWith_16, k_X4_openedWith_17, k_X4_openedWith_20, k_X4_openedWith_23, k_X4_openedWith_26, k_X4_openedWith_27, k_X4_openedWith_30, k_X4_openedWith_32, k_X4_openedWith_33, k_X4_openedWith_36, k_X4_openedWith_37, k_X4_openedWith_40, k_X4_openedWith_42, k_X4_openedWith_43, k_X4_openedWith_44, k_X4_openedWith_47, k_X4_openedWith_50, k_X4_openedWith_53, k_X4_openedWith_56, k_X4_openedWith_57, wp1, wp_s, cutIn, kont, Nat.reduceSub, Nat.reduceAdd, nth, o_const, o_lconst, o_ref, o_iload, o_lload, o_aload, o_istore, o_lstore, o_astore, o_iinc, o_bin, o_div, o_un, o_lbin, o_lsh, o_lcmp, o_i2l, o_l2i, o_if, o_icmp, o_goto, o_dup, o_dup2, o_pop, fav, o_getf, o_putI, o_putZ, o_putL, o_ald, o_ast, o_alen, popn, rst, o_callV, o_callT, o_callS, swx, o_sw, o_ret, o_iret, o_zret, o_cret, o_lret, o_aret, lg, lput, lput2, ls1, isL, entL, wsum, rdI1, rdI2, rdA1, rdA21, rdA22, rdL1, rdL22, rdL21, upN_at, rep, sh_0, F_0_0, F_0_1, F_0_2, F_0_3, F_0_4, F_0_5, F_0_6, F_0_7, F_0_8, sh_1, F_1_0, F_1_1, F_1_2, F_1_3, F_1_4, F_1_5, sh_3, F_3_0, F_3_1, F_3_2, F_3_3, F_3_4, F_3_5, sh_5, F_5_0, F_5_1, F_5_2, F_5_3, F_5_4, F_5_5, F_5_6, F_5_7, F_5_8, sh_12, F_12_0, F_12_1, F_12_2, F_12_3, F_12_4, F_12_5, sh_14, F_14_0, F_14_1, F_14_2, F_14_3, F_14_4, F_14_5, F_14_6, F_14_7, F_14_8, sh_21, F_21_0, F_21_1, F_21_2, F_21_3, F_21_4, F_21_5, F_21_6, F_21_7, F_21_8, sh_28, F_28_0, F_28_1, F_28_2, F_28_3, F_28_4, F_28_5, F_28_6, F_28_7, F_28_8, sh_35, F_35_0, sh_39, F_39_0, F_39_1, F_39_2, F_39_3, F_39_4, F_39_5, F_39_6, F_39_7, F_39_8, F_39_9, F_39_10, F_39_11, F_39_12, F_39_13, A_2, A_4, A_6, A_7, A_8, A_9, A_10, A_11, A_13, A_15, A_16, A_17, A_18, A_19, A_20, A_22, A_23, A_24, A_25, A_26, A_27, A_29, A_30, A_31, A_32, A_33, A_34, A_36, A_37, A_38, A_40, A_41, A_42, A_43, A_44, A_45, A_46, A_47]
    rw [hc]
    simp (disch := omega) only [nI_leI, nI_ltI, nI_eq, nI_1, nI_add, one_shl, nI_or, nI_xor, nI_and, bit_0, bit_1, true_or, or_true, true_and, and_true, eq_self, not_true_eq_false, not_false_eq_true, forall_const]
    refine ⟨fun z => ?_, fun z => ⟨i, by omega, rfl, ?_⟩⟩
    · rw [show c = i by omega] at h; exact h
    · obtain ⟨e1, e2⟩ := he i (by omega)
      simp only [e1, show (0 : Int32) = nI 0 from rfl]
      simp (disch := omega) only [nI_leI, nI_ltI, nI_eq, nI_1, nI_add, one_shl, nI_or, nI_xor, nI_and, bit_0, bit_1, true_or, or_true, true_and, and_true, eq_self, not_true_eq_false, not_false_eq_true, forall_const]
      refine ⟨fun z2 => cut _ _ ⟨rfl, rfl, rfl, i + 1, by omega, rfl, rfl⟩ (by omega) ⟨rfl, rfl, rfl, vi_eq ?_, rfl, trivial⟩, fun z2 => ⟨i, by omega, rfl, fun z3 => cut _ _ ⟨rfl, rfl, rfl, i + 1, by omega, rfl, rfl⟩ (by omega) ⟨rfl, rfl, rfl, vi_eq ?_, rfl, trivial⟩, fun z3 => cut _ _ ⟨rfl, rfl, rfl, i + 1, by omega, rfl, rfl⟩ (by omega) ⟨rfl, rfl, rfl, vi_eq ?_, rfl, trivial⟩⟩⟩
      · rw [ct, if_pos (by simp [z2])]
      · rw [e1, nI_eq (by omega) (by omega)] at z3
        rw [ct, if_pos (by simp [z3])]
      · rw [e1, nI_eq (by omega) (by omega)] at z3
        rw [ct, if_neg (by simp [z2, z3])]; rfl
  · dsimp only [k_X4_openedWith_0, k_X4_openedWith_1, k_X4_openedWith_4, k_X4_openedWith_5, k_X4_openedWith_8, k_X4_openedWith_9, k_X4_openedWith_10, k_X4_openedWith_11, k_X4_openedWith_12, k_X4_openedWith_14, k_X4_openedWith_16, k_X4_openedWith_17, k_X4_openedWith_20, k_X4_openedWith_23, k_X4_openedWith_26, k_X4_openedWith_27, k_X4_openedWith_30, k_X4_openedWith_32, k_X4_openedWith_33, k_X4_openedWith_36, k_X4_openedWith_37, k_X4_openedWith_40, k_X4_openedWith_42, k_X4_openedWith_43, k_X4_openedWith_44, k_X4_openedWith_47, k_X4_openedWith_50, k_X4_openedWith_53, k_X4_openedWith_56, k_X4_openedWith_57, wp1, wp_s, cutIn, kont, Nat.reduceSub, Nat.reduceAdd, nth, o_const, o_lconst, o_ref, o_iload, o_lload, o_aload, o_istore, o_lstore, o_astore, o_iinc, o_bin, o_div, o_un, o_lbin, o_lsh, o_lcmp, o_i2l, o_l2i, o_if, o_icmp, o_goto, o_dup, o_dup2, o_pop, fav, o_getf, o_putI, o_putZ, o_putL, o_ald, o_ast, o_alen, popn, rst, o_callV, o_callT, o_callS, swx, o_sw, o_ret, o_iret, o_zret, o_cret, o_lret, o_aret, lg, lput, lput2, ls1, isL, entL, wsum, rdI1, rdI2, rdA1, rdA21, rdA22, rdL1, rdL22, rdL21, upN_at, rep, sh_0, F_0_0, F_0_1, F_0_2, F_0_3, F_0_4, F_0_5, F_0_6, F_0_7, F_0_8, sh_1, F_1_0, F_1_1, F_1_2, F_1_3, F_1_4, F_1_5, sh_3, F_3_0, F_3_1, F_3_2, F_3_3, F_3_4, F_3_5, sh_5, F_5_0, F_5_1, F_5_2, F_5_3, F_5_4, F_5_5, F_5_6, F_5_7, F_5_8, sh_12, F_12_0, F_12_1, F_12_2, F_12_3, F_12_4, F_12_5, sh_14, F_14_0, F_14_1, F_14_2, F_14_3, F_14_4, F_14_5, F_14_6, F_14_7, F_14_8, sh_21, F_21_0, F_21_1, F_21_2, F_21_3, F_21_4, F_21_5, F_21_6, F_21_7, F_21_8, sh_28, F_28_0, F_28_1, F_28_2, F_28_3, F_28_4, F_28_5, F_28_6, F_28_7, F_28_8, sh_35, F_35_0, sh_39, F_39_0, F_39_1, F_39_2, F_39_3, F_39_4, F_39_5, F_39_6, F_39_7, F_39_8, F_39_9, F_39_10, F_39_11, F_39_12, F_39_13, A_2, A_4, A_6, A_7, A_8, A_9, A_10, A_11, A_13, A_15, A_16, A_17, A_18, A_19, A_20, A_22, A_23, A_24, A_25, A_26, A_27, A_29, A_30, A_31, A_32, A_33, A_34, A_36, A_37, A_38, A_40, A_41, A_42, A_43, A_44, A_45, A_46, A_47]
    refine ⟨v, B, rfl, hv, hB, ?_⟩
    dsimp only [k_X4_openedWith_0, k_X4_openedWith_1, k_X4_openedWith_4, k_X4_openedWith_5, k_X4_openedWith_8, k_X4_openedWith_9, k_X4_openedWith_10, k_X4_openedWith_11, k_X4_openedWith_12, k_X4_openedWith_14, k_X4_openedWith_16, k_X4_openedWith_17, k_X4_openedWith_20, k_X4_openedWith_23, k_X4_openedWith_26, k_X4_openedWith_27, k_X4_openedWith_30, k_X4_openedWith_32, k_X4_openedWith_33, k_X4_openedWith_36, k_X4_openedWith_37, k_X4_openedWith_40, k_X4_openedWith_42, k_X4_openedWith_43, k_X4_openedWith_44, k_X4_openedWith_47, k_X4_openedWith_50, k_X4_openedWith_53, k_X4_openedWith_56, k_X4_openedWith_57, wp1, wp_s, cutIn, kont, Nat.reduceSub, Nat.reduceAdd, nth, o_const, o_lconst, o_ref, o_iload, o_lload, o_aload, o_istore, o_lstore, o_astore, o_iinc, o_bin, o_div, o_un, o_lbin, o_lsh, o_lcmp, o_i2l, o_l2i, o_if, o_icmp, o_goto, o_dup, o_dup2, o_pop, fav, o_getf, o_putI, o_putZ, o_putL, o_ald, o_ast, o_alen, popn, rst, o_callV, o_callT, o_callS, swx, o_sw, o_ret, o_iret, o_zret, o_cret, o_lret, o_aret, lg, lput, lput2, ls1, isL, entL, wsum, rdI1, rdI2, rdA1, rdA21, rdA22, rdL1, rdL22, rdL21, upN_at, rep, sh_0, F_0_0, F_0_1, F_0_2, F_0_3, F_0_4, F_0_5, F_0_6, F_0_7, F_0_8, sh_1, F_1_0, F_1_1, F_1_2, F_1_3, F_1_4, F_1_5, sh_3, F_3_0, F_3_1, F_3_2, F_3_3, F_3_4, F_3_5, sh_5, F_5_0, F_5_1, F_5_2, F_5_3, F_5_4, F_5_5, F_5_6, F_5_7, F_5_8, sh_12, F_12_0, F_12_1, F_12_2, F_12_3, F_12_4, F_12_5, sh_14, F_14_0, F_14_1, F_14_2, F_14_3, F_14_4, F_14_5, F_14_6, F_14_7, F_14_8, sh_21, F_21_0, F_21_1, F_21_2, F_21_3, F_21_4, F_21_5, F_21_6, F_21_7, F_21_8, sh_28, F_28_0, F_28_1, F_28_2, F_28_3, F_28_4, F_28_5, F_28_6, F_28_7, F_28_8, sh_35, F_35_0, sh_39, F_39_0, F_39_1, F_39_2, F_39_3, F_39_4, F_39_5, F_39_6, F_39_7, F_39_8, F_39_9, F_39_10, F_39_11, F_39_12, F_39_13, A_2, A_4, A_6, A_7, A_8, A_9, A_10, A_11, A_13, A_15, A_16, A_17, A_18, A_19, A_20, A_22, A_23, A_24, A_25, A_26, A_27, A_29, A_30, A_31, A_32, A_33, A_34, A_36, A_37, A_38, A_40, A_41, A_42, A_43, A_44, A_45, A_46, A_47]
    exact cut _ _ ⟨rfl, rfl, rfl, 0, by omega, rfl, rfl⟩ (by omega) ⟨rfl, rfl, rfl, rfl, rfl, trivial⟩
theorem c_X4_leastWish : Ctr yX4_leastWish cX4_leastWish 5 (some .int) ({ frames := 3, cells := 0, slots := 0, locals := 68 } : Room) S_X4_leastWish := ctr_of (T := T_X4_leastWish) (by decide +kernel) (fun post C hr => t_X4_leastWish post C hr) v_X4_leastWish
theorem c_X4_noteLacks : Ctr yX4_noteLacks cX4_noteLacks 2 none ({ frames := 3, cells := 0, slots := 0, locals := 68 } : Room) S_X4_noteLacks := ctr_of (T := T_X4_noteLacks) (by decide +kernel) (fun post C hr => t_X4_noteLacks post C hr) v_X4_noteLacks
theorem c_X4_openedWith : Ctr yX4_openedWith cX4_openedWith 5 (some .int) ({ frames := 1, cells := 0, slots := 0, locals := 23 } : Room) S_X4_openedWith := ctr_of (T := T_X4_openedWith) (by decide +kernel) (fun post C hr => t_X4_openedWith post C hr) v_X4_openedWith
