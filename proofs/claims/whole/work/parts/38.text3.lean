/-! The model's text: a row. -/
def S_X5_row : SP := fun as M post => ∃ L t p, as = [VR 39] ∧ TT M L t ∧ M.1 26 = nI p ∧ p ≤ 301 ∧ (srA t L (tkS t L p) = 1 → RQ t (tkS t L p) (tkE t L p) → post (some (VI (nI (mk (fun n => t (tkS t L p + n) == 120) 9)))) (tkN t L p M)) ∧ (¬ (srA t L (tkS t L p) = 1 ∧ RQ t (tkS t L p) (tkE t L p)) → post (some (VI (-9))) (tkN t L p M))
theorem dX5_row_0 : decode cX5_row 0 = .ok (.aload_n 0, 1) := by decide +kernel
theorem dX5_row_1 : decode cX5_row 1 = .ok (.invokevirtual 74, 3) := by decide +kernel
theorem dX5_row_4 : decode cX5_row 4 = .ok (.aload_n 0, 1) := by decide +kernel
theorem dX5_row_5 : decode cX5_row 5 = .ok (.getfield 58, 3) := by decide +kernel
theorem dX5_row_8 : decode cX5_row 8 = .ok (.iconst 1, 1) := by decide +kernel
theorem dX5_row_9 : decode cX5_row 9 = .ok (.if_icmp .ne 16, 3) := by decide +kernel
theorem dX5_row_12 : decode cX5_row 12 = .ok (.aload_n 0, 1) := by decide +kernel
theorem dX5_row_13 : decode cX5_row 13 = .ok (.getfield 61, 3) := by decide +kernel
theorem dX5_row_16 : decode cX5_row 16 = .ok (.bipush 9, 2) := by decide +kernel
theorem dX5_row_18 : decode cX5_row 18 = .ok (.if_icmp .ne 7, 3) := by decide +kernel
theorem dX5_row_21 : decode cX5_row 21 = .ok (.iconst 0, 1) := by decide +kernel
theorem dX5_row_22 : decode cX5_row 22 = .ok (.goto 5, 3) := by decide +kernel
theorem dX5_row_25 : decode cX5_row 25 = .ok (.bipush (-9), 2) := by decide +kernel
theorem dX5_row_27 : decode cX5_row 27 = .ok (.istore_n 1, 1) := by decide +kernel
theorem dX5_row_28 : decode cX5_row 28 = .ok (.iconst 0, 1) := by decide +kernel
theorem dX5_row_29 : decode cX5_row 29 = .ok (.istore_n 2, 1) := by decide +kernel
theorem dX5_row_30 : decode cX5_row 30 = .ok (.iload_n 2, 1) := by decide +kernel
theorem dX5_row_31 : decode cX5_row 31 = .ok (.bipush 9, 2) := by decide +kernel
theorem dX5_row_33 : decode cX5_row 33 = .ok (.if_icmp .ge 53, 3) := by decide +kernel
theorem dX5_row_36 : decode cX5_row 36 = .ok (.iload_n 1, 1) := by decide +kernel
theorem dX5_row_37 : decode cX5_row 37 = .ok (.bipush (-9), 2) := by decide +kernel
theorem dX5_row_39 : decode cX5_row 39 = .ok (.if_icmp .eq 47, 3) := by decide +kernel
theorem dX5_row_42 : decode cX5_row 42 = .ok (.aload_n 0, 1) := by decide +kernel
theorem dX5_row_43 : decode cX5_row 43 = .ok (.aload_n 0, 1) := by decide +kernel
theorem dX5_row_44 : decode cX5_row 44 = .ok (.getfield 52, 3) := by decide +kernel
theorem dX5_row_47 : decode cX5_row 47 = .ok (.iload_n 2, 1) := by decide +kernel
theorem dX5_row_48 : decode cX5_row 48 = .ok (.iadd, 1) := by decide +kernel
theorem dX5_row_49 : decode cX5_row 49 = .ok (.invokevirtual 48, 3) := by decide +kernel
theorem dX5_row_52 : decode cX5_row 52 = .ok (.istore_n 3, 1) := by decide +kernel
theorem dX5_row_53 : decode cX5_row 53 = .ok (.iload_n 3, 1) := by decide +kernel
theorem dX5_row_54 : decode cX5_row 54 = .ok (.bipush 120, 2) := by decide +kernel
theorem dX5_row_56 : decode cX5_row 56 = .ok (.if_icmp .ne 11, 3) := by decide +kernel
theorem dX5_row_59 : decode cX5_row 59 = .ok (.iload_n 1, 1) := by decide +kernel
theorem dX5_row_60 : decode cX5_row 60 = .ok (.iconst 1, 1) := by decide +kernel
theorem dX5_row_61 : decode cX5_row 61 = .ok (.iload_n 2, 1) := by decide +kernel
theorem dX5_row_62 : decode cX5_row 62 = .ok (.ishl, 1) := by decide +kernel
theorem dX5_row_63 : decode cX5_row 63 = .ok (.ior, 1) := by decide +kernel
theorem dX5_row_64 : decode cX5_row 64 = .ok (.goto 15, 3) := by decide +kernel
theorem dX5_row_67 : decode cX5_row 67 = .ok (.iload_n 3, 1) := by decide +kernel
theorem dX5_row_68 : decode cX5_row 68 = .ok (.bipush 111, 2) := by decide +kernel
theorem dX5_row_70 : decode cX5_row 70 = .ok (.if_icmp .ne 7, 3) := by decide +kernel
theorem dX5_row_73 : decode cX5_row 73 = .ok (.iload_n 1, 1) := by decide +kernel
theorem dX5_row_74 : decode cX5_row 74 = .ok (.goto 5, 3) := by decide +kernel
theorem dX5_row_77 : decode cX5_row 77 = .ok (.bipush (-9), 2) := by decide +kernel
theorem dX5_row_79 : decode cX5_row 79 = .ok (.istore_n 1, 1) := by decide +kernel
theorem dX5_row_80 : decode cX5_row 80 = .ok (.iinc 2 1, 3) := by decide +kernel
theorem dX5_row_83 : decode cX5_row 83 = .ok (.goto (-53), 3) := by decide +kernel
theorem dX5_row_86 : decode cX5_row 86 = .ok (.iload_n 1, 1) := by decide +kernel
theorem dX5_row_87 : decode cX5_row 87 = .ok (.ireturn, 1) := by decide +kernel
def T_X5_row (post : PO) : List (Nat × OP) := [(0, o_aload 0 1), (1, o_callV 5 S_X5_token 0 4), (4, o_aload 0 5), (5, o_getf 5 9 8), (8, o_const 1 9), (9, o_icmp (fun x y => x = y) 12 25), (12, o_aload 0 13), (13, o_getf 5 11 16), (16, o_const 9 18), (18, o_icmp (fun x y => x = y) 21 25), (21, o_const 0 22), (22, o_goto 27), (25, o_const (-9) 27), (27, o_istore 1 28), (28, o_const 0 29), (29, o_istore 2 30), (30, o_iload 2 31), (31, o_const 9 33), (33, o_icmp (fun x y => y ≤ x) 86 36), (36, o_iload 1 37), (37, o_const (-9) 39), (39, o_icmp (fun x y => x = y) 86 42), (42, o_aload 0 43), (43, o_aload 0 44), (44, o_getf 5 10 47), (47, o_iload 2 48), (48, o_bin (fun x y => x + y) 49), (49, o_callV 5 S_X5_byteAt 1 52), (52, o_istore 3 53), (53, o_iload 3 54), (54, o_const 120 56), (56, o_icmp (fun x y => x = y) 59 67), (59, o_iload 1 60), (60, o_const 1 61), (61, o_iload 2 62), (62, o_bin (fun x y => x <<< (y &&& 31)) 63), (63, o_bin (fun x y => x ||| y) 64), (64, o_goto 79), (67, o_iload 3 68), (68, o_const 111 70), (70, o_icmp (fun x y => x = y) 73 77), (73, o_iload 1 74), (74, o_goto 79), (77, o_const (-9) 79), (79, o_istore 1 80), (80, o_iinc 2 1 83), (83, o_goto 30), (86, o_iload 1 87), (87, o_iret post)]
theorem k_X5_row_0 (post : PO) : lk (T_X5_row post) 0 = o_aload 0 1 := rfl
theorem k_X5_row_1 (post : PO) : lk (T_X5_row post) 1 = o_callV 5 S_X5_token 0 4 := rfl
theorem k_X5_row_4 (post : PO) : lk (T_X5_row post) 4 = o_aload 0 5 := rfl
theorem k_X5_row_5 (post : PO) : lk (T_X5_row post) 5 = o_getf 5 9 8 := rfl
theorem k_X5_row_8 (post : PO) : lk (T_X5_row post) 8 = o_const 1 9 := rfl
theorem k_X5_row_9 (post : PO) : lk (T_X5_row post) 9 = o_icmp (fun x y => x = y) 12 25 := rfl
theorem k_X5_row_12 (post : PO) : lk (T_X5_row post) 12 = o_aload 0 13 := rfl
theorem k_X5_row_13 (post : PO) : lk (T_X5_row post) 13 = o_getf 5 11 16 := rfl
theorem k_X5_row_16 (post : PO) : lk (T_X5_row post) 16 = o_const 9 18 := rfl
theorem k_X5_row_18 (post : PO) : lk (T_X5_row post) 18 = o_icmp (fun x y => x = y) 21 25 := rfl
theorem k_X5_row_21 (post : PO) : lk (T_X5_row post) 21 = o_const 0 22 := rfl
theorem k_X5_row_22 (post : PO) : lk (T_X5_row post) 22 = o_goto 27 := rfl
theorem k_X5_row_25 (post : PO) : lk (T_X5_row post) 25 = o_const (-9) 27 := rfl
theorem k_X5_row_27 (post : PO) : lk (T_X5_row post) 27 = o_istore 1 28 := rfl
theorem k_X5_row_28 (post : PO) : lk (T_X5_row post) 28 = o_const 0 29 := rfl
theorem k_X5_row_29 (post : PO) : lk (T_X5_row post) 29 = o_istore 2 30 := rfl
theorem k_X5_row_30 (post : PO) : lk (T_X5_row post) 30 = o_iload 2 31 := rfl
theorem k_X5_row_31 (post : PO) : lk (T_X5_row post) 31 = o_const 9 33 := rfl
theorem k_X5_row_33 (post : PO) : lk (T_X5_row post) 33 = o_icmp (fun x y => y ≤ x) 86 36 := rfl
theorem k_X5_row_36 (post : PO) : lk (T_X5_row post) 36 = o_iload 1 37 := rfl
theorem k_X5_row_37 (post : PO) : lk (T_X5_row post) 37 = o_const (-9) 39 := rfl
theorem k_X5_row_39 (post : PO) : lk (T_X5_row post) 39 = o_icmp (fun x y => x = y) 86 42 := rfl
theorem k_X5_row_42 (post : PO) : lk (T_X5_row post) 42 = o_aload 0 43 := rfl
theorem k_X5_row_43 (post : PO) : lk (T_X5_row post) 43 = o_aload 0 44 := rfl
theorem k_X5_row_44 (post : PO) : lk (T_X5_row post) 44 = o_getf 5 10 47 := rfl
theorem k_X5_row_47 (post : PO) : lk (T_X5_row post) 47 = o_iload 2 48 := rfl
theorem k_X5_row_48 (post : PO) : lk (T_X5_row post) 48 = o_bin (fun x y => x + y) 49 := rfl
theorem k_X5_row_49 (post : PO) : lk (T_X5_row post) 49 = o_callV 5 S_X5_byteAt 1 52 := rfl
theorem k_X5_row_52 (post : PO) : lk (T_X5_row post) 52 = o_istore 3 53 := rfl
theorem k_X5_row_53 (post : PO) : lk (T_X5_row post) 53 = o_iload 3 54 := rfl
theorem k_X5_row_54 (post : PO) : lk (T_X5_row post) 54 = o_const 120 56 := rfl
theorem k_X5_row_56 (post : PO) : lk (T_X5_row post) 56 = o_icmp (fun x y => x = y) 59 67 := rfl
theorem k_X5_row_59 (post : PO) : lk (T_X5_row post) 59 = o_iload 1 60 := rfl
theorem k_X5_row_60 (post : PO) : lk (T_X5_row post) 60 = o_const 1 61 := rfl
theorem k_X5_row_61 (post : PO) : lk (T_X5_row post) 61 = o_iload 2 62 := rfl
theorem k_X5_row_62 (post : PO) : lk (T_X5_row post) 62 = o_bin (fun x y => x <<< (y &&& 31)) 63 := rfl
theorem k_X5_row_63 (post : PO) : lk (T_X5_row post) 63 = o_bin (fun x y => x ||| y) 64 := rfl
theorem k_X5_row_64 (post : PO) : lk (T_X5_row post) 64 = o_goto 79 := rfl
theorem k_X5_row_67 (post : PO) : lk (T_X5_row post) 67 = o_iload 3 68 := rfl
theorem k_X5_row_68 (post : PO) : lk (T_X5_row post) 68 = o_const 111 70 := rfl
theorem k_X5_row_70 (post : PO) : lk (T_X5_row post) 70 = o_icmp (fun x y => x = y) 73 77 := rfl
theorem k_X5_row_73 (post : PO) : lk (T_X5_row post) 73 = o_iload 1 74 := rfl
theorem k_X5_row_74 (post : PO) : lk (T_X5_row post) 74 = o_goto 79 := rfl
theorem k_X5_row_77 (post : PO) : lk (T_X5_row post) 77 = o_const (-9) 79 := rfl
theorem k_X5_row_79 (post : PO) : lk (T_X5_row post) 79 = o_istore 1 80 := rfl
theorem k_X5_row_80 (post : PO) : lk (T_X5_row post) 80 = o_iinc 2 1 83 := rfl
theorem k_X5_row_83 (post : PO) : lk (T_X5_row post) 83 = o_goto 30 := rfl
theorem k_X5_row_86 (post : PO) : lk (T_X5_row post) 86 = o_iload 1 87 := rfl
theorem k_X5_row_87 (post : PO) : lk (T_X5_row post) 87 = o_iret post := rfl
set_option maxRecDepth 100000 in
theorem t_X5_row {p : Program} {l : Launch} {e : Env} {s : State} {m : MethodId} {args : Array Value} {below : List Frame} {meth : Method} {c : Code} {D : va_G} {dA : Nat → ClassId} {ad : Nat → Nat} (post : PO) (C : CX p s m args meth c cX5_row 4 yX5_row.cls D dA ad (AA ad s.heap.size)) (hr : meth.sig.returnType = (some .int)) : SndL (WW p l e ({ frames := 3, cells := 0, slots := 0, locals := 62 } : Room) s m args below meth c 0 0 (MQ below (CQ D dA ad post (AA ad s.heap.size)) args s 0 0 (AA ad s.heap.size)) 4 D dA ad (AA ad s.heap.size)) (T_X5_row post) := by
  refine snd_c (s_aload_n C rfl dX5_row_0) ?_
  refine snd_c (s_callV C (ci := 5) c_X5_token rfl cw_RX5_74 ⟨rfl, rfl⟩ ⟨by decide +kernel, by decide +kernel, by decide +kernel⟩ ⟨by decide, by decide⟩ ⟨Nat.zero_le _, Nat.zero_le _⟩ dX5_row_1) ?_
  refine snd_c (s_aload_n C rfl dX5_row_4) ?_
  refine snd_c (s_getf C (ci := 5) (j := 9) (T := TX5) rfl inX5 (by decide) fl_RX5_58 dX5_row_5) ?_
  refine snd_c (s_iconst C dX5_row_8 rfl) ?_
  refine snd_c (s_icmp_ne C dX5_row_9 (by decide)) ?_
  refine snd_c (s_aload_n C rfl dX5_row_12) ?_
  refine snd_c (s_getf C (ci := 5) (j := 11) (T := TX5) rfl inX5 (by decide) fl_RX5_61 dX5_row_13) ?_
  refine snd_c (s_bipush C dX5_row_16 rfl) ?_
  refine snd_c (s_icmp_ne C dX5_row_18 (by decide)) ?_
  refine snd_c (s_iconst C dX5_row_21 rfl) ?_
  refine snd_c (s_goto C dX5_row_22 (by decide)) ?_
  refine snd_c (s_bipush C dX5_row_25 rfl) ?_
  refine snd_c (s_istore_n C rfl (by decide) dX5_row_27) ?_
  refine snd_c (s_iconst C dX5_row_28 rfl) ?_
  refine snd_c (s_istore_n C rfl (by decide) dX5_row_29) ?_
  refine snd_c (s_iload_n C rfl dX5_row_30) ?_
  refine snd_c (s_bipush C dX5_row_31 rfl) ?_
  refine snd_c (s_icmp_ge C dX5_row_33 (by decide)) ?_
  refine snd_c (s_iload_n C rfl dX5_row_36) ?_
  refine snd_c (s_bipush C dX5_row_37 rfl) ?_
  refine snd_c (s_icmp_eq C dX5_row_39 (by decide)) ?_
  refine snd_c (s_aload_n C rfl dX5_row_42) ?_
  refine snd_c (s_aload_n C rfl dX5_row_43) ?_
  refine snd_c (s_getf C (ci := 5) (j := 10) (T := TX5) rfl inX5 (by decide) fl_RX5_52 dX5_row_44) ?_
  refine snd_c (s_iload_n C rfl dX5_row_47) ?_
  refine snd_c (s_iadd C dX5_row_48) ?_
  refine snd_c (s_callV C (ci := 5) c_X5_byteAt rfl cw_RX5_48 ⟨rfl, rfl⟩ ⟨by decide +kernel, by decide +kernel, by decide +kernel⟩ ⟨by decide, by decide⟩ ⟨Nat.zero_le _, Nat.zero_le _⟩ dX5_row_49) ?_
  refine snd_c (s_istore_n C rfl (by decide) dX5_row_52) ?_
  refine snd_c (s_iload_n C rfl dX5_row_53) ?_
  refine snd_c (s_bipush C dX5_row_54 rfl) ?_
  refine snd_c (s_icmp_ne C dX5_row_56 (by decide)) ?_
  refine snd_c (s_iload_n C rfl dX5_row_59) ?_
  refine snd_c (s_iconst C dX5_row_60 rfl) ?_
  refine snd_c (s_iload_n C rfl dX5_row_61) ?_
  refine snd_c (s_ishl C dX5_row_62) ?_
  refine snd_c (s_ior C dX5_row_63) ?_
  refine snd_c (s_goto C dX5_row_64 (by decide)) ?_
  refine snd_c (s_iload_n C rfl dX5_row_67) ?_
  refine snd_c (s_bipush C dX5_row_68 rfl) ?_
  refine snd_c (s_icmp_ne C dX5_row_70 (by decide)) ?_
  refine snd_c (s_iload_n C rfl dX5_row_73) ?_
  refine snd_c (s_goto C dX5_row_74 (by decide)) ?_
  refine snd_c (s_bipush C dX5_row_77 rfl) ?_
  refine snd_c (s_istore_n C rfl (by decide) dX5_row_79) ?_
  refine snd_c (s_iinc C (by decide) rfl dX5_row_80) ?_
  refine snd_c (s_goto C dX5_row_83 (by decide)) ?_
  refine snd_c (s_iload_n C rfl dX5_row_86) ?_
  refine snd_c (s_iret C hr dX5_row_87) ?_
  exact trivial
theorem tkE_le {t : Nat → Nat} {L p : Nat} (hL : L ≤ 300) (hp : p ≤ 301) : tkS t L p ≤ 301 ∧ tkE t L p ≤ 1000 := by
  have hge := sk_ge isS t (L - p) p
  have hS : tkS t L p ≤ 301 := by unfold tkS; omega
  refine ⟨hS, ?_⟩
  unfold tkE
  have e1 := sk_ge isW t (L - tkS t L p) (tkS t L p)
  have e2 := sk_ge isD t (L - tkS t L p) (tkS t L p)
  split
  · omega
  · split
    · omega
    · split <;> omega
theorem tkE_w {t : Nat → Nat} {L p : Nat} (h : srA t L (tkS t L p) = 1) : tkE t L p ≤ L := by
  obtain ⟨g1, g2⟩ := sr_1.mp h
  unfold tkE
  rw [if_neg (by omega), if_pos g2]
  have e1 := sk_ge isW t (L - tkS t L p) (tkS t L p)
  omega
set_option maxRecDepth 100000 in
theorem v_X5_row : ∀ as M post, S_X5_row as M post → wsum as ≤ 4 ∧ RUN (T_X5_row post) 0 (entL 4 as) [] M := by
  rintro as M post ⟨L, t, p, rfl, hT, hp, hpL, h1, h2⟩
  have hT2 := hT.2.1
  obtain ⟨hS, hE⟩ := tkE_le (t := t) hT2 hpL
  unfold tkN at h1 h2
  refine ⟨by show 1 ≤ 4; omega, run_of [30] (fun μ pc lv st M' => st = [] ∧ pc = 30 ∧ M' = sI 29 (nI (tkE t L p - tkS t L p)) (sI 28 (nI (tkS t L p)) (sI 27 (srA t L (tkS t L p)) (sI 26 (nI (tkE t L p)) M))) ∧ ∃ i a, i ≤ 9 ∧ ((srA t L (tkS t L p) = 1 ∧ tkE t L p - tkS t L p = 9 ∧ (∀ m, m < i → t (tkS t L p + m) = 120 ∨ t (tkS t L p + m) = 111) ∧ a = nI (mk (fun n => t (tkS t L p + n) == 120) i)) ∨ (a = -9 ∧ ¬ (srA t L (tkS t L p) = 1 ∧ RQ t (tkS t L p) (tkE t L p)))) ∧ 100 - i = μ ∧ lv = [some (VR 39), some (VI a), some (VI (nI i)), none]) 80 200 ?_ ?_⟩
  · rintro μ pc lv st M' ⟨rfl, rfl, rfl, i, a, hi, hJ, rfl, rfl⟩
    dsimp only [k_X5_row_0, k_X5_row_1, k_X5_row_4, k_X5_row_5, k_X5_row_8, k_X5_row_9, k_X5_row_12, k_X5_row_13, k_X5_row_16, k_X5_row_18, k_X5_row_21, k_X5_row_22, k_X5_row_25, k_X5_row_27, k_X5_row_28, k_X5_row_29, k_X5_row_30, k_X5_row_31, k_X5_row_33, k_X5_row_36, k_X5_row_37, k_X5_row_39, k_X5_row_42, k_X5_row_43, k_X5_row_44, k_X5_row_47, k_X5_row_48, k_X5_row_49, k_X5_row_52, k_X5_row_53, k_X5_row_54, k_X5_row_56, k_X5_row_59, k_X5_row_60, k_X5_row_61, k_X5_row_62, k_X5_row_63, k_X5_row_64, k_X5_row_67, k_X5_row_68, k_X5_row_70, k_X5_row_73, k_X5_row_74, k_X5_row_77, k_X5_row_79, k_X5_row_80, k_X5_row_83, k_X5_row_86, k_X5_row_87, wp1, wp_s, cutIn, kont, Nat.reduceSub, Nat.reduceAdd, nth, o_const, o_lconst, o_ref, o_iload, o_lload, o_aload, o_istore, o_lstore, o_astore, o_iinc, o_bin, o_div, o_un, o_lbin, o_lsh, o_lcmp, o_i2l, o_l2i, o_if, o_icmp, o_goto, o_dup, o_dup2, o_pop, fav, o_getf, o_putI, o_putZ, o_putL, o_ald, o_ast, o_alen, popn, rst, o_callV, o_callT, o_callS, swx, o_sw, o_ret, o_iret, o_zret, o_cret, o_lret, o_aret, lg, lput, lput2, ls1, isL, entL, wsum, rdI1, rdI2, rdA1, rdA21, rdA22, rdL1, rdL22, rdL21, upN_at, rep, sh_0, F_0_0, F_0_1, F_0_2, F_0_3, F_0_4, F_0_5, F_0_6, F_0_7, F_0_8, sh_1, F_1_0, F_1_1, F_1_2, F_1_3, F_1_4, F_1_5, sh_3, F_3_0, F_3_1, F_3_2, F_3_3, F_3_4, F_3_5, sh_5, F_5_0, F_5_1, F_5_2, F_5_3, F_5_4, F_5_5, F_5_6, F_5_7, F_5_8, sh_12, F_12_0, F_12_1, F_12_2, F_12_3, F_12_4, F_12_5, sh_14, F_14_0, F_14_1, F_14_2, F_14_3, F_14_4, F_14_5, F_14_6, F_14_7, F_14_8, sh_21, F_21_0, F_21_1, F_21_2, F_21_3, F_21_4, F_21_5, F_21_6, F_21_7, F_21_8, sh_28, F_28_0, F_28_1, F_28_2, F_28_3, F_28_4, F_28_5, F_28_6, F_28_7, F_28_8, sh_35, F_35_0, sh_39, F_39_0, F_39_1, F_39_2, F_39_3, F_39_4, F_39_5, F_39_6, F_39_7, F_39_8, F_39_9, F_39_10, F_39_11, F_39_12, F_39_13, A_2, A_4, A_6, A_7, A_8, A_9, A_10, A_11, A_13, A_15, A_16, A_17, A_18, A_19, A_20, A_22, A_23, A_24, A_25, A_26, A_27, A_29, A_30, A_31, A_32, A_33, A_34, A_36, A_37, A_38, A_40, A_41, A_42, A_43, A_44, A_45, A_46, A_47]
    rw [show (9 : Int32) = nI 9 from rfl, nI_add]
    simp (disch := omega) only [nI_leI, nI_ltI, nI_eq, nI_1, nI_add, one_shl, nI_or, nI_xor, nI_and, bit_0, bit_1, true_or, or_true, true_and, and_true, eq_self, not_true_eq_false, not_false_eq_true, forall_const]
    rcases hJ with ⟨w1, w2, w3, rfl⟩ | ⟨rfl, w1⟩
    · have hg := sr_1.mp w1
      have hEw := tkE_w w1
      have hmk : mk (fun n => t (tkS t L p + n) == 120) i < 512 := Nat.lt_of_lt_of_le (mk_lt _ i) (show 2 ^ i ≤ 2 ^ 9 from Nat.pow_le_pow_right (by omega) hi)
      refine ⟨fun w4 => ?_, fun w4 => ⟨fun w5 => absurd w5 (ne9 (by omega)), fun _ => ⟨L, t, tkS t L p + i, rfl, TT_of hT rfl rfl, by omega, ?_⟩⟩⟩
      · have e : i = 9 := by omega
        subst e
        exact h1 w1 ⟨w2, w3⟩
      · have g : tkS t L p + i < L := by omega
        have gt := (hT.2.2 _ g).2
        rw [bAt_in g]
        dsimp only [k_X5_row_0, k_X5_row_1, k_X5_row_4, k_X5_row_5, k_X5_row_8, k_X5_row_9, k_X5_row_12, k_X5_row_13, k_X5_row_16, k_X5_row_18, k_X5_row_21, k_X5_row_22, k_X5_row_25, k_X5_row_27, k_X5_row_28, k_X5_row_29, k_X5_row_30, k_X5_row_31, k_X5_row_33, k_X5_row_36, k_X5_row_37, k_X5_row_39, k_X5_row_42, k_X5_row_43, k_X5_row_44, k_X5_row_47, k_X5_row_48, k_X5_row_49, k_X5_row_52, k_X5_row_53, k_X5_row_54, k_X5_row_56, k_X5_row_59, k_X5_row_60, k_X5_row_61, k_X5_row_62, k_X5_row_63, k_X5_row_64, k_X5_row_67, k_X5_row_68, k_X5_row_70, k_X5_row_73, k_X5_row_74, k_X5_row_77, k_X5_row_79, k_X5_row_80, k_X5_row_83, k_X5_row_86, k_X5_row_87, wp1, wp_s, cutIn, kont, Nat.reduceSub, Nat.reduceAdd, nth, o_const, o_lconst, o_ref, o_iload, o_lload, o_aload, o_istore, o_lstore, o_astore, o_iinc, o_bin, o_div, o_un, o_lbin, o_lsh, o_lcmp, o_i2l, o_l2i, o_if, o_icmp, o_goto, o_dup, o_dup2, o_pop, fav, o_getf, o_putI, o_putZ, o_putL, o_ald, o_ast, o_alen, popn, rst, o_callV, o_callT, o_callS, swx, o_sw, o_ret, o_iret, o_zret, o_cret, o_lret, o_aret, lg, lput, lput2, ls1, isL, entL, wsum, rdI1, rdI2, rdA1, rdA21, rdA22, rdL1, rdL22, rdL21, upN_at, rep, sh_0, F_0_0, F_0_1, F_0_2, F_0_3, F_0_4, F_0_5, F_0_6, F_0_7, F_0_8, sh_1, F_1_0, F_1_1, F_1_2, F_1_3, F_1_4, F_1_5, sh_3, F_3_0, F_3_1, F_3_2, F_3_3, F_3_4, F_3_5, sh_5, F_5_0, F_5_1, F_5_2, F_5_3, F_5_4, F_5_5, F_5_6, F_5_7, F_5_8, sh_12, F_12_0, F_12_1, F_12_2, F_12_3, F_12_4, F_12_5, sh_14, F_14_0, F_14_1, F_14_2, F_14_3, F_14_4, F_14_5, F_14_6, F_14_7, F_14_8, sh_21, F_21_0, F_21_1, F_21_2, F_21_3, F_21_4, F_21_5, F_21_6, F_21_7, F_21_8, sh_28, F_28_0, F_28_1, F_28_2, F_28_3, F_28_4, F_28_5, F_28_6, F_28_7, F_28_8, sh_35, F_35_0, sh_39, F_39_0, F_39_1, F_39_2, F_39_3, F_39_4, F_39_5, F_39_6, F_39_7, F_39_8, F_39_9, F_39_10, F_39_11, F_39_12, F_39_13, A_2, A_4, A_6, A_7, A_8, A_9, A_10, A_11, A_13, A_15, A_16, A_17, A_18, A_19, A_20, A_22, A_23, A_24, A_25, A_26, A_27, A_29, A_30, A_31, A_32, A_33, A_34, A_36, A_37, A_38, A_40, A_41, A_42, A_43, A_44, A_45, A_46, A_47]
        rw [show (120 : Int32) = nI 120 from rfl, show (111 : Int32) = nI 111 from rfl, nI_eq (by omega) (by omega), nI_eq (by omega) (by omega)]
        refine ⟨fun w5 => ?_, fun w5 => ⟨fun w6 => ?_, fun w6 => ?_⟩⟩
        · refine cut _ _ ⟨rfl, rfl, rfl, i + 1, _, by omega, Or.inl ⟨w1, w2, fun m hm => ?_, ?_⟩, rfl, rfl⟩ (by omega) ⟨rfl, rfl, by first | rfl | exact vi_eq (nI_1 _), trivial⟩
          · rcases Nat.lt_or_ge m i with g1 | g1
            · exact w3 m g1
            · rw [show m = i by omega]; exact Or.inl w5
          · rw [one_shl (by omega), nI_or, mk_1 (by simp [w5])]
        · refine cut _ _ ⟨rfl, rfl, rfl, i + 1, _, by omega, Or.inl ⟨w1, w2, fun m hm => ?_, ?_⟩, rfl, rfl⟩ (by omega) ⟨rfl, rfl, by first | rfl | exact vi_eq (nI_1 _), trivial⟩
          · rcases Nat.lt_or_ge m i with g1 | g1
            · exact w3 m g1
            · rw [show m = i by omega]; exact Or.inr w6
          · rw [mk_0 (by simp [w5])]
        · refine cut _ _ ⟨rfl, rfl, rfl, i + 1, -9, by omega, Or.inr ⟨rfl, fun e => ?_⟩, rfl, rfl⟩ (by omega) ⟨rfl, rfl, by first | rfl | exact vi_eq (nI_1 _), trivial⟩
          exact (e.2.2 i (by omega)).elim w5 w6
    · refine ⟨fun _ => h2 w1, fun _ => ⟨fun _ => h2 w1, fun w4 => absurd rfl w4⟩⟩
  · dsimp only [k_X5_row_0, k_X5_row_1, k_X5_row_4, k_X5_row_5, k_X5_row_8, k_X5_row_9, k_X5_row_12, k_X5_row_13, k_X5_row_16, k_X5_row_18, k_X5_row_21, k_X5_row_22, k_X5_row_25, k_X5_row_27, k_X5_row_28, k_X5_row_29, k_X5_row_30, k_X5_row_31, k_X5_row_33, k_X5_row_36, k_X5_row_37, k_X5_row_39, k_X5_row_42, k_X5_row_43, k_X5_row_44, k_X5_row_47, k_X5_row_48, k_X5_row_49, k_X5_row_52, k_X5_row_53, k_X5_row_54, k_X5_row_56, k_X5_row_59, k_X5_row_60, k_X5_row_61, k_X5_row_62, k_X5_row_63, k_X5_row_64, k_X5_row_67, k_X5_row_68, k_X5_row_70, k_X5_row_73, k_X5_row_74, k_X5_row_77, k_X5_row_79, k_X5_row_80, k_X5_row_83, k_X5_row_86, k_X5_row_87, wp1, wp_s, cutIn, kont, Nat.reduceSub, Nat.reduceAdd, nth, o_const, o_lconst, o_ref, o_iload, o_lload, o_aload, o_istore, o_lstore, o_astore, o_iinc, o_bin, o_div, o_un, o_lbin, o_lsh, o_lcmp, o_i2l, o_l2i, o_if, o_icmp, o_goto, o_dup, o_dup2, o_pop, fav, o_getf, o_putI, o_putZ, o_putL, o_ald, o_ast, o_alen, popn, rst, o_callV, o_callT, o_callS, swx, o_sw, o_ret, o_iret, o_zret, o_cret, o_lret, o_aret, lg, lput, lput2, ls1, isL, entL, wsum, rdI1, rdI2, rdA1, rdA21, rdA22, rdL1, rdL22, rdL21, upN_at, rep, sh_0, F_0_0, F_0_1, F_0_2, F_0_3, F_0_4, F_0_5, F_0_6, F_0_7, F_0_8, sh_1, F_1_0, F_1_1, F_1_2, F_1_3, F_1_4, F_1_5, sh_3, F_3_0, F_3_1, F_3_2, F_3_3, F_3_4, F_3_5, sh_5, F_5_0, F_5_1, F_5_2, F_5_3, F_5_4, F_5_5, F_5_6, F_5_7, F_5_8, sh_12, F_12_0, F_12_1, F_12_2, F_12_3, F_12_4, F_12_5, sh_14, F_14_0, F_14_1, F_14_2, F_14_3, F_14_4, F_14_5, F_14_6, F_14_7, F_14_8, sh_21, F_21_0, F_21_1, F_21_2, F_21_3, F_21_4, F_21_5, F_21_6, F_21_7, F_21_8, sh_28, F_28_0, F_28_1, F_28_2, F_28_3, F_28_4, F_28_5, F_28_6, F_28_7, F_28_8, sh_35, F_35_0, sh_39, F_39_0, F_39_1, F_39_2, F_39_3, F_39_4, F_39_5, F_39_6, F_39_7, F_39_8, F_39_9, F_39_10, F_39_11, F_39_12, F_39_13, A_2, A_4, A_6, A_7, A_8, A_9, A_10, A_11, A_13, A_15, A_16, A_17, A_18, A_19, A_20, A_22, A_23, A_24, A_25, A_26, A_27, A_29, A_30, A_31, A_32, A_33, A_34, A_36, A_37, A_38, A_40, A_41, A_42, A_43, A_44, A_45, A_46, A_47]
    refine ⟨L, t, p, rfl, hT, hp, hpL, ?_⟩
    unfold tkN
    dsimp only [k_X5_row_0, k_X5_row_1, k_X5_row_4, k_X5_row_5, k_X5_row_8, k_X5_row_9, k_X5_row_12, k_X5_row_13, k_X5_row_16, k_X5_row_18, k_X5_row_21, k_X5_row_22, k_X5_row_25, k_X5_row_27, k_X5_row_28, k_X5_row_29, k_X5_row_30, k_X5_row_31, k_X5_row_33, k_X5_row_36, k_X5_row_37, k_X5_row_39, k_X5_row_42, k_X5_row_43, k_X5_row_44, k_X5_row_47, k_X5_row_48, k_X5_row_49, k_X5_row_52, k_X5_row_53, k_X5_row_54, k_X5_row_56, k_X5_row_59, k_X5_row_60, k_X5_row_61, k_X5_row_62, k_X5_row_63, k_X5_row_64, k_X5_row_67, k_X5_row_68, k_X5_row_70, k_X5_row_73, k_X5_row_74, k_X5_row_77, k_X5_row_79, k_X5_row_80, k_X5_row_83, k_X5_row_86, k_X5_row_87, wp1, wp_s, cutIn, kont, Nat.reduceSub, Nat.reduceAdd, nth, o_const, o_lconst, o_ref, o_iload, o_lload, o_aload, o_istore, o_lstore, o_astore, o_iinc, o_bin, o_div, o_un, o_lbin, o_lsh, o_lcmp, o_i2l, o_l2i, o_if, o_icmp, o_goto, o_dup, o_dup2, o_pop, fav, o_getf, o_putI, o_putZ, o_putL, o_ald, o_ast, o_alen, popn, rst, o_callV, o_callT, o_callS, swx, o_sw, o_ret, o_iret, o_zret, o_cret, o_lret, o_aret, lg, lput, lput2, ls1, isL, entL, wsum, rdI1, rdI2, rdA1, rdA21, rdA22, rdL1, rdL22, rdL21, upN_at, rep, sh_0, F_0_0, F_0_1, F_0_2, F_0_3, F_0_4, F_0_5, F_0_6, F_0_7, F_0_8, sh_1, F_1_0, F_1_1, F_1_2, F_1_3, F_1_4, F_1_5, sh_3, F_3_0, F_3_1, F_3_2, F_3_3, F_3_4, F_3_5, sh_5, F_5_0, F_5_1, F_5_2, F_5_3, F_5_4, F_5_5, F_5_6, F_5_7, F_5_8, sh_12, F_12_0, F_12_1, F_12_2, F_12_3, F_12_4, F_12_5, sh_14, F_14_0, F_14_1, F_14_2, F_14_3, F_14_4, F_14_5, F_14_6, F_14_7, F_14_8, sh_21, F_21_0, F_21_1, F_21_2, F_21_3, F_21_4, F_21_5, F_21_6, F_21_7, F_21_8, sh_28, F_28_0, F_28_1, F_28_2, F_28_3, F_28_4, F_28_5, F_28_6, F_28_7, F_28_8, sh_35, F_35_0, sh_39, F_39_0, F_39_1, F_39_2, F_39_3, F_39_4, F_39_5, F_39_6, F_39_7, F_39_8, F_39_9, F_39_10, F_39_11, F_39_12, F_39_13, A_2, A_4, A_6, A_7, A_8, A_9, A_10, A_11, A_13, A_15, A_16, A_17, A_18, A_19, A_20, A_22, A_23, A_24, A_25, A_26, A_27, A_29, A_30, A_31, A_32, A_33, A_34, A_36, A_37, A_38, A_40, A_41, A_42, A_43, A_44, A_45, A_46, A_47]
    rw [show (9 : Int32) = nI 9 from rfl, nI_eq (by omega) (by omega)]
    refine ⟨fun w1 => ⟨fun w2 => ?_, fun w2 => ?_⟩, fun w1 => ?_⟩
    · exact cut _ _ ⟨rfl, rfl, rfl, 0, 0, by omega, Or.inl ⟨w1, w2, fun m hm => absurd hm (by omega), rfl⟩, rfl, rfl⟩ (by omega) ⟨rfl, rfl, rfl, trivial⟩
    · exact cut _ _ ⟨rfl, rfl, rfl, 0, -9, by omega, Or.inr ⟨rfl, fun e => w2 e.2.1⟩, rfl, rfl⟩ (by omega) ⟨rfl, rfl, rfl, trivial⟩
    · exact cut _ _ ⟨rfl, rfl, rfl, 0, -9, by omega, Or.inr ⟨rfl, fun e => w1 e.1⟩, rfl, rfl⟩ (by omega) ⟨rfl, rfl, rfl, trivial⟩
theorem c_X5_row : Ctr yX5_row cX5_row 4 (some .int) ({ frames := 3, cells := 0, slots := 0, locals := 62 } : Room) S_X5_row := ctr_of (T := T_X5_row) (by decide +kernel) (fun post C hr => t_X5_row post C hr) v_X5_row
