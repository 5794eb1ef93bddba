/-! The class's face: groups, wishes, what a lost key shuts, what a row brings. -/
def flt (P : Nat → Bool) (n : Nat) : List Nat := (List.range n).filter P
theorem flt_s (P : Nat → Bool) (n : Nat) : flt P (n + 1) = if P n = true then flt P n ++ [n] else flt P n := by
  unfold flt
  rw [List.range_succ, List.filter_append]
  split
  · rename_i h; simp [h]
  · rename_i h; simp [h]
theorem flt_pre (P : Nat → Bool) : ∀ (n m i k : Nat), n ≤ m → (flt P n)[i]? = some k → (flt P m)[i]? = some k := by
  intro n m i k hnm h
  obtain ⟨d, rfl⟩ := Nat.exists_eq_add_of_le hnm
  clear hnm
  induction d with
  | zero => exact h
  | succ d ih =>
    rw [show n + (d + 1) = (n + d) + 1 by omega, flt_s]
    split
    · rw [List.getElem?_append_left (List.getElem?_eq_some_iff.mp ih).1]; exact ih
    · exact ih
theorem flt_le (P : Nat → Bool) (n : Nat) : (flt P n).length ≤ n := by
  unfold flt
  exact Nat.le_trans (List.length_filter_le _ _) (by simp)
def gopB (r : Nat → Nat) (h : Nat → Int32) (n p : Nat) (lk : Nat → Nat) (c g l : Nat) : Bool := (opn r n lk c (hd h g p n)).testBit l
def isLB (r : Nat → Nat) (h : Nat → Int32) (n p : Nat) (lk : Nat → Nat) (c l g : Nat) : Bool := gopB r h n p lk c g l && (List.range p).all (fun q => !(g.testBit q) || !(gopB r h n p lk c (g ^^^ 2 ^ q) l))
theorem isLB_iff {r : Nat → Nat} {h : Nat → Int32} {n p : Nat} {lk : Nat → Nat} {c l g : Nat} : isLB r h n p lk c l g = true ↔ isLst r h n p lk c g l := by
  unfold isLB isLst gop gopB
  rw [Bool.and_eq_true, List.all_eq_true]
  constructor
  · rintro ⟨h1, h2⟩
    refine ⟨h1, fun q hq hb z => ?_⟩
    have := h2 q (List.mem_range.mpr hq)
    rw [hb, z] at this
    cases this
  · rintro ⟨h1, h2⟩
    refine ⟨h1, fun q hq => ?_⟩
    have := h2 q (List.mem_range.mp hq)
    cases hb : g.testBit q with
    | false => rfl
    | true =>
      have := this hb
      simpa using this
def S_X4_groups : SP := fun as M post => ∃ x i n c p r h lk, as = [VR 0, VI x, VI i] ∧ XW M n c p r h lk ∧ (¬ ((0 ≤ x ∧ x < nI c) ∧ -1 ≤ i) → post (some (VI (-1))) M) ∧ (∀ l, x = nI l → l < c → i = -1 → ∀ f, post (some (VI (nI (flt (isLB r h n p lk c l) (2 ^ p)).length))) (sA 27 f M)) ∧
  (∀ l j, x = nI l → l < c → i = nI j → j < 2 ^ 31 → (∀ g, (flt (isLB r h n p lk c l) (2 ^ p))[j]? = some g → ∀ f, post (some (VI (nI g))) (sA 27 f M)) ∧ ((flt (isLB r h n p lk c l) (2 ^ p))[j]? = none → ∀ f, post (some (VI (-5))) (sA 27 f M)))
theorem cw_RX4_146 : ∀ w ∈ ([.methodLink RX4 146 yX4_isLeastFor, .instanceMethod yX4_isLeastFor, .selects yX4_isLeastFor.cls yX4_isLeastFor yX4_isLeastFor, .initialized yX4_isLeastFor.cls, .code yX4_isLeastFor cX4_isLeastFor 4 (some .boolean)] : List Cond), w ∈ tb := tb_all [504, 506, 16, 54, 507] (by decide +kernel) (by decide +kernel)
theorem dX4_groups_0 : decode cX4_groups 0 = .ok (.aload_n 0, 1) := by decide +kernel
theorem dX4_groups_1 : decode cX4_groups 1 = .ok (.getfield 19, 3) := by decide +kernel
theorem dX4_groups_4 : decode cX4_groups 4 = .ok (.iload_n 1, 1) := by decide +kernel
theorem dX4_groups_5 : decode cX4_groups 5 = .ok (.invokevirtual 87, 3) := by decide +kernel
theorem dX4_groups_8 : decode cX4_groups 8 = .ok (.ifCond .eq 8, 3) := by decide +kernel
theorem dX4_groups_11 : decode cX4_groups 11 = .ok (.iload_n 2, 1) := by decide +kernel
theorem dX4_groups_12 : decode cX4_groups 12 = .ok (.iconst (-1), 1) := by decide +kernel
theorem dX4_groups_13 : decode cX4_groups 13 = .ok (.if_icmp .ge 5, 3) := by decide +kernel
theorem dX4_groups_16 : decode cX4_groups 16 = .ok (.iconst (-1), 1) := by decide +kernel
theorem dX4_groups_17 : decode cX4_groups 17 = .ok (.ireturn, 1) := by decide +kernel
theorem dX4_groups_18 : decode cX4_groups 18 = .ok (.iconst 0, 1) := by decide +kernel
theorem dX4_groups_19 : decode cX4_groups 19 = .ok (.istore_n 3, 1) := by decide +kernel
theorem dX4_groups_20 : decode cX4_groups 20 = .ok (.iconst 0, 1) := by decide +kernel
theorem dX4_groups_21 : decode cX4_groups 21 = .ok (.istore 4, 2) := by decide +kernel
theorem dX4_groups_23 : decode cX4_groups 23 = .ok (.iload 4, 2) := by decide +kernel
theorem dX4_groups_25 : decode cX4_groups 25 = .ok (.aload_n 0, 1) := by decide +kernel
theorem dX4_groups_26 : decode cX4_groups 26 = .ok (.getfield 19, 3) := by decide +kernel
theorem dX4_groups_29 : decode cX4_groups 29 = .ok (.invokevirtual 137, 3) := by decide +kernel
theorem dX4_groups_32 : decode cX4_groups 32 = .ok (.if_icmp .gt 30, 3) := by decide +kernel
theorem dX4_groups_35 : decode cX4_groups 35 = .ok (.aload_n 0, 1) := by decide +kernel
theorem dX4_groups_36 : decode cX4_groups 36 = .ok (.iload 4, 2) := by decide +kernel
theorem dX4_groups_38 : decode cX4_groups 38 = .ok (.iload_n 1, 1) := by decide +kernel
theorem dX4_groups_39 : decode cX4_groups 39 = .ok (.invokevirtual 146, 3) := by decide +kernel
theorem dX4_groups_42 : decode cX4_groups 42 = .ok (.ifCond .eq 14, 3) := by decide +kernel
theorem dX4_groups_45 : decode cX4_groups 45 = .ok (.iload_n 3, 1) := by decide +kernel
theorem dX4_groups_46 : decode cX4_groups 46 = .ok (.iload_n 2, 1) := by decide +kernel
theorem dX4_groups_47 : decode cX4_groups 47 = .ok (.if_icmp .ne 6, 3) := by decide +kernel
theorem dX4_groups_50 : decode cX4_groups 50 = .ok (.iload 4, 2) := by decide +kernel
theorem dX4_groups_52 : decode cX4_groups 52 = .ok (.ireturn, 1) := by decide +kernel
theorem dX4_groups_53 : decode cX4_groups 53 = .ok (.iinc 3 1, 3) := by decide +kernel
theorem dX4_groups_56 : decode cX4_groups 56 = .ok (.iinc 4 1, 3) := by decide +kernel
theorem dX4_groups_59 : decode cX4_groups 59 = .ok (.goto (-36), 3) := by decide +kernel
theorem dX4_groups_62 : decode cX4_groups 62 = .ok (.iload_n 2, 1) := by decide +kernel
theorem dX4_groups_63 : decode cX4_groups 63 = .ok (.iconst (-1), 1) := by decide +kernel
theorem dX4_groups_64 : decode cX4_groups 64 = .ok (.if_icmp .ne 7, 3) := by decide +kernel
theorem dX4_groups_67 : decode cX4_groups 67 = .ok (.iload_n 3, 1) := by decide +kernel
theorem dX4_groups_68 : decode cX4_groups 68 = .ok (.goto 5, 3) := by decide +kernel
theorem dX4_groups_71 : decode cX4_groups 71 = .ok (.bipush (-5), 2) := by decide +kernel
theorem dX4_groups_73 : decode cX4_groups 73 = .ok (.ireturn, 1) := by decide +kernel
def T_X4_groups (post : PO) : List (Nat × OP) := [(0, o_aload 0 1), (1, o_getf 4 1 4), (4, o_iload 1 5), (5, o_callV 0 S_X0_hasLock 1 8), (8, o_if (fun x => x = 0) 16 11), (11, o_iload 2 12), (12, o_const (-1) 13), (13, o_icmp (fun x y => y ≤ x) 18 16), (16, o_const (-1) 17), (17, o_iret post), (18, o_const 0 19), (19, o_istore 3 20), (20, o_const 0 21), (21, o_istore 4 23), (23, o_iload 4 25), (25, o_aload 0 26), (26, o_getf 4 1 29), (29, o_callV 0 S_X0_everybody 0 32), (32, o_icmp (fun x y => y < x) 62 35), (35, o_aload 0 36), (36, o_iload 4 38), (38, o_iload 1 39), (39, o_callV 4 S_X4_isLeastFor 2 42), (42, o_if (fun x => x = 0) 56 45), (45, o_iload 3 46), (46, o_iload 2 47), (47, o_icmp (fun x y => x = y) 50 53), (50, o_iload 4 52), (52, o_iret post), (53, o_iinc 3 1 56), (56, o_iinc 4 1 59), (59, o_goto 23), (62, o_iload 2 63), (63, o_const (-1) 64), (64, o_icmp (fun x y => x = y) 67 71), (67, o_iload 3 68), (68, o_goto 73), (71, o_const (-5) 73), (73, o_iret post)]
theorem k_X4_groups_0 (post : PO) : lk (T_X4_groups post) 0 = o_aload 0 1 := rfl
theorem k_X4_groups_1 (post : PO) : lk (T_X4_groups post) 1 = o_getf 4 1 4 := rfl
theorem k_X4_groups_4 (post : PO) : lk (T_X4_groups post) 4 = o_iload 1 5 := rfl
theorem k_X4_groups_5 (post : PO) : lk (T_X4_groups post) 5 = o_callV 0 S_X0_hasLock 1 8 := rfl
theorem k_X4_groups_8 (post : PO) : lk (T_X4_groups post) 8 = o_if (fun x => x = 0) 16 11 := rfl
theorem k_X4_groups_11 (post : PO) : lk (T_X4_groups post) 11 = o_iload 2 12 := rfl
theorem k_X4_groups_12 (post : PO) : lk (T_X4_groups post) 12 = o_const (-1) 13 := rfl
theorem k_X4_groups_13 (post : PO) : lk (T_X4_groups post) 13 = o_icmp (fun x y => y ≤ x) 18 16 := rfl
theorem k_X4_groups_16 (post : PO) : lk (T_X4_groups post) 16 = o_const (-1) 17 := rfl
theorem k_X4_groups_17 (post : PO) : lk (T_X4_groups post) 17 = o_iret post := rfl
theorem k_X4_groups_18 (post : PO) : lk (T_X4_groups post) 18 = o_const 0 19 := rfl
theorem k_X4_groups_19 (post : PO) : lk (T_X4_groups post) 19 = o_istore 3 20 := rfl
theorem k_X4_groups_20 (post : PO) : lk (T_X4_groups post) 20 = o_const 0 21 := rfl
theorem k_X4_groups_21 (post : PO) : lk (T_X4_groups post) 21 = o_istore 4 23 := rfl
theorem k_X4_groups_23 (post : PO) : lk (T_X4_groups post) 23 = o_iload 4 25 := rfl
theorem k_X4_groups_25 (post : PO) : lk (T_X4_groups post) 25 = o_aload 0 26 := rfl
theorem k_X4_groups_26 (post : PO) : lk (T_X4_groups post) 26 = o_getf 4 1 29 := rfl
theorem k_X4_groups_29 (post : PO) : lk (T_X4_groups post) 29 = o_callV 0 S_X0_everybody 0 32 := rfl
theorem k_X4_groups_32 (post : PO) : lk (T_X4_groups post) 32 = o_icmp (fun x y => y < x) 62 35 := rfl
theorem k_X4_groups_35 (post : PO) : lk (T_X4_groups post) 35 = o_aload 0 36 := rfl
theorem k_X4_groups_36 (post : PO) : lk (T_X4_groups post) 36 = o_iload 4 38 := rfl
theorem k_X4_groups_38 (post : PO) : lk (T_X4_groups post) 38 = o_iload 1 39 := rfl
theorem k_X4_groups_39 (post : PO) : lk (T_X4_groups post) 39 = o_callV 4 S_X4_isLeastFor 2 42 := rfl
theorem k_X4_groups_42 (post : PO) : lk (T_X4_groups post) 42 = o_if (fun x => x = 0) 56 45 := rfl
theorem k_X4_groups_45 (post : PO) : lk (T_X4_groups post) 45 = o_iload 3 46 := rfl
theorem k_X4_groups_46 (post : PO) : lk (T_X4_groups post) 46 = o_iload 2 47 := rfl
theorem k_X4_groups_47 (post : PO) : lk (T_X4_groups post) 47 = o_icmp (fun x y => x = y) 50 53 := rfl
theorem k_X4_groups_50 (post : PO) : lk (T_X4_groups post) 50 = o_iload 4 52 := rfl
theorem k_X4_groups_52 (post : PO) : lk (T_X4_groups post) 52 = o_iret post := rfl
theorem k_X4_groups_53 (post : PO) : lk (T_X4_groups post) 53 = o_iinc 3 1 56 := rfl
theorem k_X4_groups_56 (post : PO) : lk (T_X4_groups post) 56 = o_iinc 4 1 59 := rfl
theorem k_X4_groups_59 (post : PO) : lk (T_X4_groups post) 59 = o_goto 23 := rfl
theorem k_X4_groups_62 (post : PO) : lk (T_X4_groups post) 62 = o_iload 2 63 := rfl
theorem k_X4_groups_63 (post : PO) : lk (T_X4_groups post) 63 = o_const (-1) 64 := rfl
theorem k_X4_groups_64 (post : PO) : lk (T_X4_groups post) 64 = o_icmp (fun x y => x = y) 67 71 := rfl
theorem k_X4_groups_67 (post : PO) : lk (T_X4_groups post) 67 = o_iload 3 68 := rfl
theorem k_X4_groups_68 (post : PO) : lk (T_X4_groups post) 68 = o_goto 73 := rfl
theorem k_X4_groups_71 (post : PO) : lk (T_X4_groups post) 71 = o_const (-5) 73 := rfl
theorem k_X4_groups_73 (post : PO) : lk (T_X4_groups post) 73 = o_iret post := rfl
set_option maxRecDepth 100000 in
theorem t_X4_groups {p : Program} {l : Launch} {e : Env} {s : State} {m : MethodId} {args : Array Value} {below : List Frame} {meth : Method} {c : Code} {D : va_G} {dA : Nat → ClassId} {ad : Nat → Nat} (post : PO) (C : CX p s m args meth c cX4_groups 5 yX4_groups.cls D dA ad (AA ad s.heap.size)) (hr : meth.sig.returnType = (some .int)) : SndL (WW p l e ({ frames := 6, cells := 0, slots := 0, locals := 136 } : Room) s m args below meth c 0 0 (MQ below (CQ D dA ad post (AA ad s.heap.size)) args s 0 0 (AA ad s.heap.size)) 5 D dA ad (AA ad s.heap.size)) (T_X4_groups post) := by
  refine snd_c (s_aload_n C rfl dX4_groups_0) ?_
  refine snd_c (s_getf C (ci := 4) (j := 1) (T := TX4) rfl inX4 (by decide) fl_RX4_19 dX4_groups_1) ?_
  refine snd_c (s_iload_n C rfl dX4_groups_4) ?_
  refine snd_c (s_callV C (ci := 0) c_X0_hasLock rfl cw_RX4_87 ⟨rfl, rfl⟩ ⟨by decide +kernel, by decide +kernel, by decide +kernel⟩ ⟨by decide, by decide⟩ ⟨Nat.zero_le _, Nat.zero_le _⟩ dX4_groups_5) ?_
  refine snd_c (s_if_eq C dX4_groups_8 (by decide)) ?_
  refine snd_c (s_iload_n C rfl dX4_groups_11) ?_
  refine snd_c (s_iconst C dX4_groups_12 rfl) ?_
  refine snd_c (s_icmp_ge C dX4_groups_13 (by decide)) ?_
  refine snd_c (s_iconst C dX4_groups_16 rfl) ?_
  refine snd_c (s_iret C hr dX4_groups_17) ?_
  refine snd_c (s_iconst C dX4_groups_18 rfl) ?_
  refine snd_c (s_istore_n C rfl (by decide) dX4_groups_19) ?_
  refine snd_c (s_iconst C dX4_groups_20 rfl) ?_
  refine snd_c (s_istore C (by decide) dX4_groups_21) ?_
  refine snd_c (s_iload C dX4_groups_23) ?_
  refine snd_c (s_aload_n C rfl dX4_groups_25) ?_
  refine snd_c (s_getf C (ci := 4) (j := 1) (T := TX4) rfl inX4 (by decide) fl_RX4_19 dX4_groups_26) ?_
  refine snd_c (s_callV C (ci := 0) c_X0_everybody rfl cw_RX4_137 ⟨rfl, rfl⟩ ⟨by decide +kernel, by decide +kernel, by decide +kernel⟩ ⟨by decide, by decide⟩ ⟨Nat.zero_le _, Nat.zero_le _⟩ dX4_groups_29) ?_
  refine snd_c (s_icmp_gt C dX4_groups_32 (by decide)) ?_
  refine snd_c (s_aload_n C rfl dX4_groups_35) ?_
  refine snd_c (s_iload C dX4_groups_36) ?_
  refine snd_c (s_iload_n C rfl dX4_groups_38) ?_
  refine snd_c (s_callV C (ci := 4) c_X4_isLeastFor rfl cw_RX4_146 ⟨rfl, rfl⟩ ⟨by decide +kernel, by decide +kernel, by decide +kernel⟩ ⟨by decide, by decide⟩ ⟨Nat.zero_le _, Nat.zero_le _⟩ dX4_groups_39) ?_
  refine snd_c (s_if_eq C dX4_groups_42 (by decide)) ?_
  refine snd_c (s_iload_n C rfl dX4_groups_45) ?_
  refine snd_c (s_iload_n C rfl dX4_groups_46) ?_
  refine snd_c (s_icmp_ne C dX4_groups_47 (by decide)) ?_
  refine snd_c (s_iload C dX4_groups_50) ?_
  refine snd_c (s_iret C hr dX4_groups_52) ?_
  refine snd_c (s_iinc C (by decide) rfl dX4_groups_53) ?_
  refine snd_c (s_iinc C (by decide) rfl dX4_groups_56) ?_
  refine snd_c (s_goto C dX4_groups_59 (by decide)) ?_
  refine snd_c (s_iload_n C rfl dX4_groups_62) ?_
  refine snd_c (s_iconst C dX4_groups_63 rfl) ?_
  refine snd_c (s_icmp_ne C dX4_groups_64 (by decide)) ?_
  refine snd_c (s_iload_n C rfl dX4_groups_67) ?_
  refine snd_c (s_goto C dX4_groups_68 (by decide)) ?_
  refine snd_c (s_bipush C dX4_groups_71 rfl) ?_
  refine snd_c (s_iret C hr dX4_groups_73) ?_
  exact trivial
theorem m1_of {i : Int32} (h : -1 ≤ i) (h2 : ¬ i = -1) : ∃ j, j < 2 ^ 31 ∧ i = nI j := by
  refine nI_of fun z => h2 ?_
  rw [Int32.lt_iff_toInt_lt] at z
  rw [Int32.le_iff_toInt_le] at h
  refine Int32.toInt_inj.mp ?_
  simp at z h ⊢
  omega
set_option maxRecDepth 100000 in
theorem v_X4_groups : ∀ as M post, S_X4_groups as M post → wsum as ≤ 5 ∧ RUN (T_X4_groups post) 0 (entL 5 as) [] M := by
  rintro as M post ⟨x, i, n, c, p, r, h0, lk, rfl, hX, h1, h2, h3⟩
  have hX0 := hX
  obtain ⟨hn, hn8, hc, hc6, hp, hp4, hr, hhk, hl⟩ := hX
  have hev := ev_lt hp4
  have hpp := Nat.one_le_two_pow (n := p)
  refine ⟨by show 3 ≤ 5; omega, run_of [23] (fun μ pc lv st M' => st = [] ∧ pc = 23 ∧ -1 ≤ i ∧ ∃ l g f, x = nI l ∧ l < c ∧ g ≤ 2 ^ p ∧ (∀ j, j < 2 ^ 31 → i = nI j → (flt (isLB r h0 n p lk c l) g).length ≤ j) ∧ M' = sA 27 f M ∧ 100 - g = μ ∧ lv = [some (VR 0), some (VI x), some (VI i), some (VI (nI (flt (isLB r h0 n p lk c l) g).length)), some (VI (nI g))]) 60 200 ?_ ?_⟩
  · rintro μ pc lv st M' ⟨rfl, rfl, hi, l, g, f, rfl, hlc, hg, hq, rfl, rfl, rfl⟩
    have hfl := flt_le (isLB r h0 n p lk c l) g
    dsimp only [k_X4_groups_0, k_X4_groups_1, k_X4_groups_4, k_X4_groups_5, k_X4_groups_8, k_X4_groups_11, k_X4_groups_12, k_X4_groups_13, k_X4_groups_16, k_X4_groups_17, k_X4_groups_18, k_X4_groups_19, k_X4_groups_20, k_X4_groups_21, k_X4_groups_23, k_X4_groups_25, k_X4_groups_26, k_X4_groups_29, k_X4_groups_32, k_X4_groups_35, k_X4_groups_36, k_X4_groups_38, k_X4_groups_39, k_X4_groups_42, k_X4_groups_45, k_X4_groups_46, k_X4_groups_47, k_X4_groups_50, k_X4_groups_52, k_X4_groups_53, k_X4_groups_56, k_X4_groups_59, k_X4_groups_62, k_X4_groups_63, k_X4_groups_64, k_X4_groups_67, k_X4_groups_68, k_X4_groups_71, k_X4_groups_73, wp1, wp_s, cutIn, kont, Nat.reduceSub, Nat.reduceAdd, nth, o_const, o_lconst, o_ref, o_iload, o_lload, o_aload, o_istore, o_lstore, o_astore, o_iinc, o_bin, o_div, o_un, o_lbin, o_lsh, o_lcmp, o_i2l, o_l2i, o_if, o_icmp, o_goto, o_dup, o_dup2, o_pop, fav, o_getf, o_putI, o_putZ, o_putL, o_ald, o_ast, o_alen, popn, rst, o_callV, o_callT, o_callS, swx, o_sw, o_ret, o_iret, o_zret, o_cret, o_lret, o_aret, lg, lput, lput2, ls1, isL, entL, wsum, rdI1, rdI2, rdA1, rdA21, rdA22, rdL1, rdL22, rdL21, upN_at, rep, sh_0, F_0_0, F_0_1, F_0_2, F_0_3, F_0_4, F_0_5, F_0_6, F_0_7, F_0_8, sh_1, F_1_0, F_1_1, F_1_2, F_1_3, F_1_4, F_1_5, sh_3, F_3_0, F_3_1, F_3_2, F_3_3, F_3_4, F_3_5, sh_5, F_5_0, F_5_1, F_5_2, F_5_3, F_5_4, F_5_5, F_5_6, F_5_7, F_5_8, sh_12, F_12_0, F_12_1, F_12_2, F_12_3, F_12_4, F_12_5, sh_14, F_14_0, F_14_1, F_14_2, F_14_3, F_14_4, F_14_5, F_14_6, F_14_7, F_14_8, sh_21, F_21_0, F_21_1, F_21_2, F_21_3, F_21_4, F_21_5, F_21_6, F_21_7, F_21_8, sh_28, F_28_0, F_28_1, F_28_2, F_28_3, F_28_4, F_28_5, F_28_6, F_28_7, F_28_8, sh_35, F_35_0, sh_39, F_39_0, F_39_1, F_39_2, F_39_3, F_39_4, F_39_5, F_39_6, F_39_7, F_39_8, F_39_9, F_39_10, F_39_11, F_39_12, F_39_13, A_2, A_4, A_6, A_7, A_8, A_9, A_10, A_11, A_13, A_15, A_16, A_17, A_18, A_19, A_20, A_22, A_23, A_24, A_25, A_26, A_27, A_29, A_30, A_31, A_32, A_33, A_34, A_36, A_37, A_38, A_40, A_41, A_42, A_43, A_44, A_45, A_46, A_47]
    refine ⟨p, rfl, hp, hp4, ?_⟩
    dsimp only [k_X4_groups_0, k_X4_groups_1, k_X4_groups_4, k_X4_groups_5, k_X4_groups_8, k_X4_groups_11, k_X4_groups_12, k_X4_groups_13, k_X4_groups_16, k_X4_groups_17, k_X4_groups_18, k_X4_groups_19, k_X4_groups_20, k_X4_groups_21, k_X4_groups_23, k_X4_groups_25, k_X4_groups_26, k_X4_groups_29, k_X4_groups_32, k_X4_groups_35, k_X4_groups_36, k_X4_groups_38, k_X4_groups_39, k_X4_groups_42, k_X4_groups_45, k_X4_groups_46, k_X4_groups_47, k_X4_groups_50, k_X4_groups_52, k_X4_groups_53, k_X4_groups_56, k_X4_groups_59, k_X4_groups_62, k_X4_groups_63, k_X4_groups_64, k_X4_groups_67, k_X4_groups_68, k_X4_groups_71, k_X4_groups_73, wp1, wp_s, cutIn, kont, Nat.reduceSub, Nat.reduceAdd, nth, o_const, o_lconst, o_ref, o_iload, o_lload, o_aload, o_istore, o_lstore, o_astore, o_iinc, o_bin, o_div, o_un, o_lbin, o_lsh, o_lcmp, o_i2l, o_l2i, o_if, o_icmp, o_goto, o_dup, o_dup2, o_pop, fav, o_getf, o_putI, o_putZ, o_putL, o_ald, o_ast, o_alen, popn, rst, o_callV, o_callT, o_callS, swx, o_sw, o_ret, o_iret, o_zret, o_cret, o_lret, o_aret, lg, lput, lput2, ls1, isL, entL, wsum, rdI1, rdI2, rdA1, rdA21, rdA22, rdL1, rdL22, rdL21, upN_at, rep, sh_0, F_0_0, F_0_1, F_0_2, F_0_3, F_0_4, F_0_5, F_0_6, F_0_7, F_0_8, sh_1, F_1_0, F_1_1, F_1_2, F_1_3, F_1_4, F_1_5, sh_3, F_3_0, F_3_1, F_3_2, F_3_3, F_3_4, F_3_5, sh_5, F_5_0, F_5_1, F_5_2, F_5_3, F_5_4, F_5_5, F_5_6, F_5_7, F_5_8, sh_12, F_12_0, F_12_1, F_12_2, F_12_3, F_12_4, F_12_5, sh_14, F_14_0, F_14_1, F_14_2, F_14_3, F_14_4, F_14_5, F_14_6, F_14_7, F_14_8, sh_21, F_21_0, F_21_1, F_21_2, F_21_3, F_21_4, F_21_5, F_21_6, F_21_7, F_21_8, sh_28, F_28_0, F_28_1, F_28_2, F_28_3, F_28_4, F_28_5, F_28_6, F_28_7, F_28_8, sh_35, F_35_0, sh_39, F_39_0, F_39_1, F_39_2, F_39_3, F_39_4, F_39_5, F_39_6, F_39_7, F_39_8, F_39_9, F_39_10, F_39_11, F_39_12, F_39_13, A_2, A_4, A_6, A_7, A_8, A_9, A_10, A_11, A_13, A_15, A_16, A_17, A_18, A_19, A_20, A_22, A_23, A_24, A_25, A_26, A_27, A_29, A_30, A_31, A_32, A_33, A_34, A_36, A_37, A_38, A_40, A_41, A_42, A_43, A_44, A_45, A_46, A_47]
    simp (disch := omega) only [nI_leI, nI_ltI, nI_eq, nI_1, nI_add, one_shl, nI_or, nI_xor, nI_and, bit_0, bit_1, true_or, or_true, true_and, and_true, eq_self, not_true_eq_false, not_false_eq_true, forall_const]
    refine ⟨fun z => ?_, fun z => ⟨g, l, n, c, p, r, h0, lk, rfl, by omega, by omega, XW_27 hX0 f, fun f2 => ⟨fun z2 => ?_, fun z2 => ?_⟩⟩⟩
    · have e : g = 2 ^ p := by omega
      subst e
      refine ⟨fun q => h2 l rfl hlc q f, fun q => ?_⟩
      obtain ⟨j, hj, rfl⟩ := m1_of hi q
      exact (h3 l j rfl hlc rfl hj).2 (List.getElem?_eq_none (hq j hj rfl)) f
    · have e := isLB_iff.mpr z2
      dsimp only [k_X4_groups_0, k_X4_groups_1, k_X4_groups_4, k_X4_groups_5, k_X4_groups_8, k_X4_groups_11, k_X4_groups_12, k_X4_groups_13, k_X4_groups_16, k_X4_groups_17, k_X4_groups_18, k_X4_groups_19, k_X4_groups_20, k_X4_groups_21, k_X4_groups_23, k_X4_groups_25, k_X4_groups_26, k_X4_groups_29, k_X4_groups_32, k_X4_groups_35, k_X4_groups_36, k_X4_groups_38, k_X4_groups_39, k_X4_groups_42, k_X4_groups_45, k_X4_groups_46, k_X4_groups_47, k_X4_groups_50, k_X4_groups_52, k_X4_groups_53, k_X4_groups_56, k_X4_groups_59, k_X4_groups_62, k_X4_groups_63, k_X4_groups_64, k_X4_groups_67, k_X4_groups_68, k_X4_groups_71, k_X4_groups_73, wp1, wp_s, cutIn, kont, Nat.reduceSub, Nat.reduceAdd, nth, o_const, o_lconst, o_ref, o_iload, o_lload, o_aload, o_istore, o_lstore, o_astore, o_iinc, o_bin, o_div, o_un, o_lbin, o_lsh, o_lcmp, o_i2l, o_l2i, o_if, o_icmp, o_goto, o_dup, o_dup2, o_pop, fav, o_getf, o_putI, o_putZ, o_putL, o_ald, o_ast, o_alen, popn, rst, o_callV, o_callT, o_callS, swx, o_sw, o_ret, o_iret, o_zret, o_cret, o_lret, o_aret, lg, lput, lput2, ls1, isL, entL, wsum, rdI1, rdI2, rdA1, rdA21, rdA22, rdL1, rdL22, rdL21, upN_at, rep, sh_0, F_0_0, F_0_1, F_0_2, F_0_3, F_0_4, F_0_5, F_0_6, F_0_7, F_0_8, sh_1, F_1_0, F_1_1, F_1_2, F_1_3, F_1_4, F_1_5, sh_3, F_3_0, F_3_1, F_3_2, F_3_3, F_3_4, F_3_5, sh_5, F_5_0, F_5_1, F_5_2, F_5_3, F_5_4, F_5_5, F_5_6, F_5_7, F_5_8, sh_12, F_12_0, F_12_1, F_12_2, F_12_3, F_12_4, F_12_5, sh_14, F_14_0, F_14_1, F_14_2, F_14_3, F_14_4, F_14_5, F_14_6, F_14_7, F_14_8, sh_21, F_21_0, F_21_1, F_21_2, F_21_3, F_21_4, F_21_5, F_21_6, F_21_7, F_21_8, sh_28, F_28_0, F_28_1, F_28_2, F_28_3, F_28_4, F_28_5, F_28_6, F_28_7, F_28_8, sh_35, F_35_0, sh_39, F_39_0, F_39_1, F_39_2, F_39_3, F_39_4, F_39_5, F_39_6, F_39_7, F_39_8, F_39_9, F_39_10, F_39_11, F_39_12, F_39_13, A_2, A_4, A_6, A_7, A_8, A_9, A_10, A_11, A_13, A_15, A_16, A_17, A_18, A_19, A_20, A_22, A_23, A_24, A_25, A_26, A_27, A_29, A_30, A_31, A_32, A_33, A_34, A_36, A_37, A_38, A_40, A_41, A_42, A_43, A_44, A_45, A_46, A_47]
      rw [sA_sA]
      refine ⟨fun q => absurd q (by decide), fun _ => ⟨fun q => ?_, fun q => cut _ _ ⟨rfl, rfl, hi, l, g + 1, f2, rfl, hlc, by omega, fun j hj hij => ?_, rfl, rfl, rfl⟩ (by omega) ⟨rfl, rfl, rfl, vi_eq ?_, vi_eq (nI_1 _), trivial⟩⟩⟩
      · refine (h3 l (flt (isLB r h0 n p lk c l) g).length rfl hlc q.symm (by omega)).1 g (flt_pre _ (g + 1) _ _ _ (by omega) ?_) f2
        rw [flt_s, if_pos e, List.getElem?_append_right (Nat.le_refl _)]
        simp
      · rw [flt_s, if_pos e, List.length_append, List.length_singleton]
        have g1 := hq j hj hij
        have g2 : (flt (isLB r h0 n p lk c l) g).length ≠ j := fun z => q (by rw [hij, z])
        omega
      · rw [flt_s, if_pos e, List.length_append, List.length_singleton, nI_1]
    · have e : ¬ isLB r h0 n p lk c l g = true := fun z => z2 (isLB_iff.mp z)
      dsimp only [k_X4_groups_0, k_X4_groups_1, k_X4_groups_4, k_X4_groups_5, k_X4_groups_8, k_X4_groups_11, k_X4_groups_12, k_X4_groups_13, k_X4_groups_16, k_X4_groups_17, k_X4_groups_18, k_X4_groups_19, k_X4_groups_20, k_X4_groups_21, k_X4_groups_23, k_X4_groups_25, k_X4_groups_26, k_X4_groups_29, k_X4_groups_32, k_X4_groups_35, k_X4_groups_36, k_X4_groups_38, k_X4_groups_39, k_X4_groups_42, k_X4_groups_45, k_X4_groups_46, k_X4_groups_47, k_X4_groups_50, k_X4_groups_52, k_X4_groups_53, k_X4_groups_56, k_X4_groups_59, k_X4_groups_62, k_X4_groups_63, k_X4_groups_64, k_X4_groups_67, k_X4_groups_68, k_X4_groups_71, k_X4_groups_73, wp1, wp_s, cutIn, kont, Nat.reduceSub, Nat.reduceAdd, nth, o_const, o_lconst, o_ref, o_iload, o_lload, o_aload, o_istore, o_lstore, o_astore, o_iinc, o_bin, o_div, o_un, o_lbin, o_lsh, o_lcmp, o_i2l, o_l2i, o_if, o_icmp, o_goto, o_dup, o_dup2, o_pop, fav, o_getf, o_putI, o_putZ, o_putL, o_ald, o_ast, o_alen, popn, rst, o_callV, o_callT, o_callS, swx, o_sw, o_ret, o_iret, o_zret, o_cret, o_lret, o_aret, lg, lput, lput2, ls1, isL, entL, wsum, rdI1, rdI2, rdA1, rdA21, rdA22, rdL1, rdL22, rdL21, upN_at, rep, sh_0, F_0_0, F_0_1, F_0_2, F_0_3, F_0_4, F_0_5, F_0_6, F_0_7, F_0_8, sh_1, F_1_0, F_1_1, F_1_2, F_1_3, F_1_4, F_1_5, sh_3, F_3_0, F_3_1, F_3_2, F_3_3, F_3_4, F_3_5, sh_5, F_5_0, F_5_1, F_5_2, F_5_3, F_5_4, F_5_5, F_5_6, F_5_7, F_5_8, sh_12, F_12_0, F_12_1, F_12_2, F_12_3, F_12_4, F_12_5, sh_14, F_14_0, F_14_1, F_14_2, F_14_3, F_14_4, F_14_5, F_14_6, F_14_7, F_14_8, sh_21, F_21_0, F_21_1, F_21_2, F_21_3, F_21_4, F_21_5, F_21_6, F_21_7, F_21_8, sh_28, F_28_0, F_28_1, F_28_2, F_28_3, F_28_4, F_28_5, F_28_6, F_28_7, F_28_8, sh_35, F_35_0, sh_39, F_39_0, F_39_1, F_39_2, F_39_3, F_39_4, F_39_5, F_39_6, F_39_7, F_39_8, F_39_9, F_39_10, F_39_11, F_39_12, F_39_13, A_2, A_4, A_6, A_7, A_8, A_9, A_10, A_11, A_13, A_15, A_16, A_17, A_18, A_19, A_20, A_22, A_23, A_24, A_25, A_26, A_27, A_29, A_30, A_31, A_32, A_33, A_34, A_36, A_37, A_38, A_40, A_41, A_42, A_43, A_44, A_45, A_46, A_47]
      rw [sA_sA]
      refine ⟨fun _ => cut _ _ ⟨rfl, rfl, hi, l, g + 1, f2, rfl, hlc, by omega, fun j hj hij => ?_, rfl, rfl, rfl⟩ (by omega) ⟨rfl, rfl, rfl, vi_eq ?_, vi_eq (nI_1 _), trivial⟩, fun q => absurd rfl q⟩
      · rw [flt_s, if_neg e]; exact hq j hj hij
      · rw [flt_s, if_neg e]
  · dsimp only [k_X4_groups_0, k_X4_groups_1, k_X4_groups_4, k_X4_groups_5, k_X4_groups_8, k_X4_groups_11, k_X4_groups_12, k_X4_groups_13, k_X4_groups_16, k_X4_groups_17, k_X4_groups_18, k_X4_groups_19, k_X4_groups_20, k_X4_groups_21, k_X4_groups_23, k_X4_groups_25, k_X4_groups_26, k_X4_groups_29, k_X4_groups_32, k_X4_groups_35, k_X4_groups_36, k_X4_groups_38, k_X4_groups_39, k_X4_groups_42, k_X4_groups_45, k_X4_groups_46, k_X4_groups_47, k_X4_groups_50, k_X4_groups_52, k_X4_groups_53, k_X4_groups_56, k_X4_groups_59, k_X4_groups_62, k_X4_groups_63, k_X4_groups_64, k_X4_groups_67, k_X4_groups_68, k_X4_groups_71, k_X4_groups_73, wp1, wp_s, cutIn, kont, Nat.reduceSub, Nat.reduceAdd, nth, o_const, o_lconst, o_ref, o_iload, o_lload, o_aload, o_istore, o_lstore, o_astore, o_iinc, o_bin, o_div, o_un, o_lbin, o_lsh, o_lcmp, o_i2l, o_l2i, o_if, o_icmp, o_goto, o_dup, o_dup2, o_pop, fav, o_getf, o_putI, o_putZ, o_putL, o_ald, o_ast, o_alen, popn, rst, o_callV, o_callT, o_callS, swx, o_sw, o_ret, o_iret, o_zret, o_cret, o_lret, o_aret, lg, lput, lput2, ls1, isL, entL, wsum, rdI1, rdI2, rdA1, rdA21, rdA22, rdL1, rdL22, rdL21, upN_at, rep, sh_0, F_0_0, F_0_1, F_0_2, F_0_3, F_0_4, F_0_5, F_0_6, F_0_7, F_0_8, sh_1, F_1_0, F_1_1, F_1_2, F_1_3, F_1_4, F_1_5, sh_3, F_3_0, F_3_1, F_3_2, F_3_3, F_3_4, F_3_5, sh_5, F_5_0, F_5_1, F_5_2, F_5_3, F_5_4, F_5_5, F_5_6, F_5_7, F_5_8, sh_12, F_12_0, F_12_1, F_12_2, F_12_3, F_12_4, F_12_5, sh_14, F_14_0, F_14_1, F_14_2, F_14_3, F_14_4, F_14_5, F_14_6, F_14_7, F_14_8, sh_21, F_21_0, F_21_1, F_21_2, F_21_3, F_21_4, F_21_5, F_21_6, F_21_7, F_21_8, sh_28, F_28_0, F_28_1, F_28_2, F_28_3, F_28_4, F_28_5, F_28_6, F_28_7, F_28_8, sh_35, F_35_0, sh_39, F_39_0, F_39_1, F_39_2, F_39_3, F_39_4, F_39_5, F_39_6, F_39_7, F_39_8, F_39_9, F_39_10, F_39_11, F_39_12, F_39_13, A_2, A_4, A_6, A_7, A_8, A_9, A_10, A_11, A_13, A_15, A_16, A_17, A_18, A_19, A_20, A_22, A_23, A_24, A_25, A_26, A_27, A_29, A_30, A_31, A_32, A_33, A_34, A_36, A_37, A_38, A_40, A_41, A_42, A_43, A_44, A_45, A_46, A_47]
    refine ⟨x, rfl, fun z => ?_, fun z => ?_⟩
    · rw [hc] at z
      obtain ⟨l, rfl, hlc⟩ := rg (by omega) z
      dsimp only [k_X4_groups_0, k_X4_groups_1, k_X4_groups_4, k_X4_groups_5, k_X4_groups_8, k_X4_groups_11, k_X4_groups_12, k_X4_groups_13, k_X4_groups_16, k_X4_groups_17, k_X4_groups_18, k_X4_groups_19, k_X4_groups_20, k_X4_groups_21, k_X4_groups_23, k_X4_groups_25, k_X4_groups_26, k_X4_groups_29, k_X4_groups_32, k_X4_groups_35, k_X4_groups_36, k_X4_groups_38, k_X4_groups_39, k_X4_groups_42, k_X4_groups_45, k_X4_groups_46, k_X4_groups_47, k_X4_groups_50, k_X4_groups_52, k_X4_groups_53, k_X4_groups_56, k_X4_groups_59, k_X4_groups_62, k_X4_groups_63, k_X4_groups_64, k_X4_groups_67, k_X4_groups_68, k_X4_groups_71, k_X4_groups_73, wp1, wp_s, cutIn, kont, Nat.reduceSub, Nat.reduceAdd, nth, o_const, o_lconst, o_ref, o_iload, o_lload, o_aload, o_istore, o_lstore, o_astore, o_iinc, o_bin, o_div, o_un, o_lbin, o_lsh, o_lcmp, o_i2l, o_l2i, o_if, o_icmp, o_goto, o_dup, o_dup2, o_pop, fav, o_getf, o_putI, o_putZ, o_putL, o_ald, o_ast, o_alen, popn, rst, o_callV, o_callT, o_callS, swx, o_sw, o_ret, o_iret, o_zret, o_cret, o_lret, o_aret, lg, lput, lput2, ls1, isL, entL, wsum, rdI1, rdI2, rdA1, rdA21, rdA22, rdL1, rdL22, rdL21, upN_at, rep, sh_0, F_0_0, F_0_1, F_0_2, F_0_3, F_0_4, F_0_5, F_0_6, F_0_7, F_0_8, sh_1, F_1_0, F_1_1, F_1_2, F_1_3, F_1_4, F_1_5, sh_3, F_3_0, F_3_1, F_3_2, F_3_3, F_3_4, F_3_5, sh_5, F_5_0, F_5_1, F_5_2, F_5_3, F_5_4, F_5_5, F_5_6, F_5_7, F_5_8, sh_12, F_12_0, F_12_1, F_12_2, F_12_3, F_12_4, F_12_5, sh_14, F_14_0, F_14_1, F_14_2, F_14_3, F_14_4, F_14_5, F_14_6, F_14_7, F_14_8, sh_21, F_21_0, F_21_1, F_21_2, F_21_3, F_21_4, F_21_5, F_21_6, F_21_7, F_21_8, sh_28, F_28_0, F_28_1, F_28_2, F_28_3, F_28_4, F_28_5, F_28_6, F_28_7, F_28_8, sh_35, F_35_0, sh_39, F_39_0, F_39_1, F_39_2, F_39_3, F_39_4, F_39_5, F_39_6, F_39_7, F_39_8, F_39_9, F_39_10, F_39_11, F_39_12, F_39_13, A_2, A_4, A_6, A_7, A_8, A_9, A_10, A_11, A_13, A_15, A_16, A_17, A_18, A_19, A_20, A_22, A_23, A_24, A_25, A_26, A_27, A_29, A_30, A_31, A_32, A_33, A_34, A_36, A_37, A_38, A_40, A_41, A_42, A_43, A_44, A_45, A_46, A_47]
      exact ⟨fun q => absurd q (by decide), fun _ => ⟨fun q => cut _ _ ⟨rfl, rfl, q, l, 0, M.2.2 27, rfl, hlc, by omega, fun j _ _ => Nat.zero_le j, (sA_self 27 M).symm, rfl, rfl⟩ (by omega) ⟨rfl, rfl, rfl, rfl, rfl, trivial⟩, fun q => h1 fun q2 => q q2.2⟩⟩
    · rw [hc] at z
      dsimp only [k_X4_groups_0, k_X4_groups_1, k_X4_groups_4, k_X4_groups_5, k_X4_groups_8, k_X4_groups_11, k_X4_groups_12, k_X4_groups_13, k_X4_groups_16, k_X4_groups_17, k_X4_groups_18, k_X4_groups_19, k_X4_groups_20, k_X4_groups_21, k_X4_groups_23, k_X4_groups_25, k_X4_groups_26, k_X4_groups_29, k_X4_groups_32, k_X4_groups_35, k_X4_groups_36, k_X4_groups_38, k_X4_groups_39, k_X4_groups_42, k_X4_groups_45, k_X4_groups_46, k_X4_groups_47, k_X4_groups_50, k_X4_groups_52, k_X4_groups_53, k_X4_groups_56, k_X4_groups_59, k_X4_groups_62, k_X4_groups_63, k_X4_groups_64, k_X4_groups_67, k_X4_groups_68, k_X4_groups_71, k_X4_groups_73, wp1, wp_s, cutIn, kont, Nat.reduceSub, Nat.reduceAdd, nth, o_const, o_lconst, o_ref, o_iload, o_lload, o_aload, o_istore, o_lstore, o_astore, o_iinc, o_bin, o_div, o_un, o_lbin, o_lsh, o_lcmp, o_i2l, o_l2i, o_if, o_icmp, o_goto, o_dup, o_dup2, o_pop, fav, o_getf, o_putI, o_putZ, o_putL, o_ald, o_ast, o_alen, popn, rst, o_callV, o_callT, o_callS, swx, o_sw, o_ret, o_iret, o_zret, o_cret, o_lret, o_aret, lg, lput, lput2, ls1, isL, entL, wsum, rdI1, rdI2, rdA1, rdA21, rdA22, rdL1, rdL22, rdL21, upN_at, rep, sh_0, F_0_0, F_0_1, F_0_2, F_0_3, F_0_4, F_0_5, F_0_6, F_0_7, F_0_8, sh_1, F_1_0, F_1_1, F_1_2, F_1_3, F_1_4, F_1_5, sh_3, F_3_0, F_3_1, F_3_2, F_3_3, F_3_4, F_3_5, sh_5, F_5_0, F_5_1, F_5_2, F_5_3, F_5_4, F_5_5, F_5_6, F_5_7, F_5_8, sh_12, F_12_0, F_12_1, F_12_2, F_12_3, F_12_4, F_12_5, sh_14, F_14_0, F_14_1, F_14_2, F_14_3, F_14_4, F_14_5, F_14_6, F_14_7, F_14_8, sh_21, F_21_0, F_21_1, F_21_2, F_21_3, F_21_4, F_21_5, F_21_6, F_21_7, F_21_8, sh_28, F_28_0, F_28_1, F_28_2, F_28_3, F_28_4, F_28_5, F_28_6, F_28_7, F_28_8, sh_35, F_35_0, sh_39, F_39_0, F_39_1, F_39_2, F_39_3, F_39_4, F_39_5, F_39_6, F_39_7, F_39_8, F_39_9, F_39_10, F_39_11, F_39_12, F_39_13, A_2, A_4, A_6, A_7, A_8, A_9, A_10, A_11, A_13, A_15, A_16, A_17, A_18, A_19, A_20, A_22, A_23, A_24, A_25, A_26, A_27, A_29, A_30, A_31, A_32, A_33, A_34, A_36, A_37, A_38, A_40, A_41, A_42, A_43, A_44, A_45, A_46, A_47]
      exact ⟨fun _ => h1 fun q => z q.1, fun q => absurd rfl q⟩
theorem c_X4_groups : Ctr yX4_groups cX4_groups 5 (some .int) ({ frames := 6, cells := 0, slots := 0, locals := 136 } : Room) S_X4_groups := ctr_of (T := T_X4_groups) (by decide +kernel) (fun post C hr => t_X4_groups post C hr) v_X4_groups
/-- a row that grants the wish -/
def Grt (r : Nat → Nat) (h : Nat → Int32) (n p g pp v row : Nat) : Prop := ¬ Bar r h n p g pp v p row ∧ (rs (fsp r (hd h g p n) n) v 9 = 0 ∨ rs (fsp r (hd h g p n) n) row 9 = rs (fsp r (hd h g p n) n) v 9)
def S_X4_wish : SP := fun as M post => ∃ x y z n c p r h lk, as = [VR 0, VI x, VI y, VI z] ∧ XW M n c p r h lk ∧
  ((∀ pp g l, x = nI pp → pp < p → y = nI g → g &&& (2 ^ p - 1) = g → z = nI l → l < c → g.testBit pp = false) → post (some (VI (-1))) M) ∧
  (∀ pp g l, x = nI pp → pp < p → y = nI g → g &&& (2 ^ p - 1) = g → z = nI l → l < c → g.testBit pp = true →
    ((∃ q, q < p ∧ g.testBit q = true ∧ rs (eb r h n p q) (lk l) 9 = 0) → ∀ f b, post (some (VI (-9))) (sA 28 b (sA 27 f M))) ∧
    ((∀ q, q < p → g.testBit q = true → ¬ rs (eb r h n p q) (lk l) 9 = 0) →
      (∀ row, row < 512 → Grt r h n p g pp (lk l) row → (∀ j, j < row → ¬ Grt r h n p g pp (lk l) j) → ∀ f b, post (some (VI (nI row))) (sA 28 b (sA 27 f M))) ∧
      ((∀ row, row < 512 → ¬ Grt r h n p g pp (lk l) row) → ∀ f b, post (some (VI (-9))) (sA 28 b (sA 27 f M)))))
theorem cw_RX4_149 : ∀ w ∈ ([.methodLink RX4 149 yX4_barRowsForOthers, .instanceMethod yX4_barRowsForOthers, .selects yX4_barRowsForOthers.cls yX4_barRowsForOthers yX4_barRowsForOthers, .initialized yX4_barRowsForOthers.cls, .code yX4_barRowsForOthers cX4_barRowsForOthers 5 (some .boolean)] : List Cond), w ∈ tb := tb_all [516, 518, 18, 54, 519] (by decide +kernel) (by decide +kernel)
theorem cw_RX4_153 : ∀ w ∈ ([.methodLink RX4 153 yX4_leastWish, .instanceMethod yX4_leastWish, .selects yX4_leastWish.cls yX4_leastWish yX4_leastWish, .initialized yX4_leastWish.cls, .code yX4_leastWish cX4_leastWish 5 (some .int)] : List Cond), w ∈ tb := tb_all [525, 527, 20, 54, 528] (by decide +kernel) (by decide +kernel)
theorem dX4_wish_0 : decode cX4_wish 0 = .ok (.aload_n 0, 1) := by decide +kernel
theorem dX4_wish_1 : decode cX4_wish 1 = .ok (.getfield 19, 3) := by decide +kernel
theorem dX4_wish_4 : decode cX4_wish 4 = .ok (.iload_n 1, 1) := by decide +kernel
theorem dX4_wish_5 : decode cX4_wish 5 = .ok (.invokevirtual 117, 3) := by decide +kernel
theorem dX4_wish_8 : decode cX4_wish 8 = .ok (.ifCond .eq 28, 3) := by decide +kernel
theorem dX4_wish_11 : decode cX4_wish 11 = .ok (.iload_n 2, 1) := by decide +kernel
theorem dX4_wish_12 : decode cX4_wish 12 = .ok (.aload_n 0, 1) := by decide +kernel
theorem dX4_wish_13 : decode cX4_wish 13 = .ok (.getfield 19, 3) := by decide +kernel
theorem dX4_wish_16 : decode cX4_wish 16 = .ok (.invokevirtual 137, 3) := by decide +kernel
theorem dX4_wish_19 : decode cX4_wish 19 = .ok (.invokestatic 97, 3) := by decide +kernel
theorem dX4_wish_22 : decode cX4_wish 22 = .ok (.ifCond .eq 14, 3) := by decide +kernel
theorem dX4_wish_25 : decode cX4_wish 25 = .ok (.aload_n 0, 1) := by decide +kernel
theorem dX4_wish_26 : decode cX4_wish 26 = .ok (.getfield 19, 3) := by decide +kernel
theorem dX4_wish_29 : decode cX4_wish 29 = .ok (.iload_n 3, 1) := by decide +kernel
theorem dX4_wish_30 : decode cX4_wish 30 = .ok (.invokevirtual 87, 3) := by decide +kernel
theorem dX4_wish_33 : decode cX4_wish 33 = .ok (.ifCond .ne 5, 3) := by decide +kernel
theorem dX4_wish_36 : decode cX4_wish 36 = .ok (.iconst (-1), 1) := by decide +kernel
theorem dX4_wish_37 : decode cX4_wish 37 = .ok (.ireturn, 1) := by decide +kernel
theorem dX4_wish_38 : decode cX4_wish 38 = .ok (.iload_n 2, 1) := by decide +kernel
theorem dX4_wish_39 : decode cX4_wish 39 = .ok (.iload_n 1, 1) := by decide +kernel
theorem dX4_wish_40 : decode cX4_wish 40 = .ok (.ishr, 1) := by decide +kernel
theorem dX4_wish_41 : decode cX4_wish 41 = .ok (.iconst 1, 1) := by decide +kernel
theorem dX4_wish_42 : decode cX4_wish 42 = .ok (.iand, 1) := by decide +kernel
theorem dX4_wish_43 : decode cX4_wish 43 = .ok (.ifCond .ne 5, 3) := by decide +kernel
theorem dX4_wish_46 : decode cX4_wish 46 = .ok (.iconst (-1), 1) := by decide +kernel
theorem dX4_wish_47 : decode cX4_wish 47 = .ok (.ireturn, 1) := by decide +kernel
theorem dX4_wish_48 : decode cX4_wish 48 = .ok (.aload_n 0, 1) := by decide +kernel
theorem dX4_wish_49 : decode cX4_wish 49 = .ok (.iload_n 1, 1) := by decide +kernel
theorem dX4_wish_50 : decode cX4_wish 50 = .ok (.iload_n 2, 1) := by decide +kernel
theorem dX4_wish_51 : decode cX4_wish 51 = .ok (.aload_n 0, 1) := by decide +kernel
theorem dX4_wish_52 : decode cX4_wish 52 = .ok (.getfield 19, 3) := by decide +kernel
theorem dX4_wish_55 : decode cX4_wish 55 = .ok (.getfield 90, 3) := by decide +kernel
theorem dX4_wish_58 : decode cX4_wish 58 = .ok (.iload_n 3, 1) := by decide +kernel
theorem dX4_wish_59 : decode cX4_wish 59 = .ok (.iaload, 1) := by decide +kernel
theorem dX4_wish_60 : decode cX4_wish 60 = .ok (.invokevirtual 149, 3) := by decide +kernel
theorem dX4_wish_63 : decode cX4_wish 63 = .ok (.ifCond .ne 6, 3) := by decide +kernel
theorem dX4_wish_66 : decode cX4_wish 66 = .ok (.bipush (-9), 2) := by decide +kernel
theorem dX4_wish_68 : decode cX4_wish 68 = .ok (.ireturn, 1) := by decide +kernel
theorem dX4_wish_69 : decode cX4_wish 69 = .ok (.aload_n 0, 1) := by decide +kernel
theorem dX4_wish_70 : decode cX4_wish 70 = .ok (.iload_n 2, 1) := by decide +kernel
theorem dX4_wish_71 : decode cX4_wish 71 = .ok (.aload_n 0, 1) := by decide +kernel
theorem dX4_wish_72 : decode cX4_wish 72 = .ok (.getfield 19, 3) := by decide +kernel
theorem dX4_wish_75 : decode cX4_wish 75 = .ok (.getfield 90, 3) := by decide +kernel
theorem dX4_wish_78 : decode cX4_wish 78 = .ok (.iload_n 3, 1) := by decide +kernel
theorem dX4_wish_79 : decode cX4_wish 79 = .ok (.iaload, 1) := by decide +kernel
theorem dX4_wish_80 : decode cX4_wish 80 = .ok (.invokevirtual 153, 3) := by decide +kernel
theorem dX4_wish_83 : decode cX4_wish 83 = .ok (.ireturn, 1) := by decide +kernel
def T_X4_wish (post : PO) : List (Nat × OP) := [(0, o_aload 0 1), (1, o_getf 4 1 4), (4, o_iload 1 5), (5, o_callV 0 S_X0_hasPerson 1 8), (8, o_if (fun x => x = 0) 36 11), (11, o_iload 2 12), (12, o_aload 0 13), (13, o_getf 4 1 16), (16, o_callV 0 S_X0_everybody 0 19), (19, o_callS S_X4_within 2 22), (22, o_if (fun x => x = 0) 36 25), (25, o_aload 0 26), (26, o_getf 4 1 29), (29, o_iload 3 30), (30, o_callV 0 S_X0_hasLock 1 33), (33, o_if (fun x => x = 0) 36 38), (36, o_const (-1) 37), (37, o_iret post), (38, o_iload 2 39), (39, o_iload 1 40), (40, o_bin (fun x y => x >>> (y &&& 31)) 41), (41, o_const 1 42), (42, o_bin (fun x y => x &&& y) 43), (43, o_if (fun x => x = 0) 46 48), (46, o_const (-1) 47), (47, o_iret post), (48, o_aload 0 49), (49, o_iload 1 50), (50, o_iload 2 51), (51, o_aload 0 52), (52, o_getf 4 1 55), (55, o_getf 0 1 58), (58, o_iload 3 59), (59, o_ald 0 60), (60, o_callV 4 S_X4_barRowsForOthers 3 63), (63, o_if (fun x => x = 0) 66 69), (66, o_const (-9) 68), (68, o_iret post), (69, o_aload 0 70), (70, o_iload 2 71), (71, o_aload 0 72), (72, o_getf 4 1 75), (75, o_getf 0 1 78), (78, o_iload 3 79), (79, o_ald 0 80), (80, o_callV 4 S_X4_leastWish 2 83), (83, o_iret post)]
theorem k_X4_wish_0 (post : PO) : lk (T_X4_wish post) 0 = o_aload 0 1 := rfl
theorem k_X4_wish_1 (post : PO) : lk (T_X4_wish post) 1 = o_getf 4 1 4 := rfl
theorem k_X4_wish_4 (post : PO) : lk (T_X4_wish post) 4 = o_iload 1 5 := rfl
theorem k_X4_wish_5 (post : PO) : lk (T_X4_wish post) 5 = o_callV 0 S_X0_hasPerson 1 8 := rfl
theorem k_X4_wish_8 (post : PO) : lk (T_X4_wish post) 8 = o_if (fun x => x = 0) 36 11 := rfl
theorem k_X4_wish_11 (post : PO) : lk (T_X4_wish post) 11 = o_iload 2 12 := rfl
theorem k_X4_wish_12 (post : PO) : lk (T_X4_wish post) 12 = o_aload 0 13 := rfl
theorem k_X4_wish_13 (post : PO) : lk (T_X4_wish post) 13 = o_getf 4 1 16 := rfl
theorem k_X4_wish_16 (post : PO) : lk (T_X4_wish post) 16 = o_callV 0 S_X0_everybody 0 19 := rfl
theorem k_X4_wish_19 (post : PO) : lk (T_X4_wish post) 19 = o_callS S_X4_within 2 22 := rfl
theorem k_X4_wish_22 (post : PO) : lk (T_X4_wish post) 22 = o_if (fun x => x = 0) 36 25 := rfl
theorem k_X4_wish_25 (post : PO) : lk (T_X4_wish post) 25 = o_aload 0 26 := rfl
theorem k_X4_wish_26 (post : PO) : lk (T_X4_wish post) 26 = o_getf 4 1 29 := rfl
theorem k_X4_wish_29 (post : PO) : lk (T_X4_wish post) 29 = o_iload 3 30 := rfl
theorem k_X4_wish_30 (post : PO) : lk (T_X4_wish post) 30 = o_callV 0 S_X0_hasLock 1 33 := rfl
theorem k_X4_wish_33 (post : PO) : lk (T_X4_wish post) 33 = o_if (fun x => x = 0) 36 38 := rfl
theorem k_X4_wish_36 (post : PO) : lk (T_X4_wish post) 36 = o_const (-1) 37 := rfl
theorem k_X4_wish_37 (post : PO) : lk (T_X4_wish post) 37 = o_iret post := rfl
theorem k_X4_wish_38 (post : PO) : lk (T_X4_wish post) 38 = o_iload 2 39 := rfl
theorem k_X4_wish_39 (post : PO) : lk (T_X4_wish post) 39 = o_iload 1 40 := rfl
theorem k_X4_wish_40 (post : PO) : lk (T_X4_wish post) 40 = o_bin (fun x y => x >>> (y &&& 31)) 41 := rfl
theorem k_X4_wish_41 (post : PO) : lk (T_X4_wish post) 41 = o_const 1 42 := rfl
theorem k_X4_wish_42 (post : PO) : lk (T_X4_wish post) 42 = o_bin (fun x y => x &&& y) 43 := rfl
theorem k_X4_wish_43 (post : PO) : lk (T_X4_wish post) 43 = o_if (fun x => x = 0) 46 48 := rfl
theorem k_X4_wish_46 (post : PO) : lk (T_X4_wish post) 46 = o_const (-1) 47 := rfl
theorem k_X4_wish_47 (post : PO) : lk (T_X4_wish post) 47 = o_iret post := rfl
theorem k_X4_wish_48 (post : PO) : lk (T_X4_wish post) 48 = o_aload 0 49 := rfl
theorem k_X4_wish_49 (post : PO) : lk (T_X4_wish post) 49 = o_iload 1 50 := rfl
theorem k_X4_wish_50 (post : PO) : lk (T_X4_wish post) 50 = o_iload 2 51 := rfl
theorem k_X4_wish_51 (post : PO) : lk (T_X4_wish post) 51 = o_aload 0 52 := rfl
theorem k_X4_wish_52 (post : PO) : lk (T_X4_wish post) 52 = o_getf 4 1 55 := rfl
theorem k_X4_wish_55 (post : PO) : lk (T_X4_wish post) 55 = o_getf 0 1 58 := rfl
theorem k_X4_wish_58 (post : PO) : lk (T_X4_wish post) 58 = o_iload 3 59 := rfl
theorem k_X4_wish_59 (post : PO) : lk (T_X4_wish post) 59 = o_ald 0 60 := rfl
theorem k_X4_wish_60 (post : PO) : lk (T_X4_wish post) 60 = o_callV 4 S_X4_barRowsForOthers 3 63 := rfl
theorem k_X4_wish_63 (post : PO) : lk (T_X4_wish post) 63 = o_if (fun x => x = 0) 66 69 := rfl
theorem k_X4_wish_66 (post : PO) : lk (T_X4_wish post) 66 = o_const (-9) 68 := rfl
theorem k_X4_wish_68 (post : PO) : lk (T_X4_wish post) 68 = o_iret post := rfl
theorem k_X4_wish_69 (post : PO) : lk (T_X4_wish post) 69 = o_aload 0 70 := rfl
theorem k_X4_wish_70 (post : PO) : lk (T_X4_wish post) 70 = o_iload 2 71 := rfl
theorem k_X4_wish_71 (post : PO) : lk (T_X4_wish post) 71 = o_aload 0 72 := rfl
theorem k_X4_wish_72 (post : PO) : lk (T_X4_wish post) 72 = o_getf 4 1 75 := rfl
theorem k_X4_wish_75 (post : PO) : lk (T_X4_wish post) 75 = o_getf 0 1 78 := rfl
theorem k_X4_wish_78 (post : PO) : lk (T_X4_wish post) 78 = o_iload 3 79 := rfl
theorem k_X4_wish_79 (post : PO) : lk (T_X4_wish post) 79 = o_ald 0 80 := rfl
theorem k_X4_wish_80 (post : PO) : lk (T_X4_wish post) 80 = o_callV 4 S_X4_leastWish 2 83 := rfl
theorem k_X4_wish_83 (post : PO) : lk (T_X4_wish post) 83 = o_iret post := rfl
set_option maxRecDepth 100000 in
theorem t_X4_wish {p : Program} {l : Launch} {e : Env} {s : State} {m : MethodId} {args : Array Value} {below : List Frame} {meth : Method} {c : Code} {D : va_G} {dA : Nat → ClassId} {ad : Nat → Nat} (post : PO) (C : CX p s m args meth c cX4_wish 4 yX4_wish.cls D dA ad (AA ad s.heap.size)) (hr : meth.sig.returnType = (some .int)) : SndL (WW p l e ({ frames := 4, cells := 0, slots := 0, locals := 92 } : Room) s m args below meth c 0 0 (MQ below (CQ D dA ad post (AA ad s.heap.size)) args s 0 0 (AA ad s.heap.size)) 4 D dA ad (AA ad s.heap.size)) (T_X4_wish post) := by
  refine snd_c (s_aload_n C rfl dX4_wish_0) ?_
  refine snd_c (s_getf C (ci := 4) (j := 1) (T := TX4) rfl inX4 (by decide) fl_RX4_19 dX4_wish_1) ?_
  refine snd_c (s_iload_n C rfl dX4_wish_4) ?_
  refine snd_c (s_callV C (ci := 0) c_X0_hasPerson rfl cw_RX4_117 ⟨rfl, rfl⟩ ⟨by decide +kernel, by decide +kernel, by decide +kernel⟩ ⟨by decide, by decide⟩ ⟨Nat.zero_le _, Nat.zero_le _⟩ dX4_wish_5) ?_
  refine snd_c (s_if_eq C dX4_wish_8 (by decide)) ?_
  refine snd_c (s_iload_n C rfl dX4_wish_11) ?_
  refine snd_c (s_aload_n C rfl dX4_wish_12) ?_
  refine snd_c (s_getf C (ci := 4) (j := 1) (T := TX4) rfl inX4 (by decide) fl_RX4_19 dX4_wish_13) ?_
  refine snd_c (s_callV C (ci := 0) c_X0_everybody rfl cw_RX4_137 ⟨rfl, rfl⟩ ⟨by decide +kernel, by decide +kernel, by decide +kernel⟩ ⟨by decide, by decide⟩ ⟨Nat.zero_le _, Nat.zero_le _⟩ dX4_wish_16) ?_
  refine snd_c (s_callS C c_X4_within cw_RX4_97 ⟨rfl, rfl⟩ ⟨by decide +kernel, by decide +kernel, by decide +kernel⟩ ⟨by decide, by decide⟩ ⟨Nat.zero_le _, Nat.zero_le _⟩ dX4_wish_19) ?_
  refine snd_c (s_if_eq C dX4_wish_22 (by decide)) ?_
  refine snd_c (s_aload_n C rfl dX4_wish_25) ?_
  refine snd_c (s_getf C (ci := 4) (j := 1) (T := TX4) rfl inX4 (by decide) fl_RX4_19 dX4_wish_26) ?_
  refine snd_c (s_iload_n C rfl dX4_wish_29) ?_
  refine snd_c (s_callV C (ci := 0) c_X0_hasLock rfl cw_RX4_87 ⟨rfl, rfl⟩ ⟨by decide +kernel, by decide +kernel, by decide +kernel⟩ ⟨by decide, by decide⟩ ⟨Nat.zero_le _, Nat.zero_le _⟩ dX4_wish_30) ?_
  refine snd_c (s_if_ne C dX4_wish_33 (by decide)) ?_
  refine snd_c (s_iconst C dX4_wish_36 rfl) ?_
  refine snd_c (s_iret C hr dX4_wish_37) ?_
  refine snd_c (s_iload_n C rfl dX4_wish_38) ?_
  refine snd_c (s_iload_n C rfl dX4_wish_39) ?_
  refine snd_c (s_ishr C dX4_wish_40) ?_
  refine snd_c (s_iconst C dX4_wish_41 rfl) ?_
  refine snd_c (s_iand C dX4_wish_42) ?_
  refine snd_c (s_if_ne C dX4_wish_43 (by decide)) ?_
  refine snd_c (s_iconst C dX4_wish_46 rfl) ?_
  refine snd_c (s_iret C hr dX4_wish_47) ?_
  refine snd_c (s_aload_n C rfl dX4_wish_48) ?_
  refine snd_c (s_iload_n C rfl dX4_wish_49) ?_
  refine snd_c (s_iload_n C rfl dX4_wish_50) ?_
  refine snd_c (s_aload_n C rfl dX4_wish_51) ?_
  refine snd_c (s_getf C (ci := 4) (j := 1) (T := TX4) rfl inX4 (by decide) fl_RX4_19 dX4_wish_52) ?_
  refine snd_c (s_getf C (ci := 0) (j := 1) (T := TX0) rfl inX0 (by decide) fl_RX4_90 dX4_wish_55) ?_
  refine snd_c (s_iload_n C rfl dX4_wish_58) ?_
  refine snd_c (s_iald C dX4_wish_59) ?_
  refine snd_c (s_callV C (ci := 4) c_X4_barRowsForOthers rfl cw_RX4_149 ⟨rfl, rfl⟩ ⟨by decide +kernel, by decide +kernel, by decide +kernel⟩ ⟨by decide, by decide⟩ ⟨Nat.zero_le _, Nat.zero_le _⟩ dX4_wish_60) ?_
  refine snd_c (s_if_ne C dX4_wish_63 (by decide)) ?_
  refine snd_c (s_bipush C dX4_wish_66 rfl) ?_
  refine snd_c (s_iret C hr dX4_wish_68) ?_
  refine snd_c (s_aload_n C rfl dX4_wish_69) ?_
  refine snd_c (s_iload_n C rfl dX4_wish_70) ?_
  refine snd_c (s_aload_n C rfl dX4_wish_71) ?_
  refine snd_c (s_getf C (ci := 4) (j := 1) (T := TX4) rfl inX4 (by decide) fl_RX4_19 dX4_wish_72) ?_
  refine snd_c (s_getf C (ci := 0) (j := 1) (T := TX0) rfl inX0 (by decide) fl_RX4_90 dX4_wish_75) ?_
  refine snd_c (s_iload_n C rfl dX4_wish_78) ?_
  refine snd_c (s_iald C dX4_wish_79) ?_
  refine snd_c (s_callV C (ci := 4) c_X4_leastWish rfl cw_RX4_153 ⟨rfl, rfl⟩ ⟨by decide +kernel, by decide +kernel, by decide +kernel⟩ ⟨by decide, by decide⟩ ⟨Nat.zero_le _, Nat.zero_le _⟩ dX4_wish_80) ?_
  refine snd_c (s_iret C hr dX4_wish_83) ?_
  exact trivial
theorem gle {g p : Nat} (hp : p ≤ 4) (h : g &&& (2 ^ p - 1) = g) : g < 16 := by
  have := ev_lt hp
  have := Nat.and_le_right (n := g) (m := 2 ^ p - 1)
  omega
set_option maxRecDepth 100000 in
theorem v_X4_wish : ∀ as M post, S_X4_wish as M post → wsum as ≤ 4 ∧ RUN (T_X4_wish post) 0 (entL 4 as) [] M := by
  rintro as M post ⟨x, y, z, n, c, p, r, h0, lk, rfl, hX, h1, h2⟩
  have hX0 := hX
  obtain ⟨hn, hn8, hc, hc6, hp, hp4, hr, hhk, hl⟩ := hX
  have hev := ev_lt hp4
  refine ⟨by show 4 ≤ 4; omega, run_wp 60 ?_⟩
  dsimp only [k_X4_wish_0, k_X4_wish_1, k_X4_wish_4, k_X4_wish_5, k_X4_wish_8, k_X4_wish_11, k_X4_wish_12, k_X4_wish_13, k_X4_wish_16, k_X4_wish_19, k_X4_wish_22, k_X4_wish_25, k_X4_wish_26, k_X4_wish_29, k_X4_wish_30, k_X4_wish_33, k_X4_wish_36, k_X4_wish_37, k_X4_wish_38, k_X4_wish_39, k_X4_wish_40, k_X4_wish_41, k_X4_wish_42, k_X4_wish_43, k_X4_wish_46, k_X4_wish_47, k_X4_wish_48, k_X4_wish_49, k_X4_wish_50, k_X4_wish_51, k_X4_wish_52, k_X4_wish_55, k_X4_wish_58, k_X4_wish_59, k_X4_wish_60, k_X4_wish_63, k_X4_wish_66, k_X4_wish_68, k_X4_wish_69, k_X4_wish_70, k_X4_wish_71, k_X4_wish_72, k_X4_wish_75, k_X4_wish_78, k_X4_wish_79, k_X4_wish_80, k_X4_wish_83, wp1, wp_s, cutIn, kont, Nat.reduceSub, Nat.reduceAdd, nth, o_const, o_lconst, o_ref, o_iload, o_lload, o_aload, o_istore, o_lstore, o_astore, o_iinc, o_bin, o_div, o_un, o_lbin, o_lsh, o_lcmp, o_i2l, o_l2i, o_if, o_icmp, o_goto, o_dup, o_dup2, o_pop, fav, o_getf, o_putI, o_putZ, o_putL, o_ald, o_ast, o_alen, popn, rst, o_callV, o_callT, o_callS, swx, o_sw, o_ret, o_iret, o_zret, o_cret, o_lret, o_aret, lg, lput, lput2, ls1, isL, entL, wsum, rdI1, rdI2, rdA1, rdA21, rdA22, rdL1, rdL22, rdL21, upN_at, rep, sh_0, F_0_0, F_0_1, F_0_2, F_0_3, F_0_4, F_0_5, F_0_6, F_0_7, F_0_8, sh_1, F_1_0, F_1_1, F_1_2, F_1_3, F_1_4, F_1_5, sh_3, F_3_0, F_3_1, F_3_2, F_3_3, F_3_4, F_3_5, sh_5, F_5_0, F_5_1, F_5_2, F_5_3, F_5_4, F_5_5, F_5_6, F_5_7, F_5_8, sh_12, F_12_0, F_12_1, F_12_2, F_12_3, F_12_4, F_12_5, sh_14, F_14_0, F_14_1, F_14_2, F_14_3, F_14_4, F_14_5, F_14_6, F_14_7, F_14_8, sh_21, F_21_0, F_21_1, F_21_2, F_21_3, F_21_4, F_21_5, F_21_6, F_21_7, F_21_8, sh_28, F_28_0, F_28_1, F_28_2, F_28_3, F_28_4, F_28_5, F_28_6, F_28_7, F_28_8, sh_35, F_35_0, sh_39, F_39_0, F_39_1, F_39_2, F_39_3, F_39_4, F_39_5, F_39_6, F_39_7, F_39_8, F_39_9, F_39_10, F_39_11, F_39_12, F_39_13, A_2, A_4, A_6, A_7, A_8, A_9, A_10, A_11, A_13, A_15, A_16, A_17, A_18, A_19, A_20, A_22, A_23, A_24, A_25, A_26, A_27, A_29, A_30, A_31, A_32, A_33, A_34, A_36, A_37, A_38, A_40, A_41, A_42, A_43, A_44, A_45, A_46, A_47]
  refine ⟨3, x, rfl, Or.inl ⟨rfl, fun hx => ?_, fun hx => ?_⟩⟩
  · rw [hp] at hx
    obtain ⟨pp, rfl, hpp⟩ := rg (by omega) hx
    dsimp only [k_X4_wish_0, k_X4_wish_1, k_X4_wish_4, k_X4_wish_5, k_X4_wish_8, k_X4_wish_11, k_X4_wish_12, k_X4_wish_13, k_X4_wish_16, k_X4_wish_19, k_X4_wish_22, k_X4_wish_25, k_X4_wish_26, k_X4_wish_29, k_X4_wish_30, k_X4_wish_33, k_X4_wish_36, k_X4_wish_37, k_X4_wish_38, k_X4_wish_39, k_X4_wish_40, k_X4_wish_41, k_X4_wish_42, k_X4_wish_43, k_X4_wish_46, k_X4_wish_47, k_X4_wish_48, k_X4_wish_49, k_X4_wish_50, k_X4_wish_51, k_X4_wish_52, k_X4_wish_55, k_X4_wish_58, k_X4_wish_59, k_X4_wish_60, k_X4_wish_63, k_X4_wish_66, k_X4_wish_68, k_X4_wish_69, k_X4_wish_70, k_X4_wish_71, k_X4_wish_72, k_X4_wish_75, k_X4_wish_78, k_X4_wish_79, k_X4_wish_80, k_X4_wish_83, wp1, wp_s, cutIn, kont, Nat.reduceSub, Nat.reduceAdd, nth, o_const, o_lconst, o_ref, o_iload, o_lload, o_aload, o_istore, o_lstore, o_astore, o_iinc, o_bin, o_div, o_un, o_lbin, o_lsh, o_lcmp, o_i2l, o_l2i, o_if, o_icmp, o_goto, o_dup, o_dup2, o_pop, fav, o_getf, o_putI, o_putZ, o_putL, o_ald, o_ast, o_alen, popn, rst, o_callV, o_callT, o_callS, swx, o_sw, o_ret, o_iret, o_zret, o_cret, o_lret, o_aret, lg, lput, lput2, ls1, isL, entL, wsum, rdI1, rdI2, rdA1, rdA21, rdA22, rdL1, rdL22, rdL21, upN_at, rep, sh_0, F_0_0, F_0_1, F_0_2, F_0_3, F_0_4, F_0_5, F_0_6, F_0_7, F_0_8, sh_1, F_1_0, F_1_1, F_1_2, F_1_3, F_1_4, F_1_5, sh_3, F_3_0, F_3_1, F_3_2, F_3_3, F_3_4, F_3_5, sh_5, F_5_0, F_5_1, F_5_2, F_5_3, F_5_4, F_5_5, F_5_6, F_5_7, F_5_8, sh_12, F_12_0, F_12_1, F_12_2, F_12_3, F_12_4, F_12_5, sh_14, F_14_0, F_14_1, F_14_2, F_14_3, F_14_4, F_14_5, F_14_6, F_14_7, F_14_8, sh_21, F_21_0, F_21_1, F_21_2, F_21_3, F_21_4, F_21_5, F_21_6, F_21_7, F_21_8, sh_28, F_28_0, F_28_1, F_28_2, F_28_3, F_28_4, F_28_5, F_28_6, F_28_7, F_28_8, sh_35, F_35_0, sh_39, F_39_0, F_39_1, F_39_2, F_39_3, F_39_4, F_39_5, F_39_6, F_39_7, F_39_8, F_39_9, F_39_10, F_39_11, F_39_12, F_39_13, A_2, A_4, A_6, A_7, A_8, A_9, A_10, A_11, A_13, A_15, A_16, A_17, A_18, A_19, A_20, A_22, A_23, A_24, A_25, A_26, A_27, A_29, A_30, A_31, A_32, A_33, A_34, A_36, A_37, A_38, A_40, A_41, A_42, A_43, A_44, A_45, A_46, A_47]
    refine ⟨fun q => absurd q (by decide), fun _ => ⟨p, rfl, hp, hp4, ?_⟩⟩
    dsimp only [k_X4_wish_0, k_X4_wish_1, k_X4_wish_4, k_X4_wish_5, k_X4_wish_8, k_X4_wish_11, k_X4_wish_12, k_X4_wish_13, k_X4_wish_16, k_X4_wish_19, k_X4_wish_22, k_X4_wish_25, k_X4_wish_26, k_X4_wish_29, k_X4_wish_30, k_X4_wish_33, k_X4_wish_36, k_X4_wish_37, k_X4_wish_38, k_X4_wish_39, k_X4_wish_40, k_X4_wish_41, k_X4_wish_42, k_X4_wish_43, k_X4_wish_46, k_X4_wish_47, k_X4_wish_48, k_X4_wish_49, k_X4_wish_50, k_X4_wish_51, k_X4_wish_52, k_X4_wish_55, k_X4_wish_58, k_X4_wish_59, k_X4_wish_60, k_X4_wish_63, k_X4_wish_66, k_X4_wish_68, k_X4_wish_69, k_X4_wish_70, k_X4_wish_71, k_X4_wish_72, k_X4_wish_75, k_X4_wish_78, k_X4_wish_79, k_X4_wish_80, k_X4_wish_83, wp1, wp_s, cutIn, kont, Nat.reduceSub, Nat.reduceAdd, nth, o_const, o_lconst, o_ref, o_iload, o_lload, o_aload, o_istore, o_lstore, o_astore, o_iinc, o_bin, o_div, o_un, o_lbin, o_lsh, o_lcmp, o_i2l, o_l2i, o_if, o_icmp, o_goto, o_dup, o_dup2, o_pop, fav, o_getf, o_putI, o_putZ, o_putL, o_ald, o_ast, o_alen, popn, rst, o_callV, o_callT, o_callS, swx, o_sw, o_ret, o_iret, o_zret, o_cret, o_lret, o_aret, lg, lput, lput2, ls1, isL, entL, wsum, rdI1, rdI2, rdA1, rdA21, rdA22, rdL1, rdL22, rdL21, upN_at, rep, sh_0, F_0_0, F_0_1, F_0_2, F_0_3, F_0_4, F_0_5, F_0_6, F_0_7, F_0_8, sh_1, F_1_0, F_1_1, F_1_2, F_1_3, F_1_4, F_1_5, sh_3, F_3_0, F_3_1, F_3_2, F_3_3, F_3_4, F_3_5, sh_5, F_5_0, F_5_1, F_5_2, F_5_3, F_5_4, F_5_5, F_5_6, F_5_7, F_5_8, sh_12, F_12_0, F_12_1, F_12_2, F_12_3, F_12_4, F_12_5, sh_14, F_14_0, F_14_1, F_14_2, F_14_3, F_14_4, F_14_5, F_14_6, F_14_7, F_14_8, sh_21, F_21_0, F_21_1, F_21_2, F_21_3, F_21_4, F_21_5, F_21_6, F_21_7, F_21_8, sh_28, F_28_0, F_28_1, F_28_2, F_28_3, F_28_4, F_28_5, F_28_6, F_28_7, F_28_8, sh_35, F_35_0, sh_39, F_39_0, F_39_1, F_39_2, F_39_3, F_39_4, F_39_5, F_39_6, F_39_7, F_39_8, F_39_9, F_39_10, F_39_11, F_39_12, F_39_13, A_2, A_4, A_6, A_7, A_8, A_9, A_10, A_11, A_13, A_15, A_16, A_17, A_18, A_19, A_20, A_22, A_23, A_24, A_25, A_26, A_27, A_29, A_30, A_31, A_32, A_33, A_34, A_36, A_37, A_38, A_40, A_41, A_42, A_43, A_44, A_45, A_46, A_47]
    refine ⟨y, _, rfl, fun hy => ?_, fun hy => ?_⟩
    · obtain ⟨g, rfl, hg, hgl⟩ := In_at (by omega) hy
      dsimp only [k_X4_wish_0, k_X4_wish_1, k_X4_wish_4, k_X4_wish_5, k_X4_wish_8, k_X4_wish_11, k_X4_wish_12, k_X4_wish_13, k_X4_wish_16, k_X4_wish_19, k_X4_wish_22, k_X4_wish_25, k_X4_wish_26, k_X4_wish_29, k_X4_wish_30, k_X4_wish_33, k_X4_wish_36, k_X4_wish_37, k_X4_wish_38, k_X4_wish_39, k_X4_wish_40, k_X4_wish_41, k_X4_wish_42, k_X4_wish_43, k_X4_wish_46, k_X4_wish_47, k_X4_wish_48, k_X4_wish_49, k_X4_wish_50, k_X4_wish_51, k_X4_wish_52, k_X4_wish_55, k_X4_wish_58, k_X4_wish_59, k_X4_wish_60, k_X4_wish_63, k_X4_wish_66, k_X4_wish_68, k_X4_wish_69, k_X4_wish_70, k_X4_wish_71, k_X4_wish_72, k_X4_wish_75, k_X4_wish_78, k_X4_wish_79, k_X4_wish_80, k_X4_wish_83, wp1, wp_s, cutIn, kont, Nat.reduceSub, Nat.reduceAdd, nth, o_const, o_lconst, o_ref, o_iload, o_lload, o_aload, o_istore, o_lstore, o_astore, o_iinc, o_bin, o_div, o_un, o_lbin, o_lsh, o_lcmp, o_i2l, o_l2i, o_if, o_icmp, o_goto, o_dup, o_dup2, o_pop, fav, o_getf, o_putI, o_putZ, o_putL, o_ald, o_ast, o_alen, popn, rst, o_callV, o_callT, o_callS, swx, o_sw, o_ret, o_iret, o_zret, o_cret, o_lret, o_aret, lg, lput, lput2, ls1, isL, entL, wsum, rdI1, rdI2, rdA1, rdA21, rdA22, rdL1, rdL22, rdL21, upN_at, rep, sh_0, F_0_0, F_0_1, F_0_2, F_0_3, F_0_4, F_0_5, F_0_6, F_0_7, F_0_8, sh_1, F_1_0, F_1_1, F_1_2, F_1_3, F_1_4, F_1_5, sh_3, F_3_0, F_3_1, F_3_2, F_3_3, F_3_4, F_3_5, sh_5, F_5_0, F_5_1, F_5_2, F_5_3, F_5_4, F_5_5, F_5_6, F_5_7, F_5_8, sh_12, F_12_0, F_12_1, F_12_2, F_12_3, F_12_4, F_12_5, sh_14, F_14_0, F_14_1, F_14_2, F_14_3, F_14_4, F_14_5, F_14_6, F_14_7, F_14_8, sh_21, F_21_0, F_21_1, F_21_2, F_21_3, F_21_4, F_21_5, F_21_6, F_21_7, F_21_8, sh_28, F_28_0, F_28_1, F_28_2, F_28_3, F_28_4, F_28_5, F_28_6, F_28_7, F_28_8, sh_35, F_35_0, sh_39, F_39_0, F_39_1, F_39_2, F_39_3, F_39_4, F_39_5, F_39_6, F_39_7, F_39_8, F_39_9, F_39_10, F_39_11, F_39_12, F_39_13, A_2, A_4, A_6, A_7, A_8, A_9, A_10, A_11, A_13, A_15, A_16, A_17, A_18, A_19, A_20, A_22, A_23, A_24, A_25, A_26, A_27, A_29, A_30, A_31, A_32, A_33, A_34, A_36, A_37, A_38, A_40, A_41, A_42, A_43, A_44, A_45, A_46, A_47]
      refine ⟨fun q => absurd q (by decide), fun _ => ⟨z, rfl, fun hz => ?_, fun hz => ?_⟩⟩
      · rw [hc] at hz
        obtain ⟨l, rfl, hlc⟩ := rg (by omega) hz
        dsimp only [k_X4_wish_0, k_X4_wish_1, k_X4_wish_4, k_X4_wish_5, k_X4_wish_8, k_X4_wish_11, k_X4_wish_12, k_X4_wish_13, k_X4_wish_16, k_X4_wish_19, k_X4_wish_22, k_X4_wish_25, k_X4_wish_26, k_X4_wish_29, k_X4_wish_30, k_X4_wish_33, k_X4_wish_36, k_X4_wish_37, k_X4_wish_38, k_X4_wish_39, k_X4_wish_40, k_X4_wish_41, k_X4_wish_42, k_X4_wish_43, k_X4_wish_46, k_X4_wish_47, k_X4_wish_48, k_X4_wish_49, k_X4_wish_50, k_X4_wish_51, k_X4_wish_52, k_X4_wish_55, k_X4_wish_58, k_X4_wish_59, k_X4_wish_60, k_X4_wish_63, k_X4_wish_66, k_X4_wish_68, k_X4_wish_69, k_X4_wish_70, k_X4_wish_71, k_X4_wish_72, k_X4_wish_75, k_X4_wish_78, k_X4_wish_79, k_X4_wish_80, k_X4_wish_83, wp1, wp_s, cutIn, kont, Nat.reduceSub, Nat.reduceAdd, nth, o_const, o_lconst, o_ref, o_iload, o_lload, o_aload, o_istore, o_lstore, o_astore, o_iinc, o_bin, o_div, o_un, o_lbin, o_lsh, o_lcmp, o_i2l, o_l2i, o_if, o_icmp, o_goto, o_dup, o_dup2, o_pop, fav, o_getf, o_putI, o_putZ, o_putL, o_ald, o_ast, o_alen, popn, rst, o_callV, o_callT, o_callS, swx, o_sw, o_ret, o_iret, o_zret, o_cret, o_lret, o_aret, lg, lput, lput2, ls1, isL, entL, wsum, rdI1, rdI2, rdA1, rdA21, rdA22, rdL1, rdL22, rdL21, upN_at, rep, sh_0, F_0_0, F_0_1, F_0_2, F_0_3, F_0_4, F_0_5, F_0_6, F_0_7, F_0_8, sh_1, F_1_0, F_1_1, F_1_2, F_1_3, F_1_4, F_1_5, sh_3, F_3_0, F_3_1, F_3_2, F_3_3, F_3_4, F_3_5, sh_5, F_5_0, F_5_1, F_5_2, F_5_3, F_5_4, F_5_5, F_5_6, F_5_7, F_5_8, sh_12, F_12_0, F_12_1, F_12_2, F_12_3, F_12_4, F_12_5, sh_14, F_14_0, F_14_1, F_14_2, F_14_3, F_14_4, F_14_5, F_14_6, F_14_7, F_14_8, sh_21, F_21_0, F_21_1, F_21_2, F_21_3, F_21_4, F_21_5, F_21_6, F_21_7, F_21_8, sh_28, F_28_0, F_28_1, F_28_2, F_28_3, F_28_4, F_28_5, F_28_6, F_28_7, F_28_8, sh_35, F_35_0, sh_39, F_39_0, F_39_1, F_39_2, F_39_3, F_39_4, F_39_5, F_39_6, F_39_7, F_39_8, F_39_9, F_39_10, F_39_11, F_39_12, F_39_13, A_2, A_4, A_6, A_7, A_8, A_9, A_10, A_11, A_13, A_15, A_16, A_17, A_18, A_19, A_20, A_22, A_23, A_24, A_25, A_26, A_27, A_29, A_30, A_31, A_32, A_33, A_34, A_36, A_37, A_38, A_40, A_41, A_42, A_43, A_44, A_45, A_46, A_47]
        simp (disch := omega) only [nI_leI, nI_ltI, nI_eq, nI_1, nI_add, one_shl, nI_or, nI_xor, nI_and, bit_0, bit_1, true_or, or_true, true_and, and_true, eq_self, not_true_eq_false, not_false_eq_true, forall_const]
        refine ⟨fun q => absurd q (by decide), fun _ => ⟨fun q => h1 fun pp' g' l' e1 e2 e3 e4 e5 e6 => ?_, fun q => ⟨l, by omega, rfl, ?_⟩⟩⟩
        · have e7 := nI_inj (by omega) (by omega) e1
          have := gle hp4 e4
          have e8 := nI_inj (by omega) (by omega) e3
          rw [← e7, ← e8]; exact q
        · have hb : g.testBit pp = true := by simpa using q
          obtain ⟨k1, k2⟩ := h2 pp g l rfl hpp rfl hg rfl hlc hb
          rw [(hl l hlc).1]
          refine ⟨pp, g, lk l, n, c, p, r, h0, lk, rfl, hpp, by omega, (hl l hlc).2, hX0, fun hex f b => ?_, fun hno f b hbar => ?_⟩
          · dsimp only [k_X4_wish_0, k_X4_wish_1, k_X4_wish_4, k_X4_wish_5, k_X4_wish_8, k_X4_wish_11, k_X4_wish_12, k_X4_wish_13, k_X4_wish_16, k_X4_wish_19, k_X4_wish_22, k_X4_wish_25, k_X4_wish_26, k_X4_wish_29, k_X4_wish_30, k_X4_wish_33, k_X4_wish_36, k_X4_wish_37, k_X4_wish_38, k_X4_wish_39, k_X4_wish_40, k_X4_wish_41, k_X4_wish_42, k_X4_wish_43, k_X4_wish_46, k_X4_wish_47, k_X4_wish_48, k_X4_wish_49, k_X4_wish_50, k_X4_wish_51, k_X4_wish_52, k_X4_wish_55, k_X4_wish_58, k_X4_wish_59, k_X4_wish_60, k_X4_wish_63, k_X4_wish_66, k_X4_wish_68, k_X4_wish_69, k_X4_wish_70, k_X4_wish_71, k_X4_wish_72, k_X4_wish_75, k_X4_wish_78, k_X4_wish_79, k_X4_wish_80, k_X4_wish_83, wp1, wp_s, cutIn, kont, Nat.reduceSub, Nat.reduceAdd, nth, o_const, o_lconst, o_ref, o_iload, o_lload, o_aload, o_istore, o_lstore, o_astore, o_iinc, o_bin, o_div, o_un, o_lbin, o_lsh, o_lcmp, o_i2l, o_l2i, o_if, o_icmp, o_goto, o_dup, o_dup2, o_pop, fav, o_getf, o_putI, o_putZ, o_putL, o_ald, o_ast, o_alen, popn, rst, o_callV, o_callT, o_callS, swx, o_sw, o_ret, o_iret, o_zret, o_cret, o_lret, o_aret, lg, lput, lput2, ls1, isL, entL, wsum, rdI1, rdI2, rdA1, rdA21, rdA22, rdL1, rdL22, rdL21, upN_at, rep, sh_0, F_0_0, F_0_1, F_0_2, F_0_3, F_0_4, F_0_5, F_0_6, F_0_7, F_0_8, sh_1, F_1_0, F_1_1, F_1_2, F_1_3, F_1_4, F_1_5, sh_3, F_3_0, F_3_1, F_3_2, F_3_3, F_3_4, F_3_5, sh_5, F_5_0, F_5_1, F_5_2, F_5_3, F_5_4, F_5_5, F_5_6, F_5_7, F_5_8, sh_12, F_12_0, F_12_1, F_12_2, F_12_3, F_12_4, F_12_5, sh_14, F_14_0, F_14_1, F_14_2, F_14_3, F_14_4, F_14_5, F_14_6, F_14_7, F_14_8, sh_21, F_21_0, F_21_1, F_21_2, F_21_3, F_21_4, F_21_5, F_21_6, F_21_7, F_21_8, sh_28, F_28_0, F_28_1, F_28_2, F_28_3, F_28_4, F_28_5, F_28_6, F_28_7, F_28_8, sh_35, F_35_0, sh_39, F_39_0, F_39_1, F_39_2, F_39_3, F_39_4, F_39_5, F_39_6, F_39_7, F_39_8, F_39_9, F_39_10, F_39_11, F_39_12, F_39_13, A_2, A_4, A_6, A_7, A_8, A_9, A_10, A_11, A_13, A_15, A_16, A_17, A_18, A_19, A_20, A_22, A_23, A_24, A_25, A_26, A_27, A_29, A_30, A_31, A_32, A_33, A_34, A_36, A_37, A_38, A_40, A_41, A_42, A_43, A_44, A_45, A_46, A_47]
            exact ⟨fun _ => k1 hex f b, fun q => absurd rfl q⟩
          · obtain ⟨k3, k4⟩ := k2 hno
            have hw : ∀ row, row < 512 → (Wsh (fsp r (hd h0 g p n) n) (lk l) b row ↔ Grt r h0 n p g pp (lk l) row) := by
              intro row hrow
              obtain ⟨b1, b2⟩ := hbar row hrow
              unfold Wsh Grt
              constructor
              · rintro ⟨w1, w2⟩
                exact ⟨fun z => by rw [b1 z] at w1; exact absurd w1 (by decide), w2⟩
              · rintro ⟨w1, w2⟩
                exact ⟨b2 w1, w2⟩
            dsimp only [k_X4_wish_0, k_X4_wish_1, k_X4_wish_4, k_X4_wish_5, k_X4_wish_8, k_X4_wish_11, k_X4_wish_12, k_X4_wish_13, k_X4_wish_16, k_X4_wish_19, k_X4_wish_22, k_X4_wish_25, k_X4_wish_26, k_X4_wish_29, k_X4_wish_30, k_X4_wish_33, k_X4_wish_36, k_X4_wish_37, k_X4_wish_38, k_X4_wish_39, k_X4_wish_40, k_X4_wish_41, k_X4_wish_42, k_X4_wish_43, k_X4_wish_46, k_X4_wish_47, k_X4_wish_48, k_X4_wish_49, k_X4_wish_50, k_X4_wish_51, k_X4_wish_52, k_X4_wish_55, k_X4_wish_58, k_X4_wish_59, k_X4_wish_60, k_X4_wish_63, k_X4_wish_66, k_X4_wish_68, k_X4_wish_69, k_X4_wish_70, k_X4_wish_71, k_X4_wish_72, k_X4_wish_75, k_X4_wish_78, k_X4_wish_79, k_X4_wish_80, k_X4_wish_83, wp1, wp_s, cutIn, kont, Nat.reduceSub, Nat.reduceAdd, nth, o_const, o_lconst, o_ref, o_iload, o_lload, o_aload, o_istore, o_lstore, o_astore, o_iinc, o_bin, o_div, o_un, o_lbin, o_lsh, o_lcmp, o_i2l, o_l2i, o_if, o_icmp, o_goto, o_dup, o_dup2, o_pop, fav, o_getf, o_putI, o_putZ, o_putL, o_ald, o_ast, o_alen, popn, rst, o_callV, o_callT, o_callS, swx, o_sw, o_ret, o_iret, o_zret, o_cret, o_lret, o_aret, lg, lput, lput2, ls1, isL, entL, wsum, rdI1, rdI2, rdA1, rdA21, rdA22, rdL1, rdL22, rdL21, upN_at, rep, sh_0, F_0_0, F_0_1, F_0_2, F_0_3, F_0_4, F_0_5, F_0_6, F_0_7, F_0_8, sh_1, F_1_0, F_1_1, F_1_2, F_1_3, F_1_4, F_1_5, sh_3, F_3_0, F_3_1, F_3_2, F_3_3, F_3_4, F_3_5, sh_5, F_5_0, F_5_1, F_5_2, F_5_3, F_5_4, F_5_5, F_5_6, F_5_7, F_5_8, sh_12, F_12_0, F_12_1, F_12_2, F_12_3, F_12_4, F_12_5, sh_14, F_14_0, F_14_1, F_14_2, F_14_3, F_14_4, F_14_5, F_14_6, F_14_7, F_14_8, sh_21, F_21_0, F_21_1, F_21_2, F_21_3, F_21_4, F_21_5, F_21_6, F_21_7, F_21_8, sh_28, F_28_0, F_28_1, F_28_2, F_28_3, F_28_4, F_28_5, F_28_6, F_28_7, F_28_8, sh_35, F_35_0, sh_39, F_39_0, F_39_1, F_39_2, F_39_3, F_39_4, F_39_5, F_39_6, F_39_7, F_39_8, F_39_9, F_39_10, F_39_11, F_39_12, F_39_13, A_2, A_4, A_6, A_7, A_8, A_9, A_10, A_11, A_13, A_15, A_16, A_17, A_18, A_19, A_20, A_22, A_23, A_24, A_25, A_26, A_27, A_29, A_30, A_31, A_32, A_33, A_34, A_36, A_37, A_38, A_40, A_41, A_42, A_43, A_44, A_45, A_46, A_47]
            refine ⟨fun q => absurd q (by decide), fun _ => ⟨l, by omega, rfl, ?_⟩⟩
            rw [(hl l hlc).1]
            refine ⟨g, lk l, n, c, p, r, h0, lk, rfl, by omega, (hl l hlc).2, XW_2 hX0 f b, fun row hrow hW hless f2 => ?_, fun hW f2 => ?_⟩
            · dsimp only [k_X4_wish_0, k_X4_wish_1, k_X4_wish_4, k_X4_wish_5, k_X4_wish_8, k_X4_wish_11, k_X4_wish_12, k_X4_wish_13, k_X4_wish_16, k_X4_wish_19, k_X4_wish_22, k_X4_wish_25, k_X4_wish_26, k_X4_wish_29, k_X4_wish_30, k_X4_wish_33, k_X4_wish_36, k_X4_wish_37, k_X4_wish_38, k_X4_wish_39, k_X4_wish_40, k_X4_wish_41, k_X4_wish_42, k_X4_wish_43, k_X4_wish_46, k_X4_wish_47, k_X4_wish_48, k_X4_wish_49, k_X4_wish_50, k_X4_wish_51, k_X4_wish_52, k_X4_wish_55, k_X4_wish_58, k_X4_wish_59, k_X4_wish_60, k_X4_wish_63, k_X4_wish_66, k_X4_wish_68, k_X4_wish_69, k_X4_wish_70, k_X4_wish_71, k_X4_wish_72, k_X4_wish_75, k_X4_wish_78, k_X4_wish_79, k_X4_wish_80, k_X4_wish_83, wp1, wp_s, cutIn, kont, Nat.reduceSub, Nat.reduceAdd, nth, o_const, o_lconst, o_ref, o_iload, o_lload, o_aload, o_istore, o_lstore, o_astore, o_iinc, o_bin, o_div, o_un, o_lbin, o_lsh, o_lcmp, o_i2l, o_l2i, o_if, o_icmp, o_goto, o_dup, o_dup2, o_pop, fav, o_getf, o_putI, o_putZ, o_putL, o_ald, o_ast, o_alen, popn, rst, o_callV, o_callT, o_callS, swx, o_sw, o_ret, o_iret, o_zret, o_cret, o_lret, o_aret, lg, lput, lput2, ls1, isL, entL, wsum, rdI1, rdI2, rdA1, rdA21, rdA22, rdL1, rdL22, rdL21, upN_at, rep, sh_0, F_0_0, F_0_1, F_0_2, F_0_3, F_0_4, F_0_5, F_0_6, F_0_7, F_0_8, sh_1, F_1_0, F_1_1, F_1_2, F_1_3, F_1_4, F_1_5, sh_3, F_3_0, F_3_1, F_3_2, F_3_3, F_3_4, F_3_5, sh_5, F_5_0, F_5_1, F_5_2, F_5_3, F_5_4, F_5_5, F_5_6, F_5_7, F_5_8, sh_12, F_12_0, F_12_1, F_12_2, F_12_3, F_12_4, F_12_5, sh_14, F_14_0, F_14_1, F_14_2, F_14_3, F_14_4, F_14_5, F_14_6, F_14_7, F_14_8, sh_21, F_21_0, F_21_1, F_21_2, F_21_3, F_21_4, F_21_5, F_21_6, F_21_7, F_21_8, sh_28, F_28_0, F_28_1, F_28_2, F_28_3, F_28_4, F_28_5, F_28_6, F_28_7, F_28_8, sh_35, F_35_0, sh_39, F_39_0, F_39_1, F_39_2, F_39_3, F_39_4, F_39_5, F_39_6, F_39_7, F_39_8, F_39_9, F_39_10, F_39_11, F_39_12, F_39_13, A_2, A_4, A_6, A_7, A_8, A_9, A_10, A_11, A_13, A_15, A_16, A_17, A_18, A_19, A_20, A_22, A_23, A_24, A_25, A_26, A_27, A_29, A_30, A_31, A_32, A_33, A_34, A_36, A_37, A_38, A_40, A_41, A_42, A_43, A_44, A_45, A_46, A_47]
              have := k3 row hrow ((hw row hrow).mp hW) (fun j hj z => hless j hj ((hw j (by omega)).mpr z)) f2 b
              simp only [sA_sA, sA_cm, sI_sA, sI_sI, sI_cm, sL_sA, sL_sI, sL_sL, sL_cm, Nat.reduceLT] at this ⊢
              exact this
            · dsimp only [k_X4_wish_0, k_X4_wish_1, k_X4_wish_4, k_X4_wish_5, k_X4_wish_8, k_X4_wish_11, k_X4_wish_12, k_X4_wish_13, k_X4_wish_16, k_X4_wish_19, k_X4_wish_22, k_X4_wish_25, k_X4_wish_26, k_X4_wish_29, k_X4_wish_30, k_X4_wish_33, k_X4_wish_36, k_X4_wish_37, k_X4_wish_38, k_X4_wish_39, k_X4_wish_40, k_X4_wish_41, k_X4_wish_42, k_X4_wish_43, k_X4_wish_46, k_X4_wish_47, k_X4_wish_48, k_X4_wish_49, k_X4_wish_50, k_X4_wish_51, k_X4_wish_52, k_X4_wish_55, k_X4_wish_58, k_X4_wish_59, k_X4_wish_60, k_X4_wish_63, k_X4_wish_66, k_X4_wish_68, k_X4_wish_69, k_X4_wish_70, k_X4_wish_71, k_X4_wish_72, k_X4_wish_75, k_X4_wish_78, k_X4_wish_79, k_X4_wish_80, k_X4_wish_83, wp1, wp_s, cutIn, kont, Nat.reduceSub, Nat.reduceAdd, nth, o_const, o_lconst, o_ref, o_iload, o_lload, o_aload, o_istore, o_lstore, o_astore, o_iinc, o_bin, o_div, o_un, o_lbin, o_lsh, o_lcmp, o_i2l, o_l2i, o_if, o_icmp, o_goto, o_dup, o_dup2, o_pop, fav, o_getf, o_putI, o_putZ, o_putL, o_ald, o_ast, o_alen, popn, rst, o_callV, o_callT, o_callS, swx, o_sw, o_ret, o_iret, o_zret, o_cret, o_lret, o_aret, lg, lput, lput2, ls1, isL, entL, wsum, rdI1, rdI2, rdA1, rdA21, rdA22, rdL1, rdL22, rdL21, upN_at, rep, sh_0, F_0_0, F_0_1, F_0_2, F_0_3, F_0_4, F_0_5, F_0_6, F_0_7, F_0_8, sh_1, F_1_0, F_1_1, F_1_2, F_1_3, F_1_4, F_1_5, sh_3, F_3_0, F_3_1, F_3_2, F_3_3, F_3_4, F_3_5, sh_5, F_5_0, F_5_1, F_5_2, F_5_3, F_5_4, F_5_5, F_5_6, F_5_7, F_5_8, sh_12, F_12_0, F_12_1, F_12_2, F_12_3, F_12_4, F_12_5, sh_14, F_14_0, F_14_1, F_14_2, F_14_3, F_14_4, F_14_5, F_14_6, F_14_7, F_14_8, sh_21, F_21_0, F_21_1, F_21_2, F_21_3, F_21_4, F_21_5, F_21_6, F_21_7, F_21_8, sh_28, F_28_0, F_28_1, F_28_2, F_28_3, F_28_4, F_28_5, F_28_6, F_28_7, F_28_8, sh_35, F_35_0, sh_39, F_39_0, F_39_1, F_39_2, F_39_3, F_39_4, F_39_5, F_39_6, F_39_7, F_39_8, F_39_9, F_39_10, F_39_11, F_39_12, F_39_13, A_2, A_4, A_6, A_7, A_8, A_9, A_10, A_11, A_13, A_15, A_16, A_17, A_18, A_19, A_20, A_22, A_23, A_24, A_25, A_26, A_27, A_29, A_30, A_31, A_32, A_33, A_34, A_36, A_37, A_38, A_40, A_41, A_42, A_43, A_44, A_45, A_46, A_47]
              have := k4 (fun row hrow z => hW row hrow ((hw row hrow).mpr z)) f2 b
              simp only [sA_sA, sA_cm, sI_sA, sI_sI, sI_cm, sL_sA, sL_sI, sL_sL, sL_cm, Nat.reduceLT] at this ⊢
              exact this
      · rw [hc] at hz
        dsimp only [k_X4_wish_0, k_X4_wish_1, k_X4_wish_4, k_X4_wish_5, k_X4_wish_8, k_X4_wish_11, k_X4_wish_12, k_X4_wish_13, k_X4_wish_16, k_X4_wish_19, k_X4_wish_22, k_X4_wish_25, k_X4_wish_26, k_X4_wish_29, k_X4_wish_30, k_X4_wish_33, k_X4_wish_36, k_X4_wish_37, k_X4_wish_38, k_X4_wish_39, k_X4_wish_40, k_X4_wish_41, k_X4_wish_42, k_X4_wish_43, k_X4_wish_46, k_X4_wish_47, k_X4_wish_48, k_X4_wish_49, k_X4_wish_50, k_X4_wish_51, k_X4_wish_52, k_X4_wish_55, k_X4_wish_58, k_X4_wish_59, k_X4_wish_60, k_X4_wish_63, k_X4_wish_66, k_X4_wish_68, k_X4_wish_69, k_X4_wish_70, k_X4_wish_71, k_X4_wish_72, k_X4_wish_75, k_X4_wish_78, k_X4_wish_79, k_X4_wish_80, k_X4_wish_83, wp1, wp_s, cutIn, kont, Nat.reduceSub, Nat.reduceAdd, nth, o_const, o_lconst, o_ref, o_iload, o_lload, o_aload, o_istore, o_lstore, o_astore, o_iinc, o_bin, o_div, o_un, o_lbin, o_lsh, o_lcmp, o_i2l, o_l2i, o_if, o_icmp, o_goto, o_dup, o_dup2, o_pop, fav, o_getf, o_putI, o_putZ, o_putL, o_ald, o_ast, o_alen, popn, rst, o_callV, o_callT, o_callS, swx, o_sw, o_ret, o_iret, o_zret, o_cret, o_lret, o_aret, lg, lput, lput2, ls1, isL, entL, wsum, rdI1, rdI2, rdA1, rdA21, rdA22, rdL1, rdL22, rdL21, upN_at, rep, sh_0, F_0_0, F_0_1, F_0_2, F_0_3, F_0_4, F_0_5, F_0_6, F_0_7, F_0_8, sh_1, F_1_0, F_1_1, F_1_2, F_1_3, F_1_4, F_1_5, sh_3, F_3_0, F_3_1, F_3_2, F_3_3, F_3_4, F_3_5, sh_5, F_5_0, F_5_1, F_5_2, F_5_3, F_5_4, F_5_5, F_5_6, F_5_7, F_5_8, sh_12, F_12_0, F_12_1, F_12_2, F_12_3, F_12_4, F_12_5, sh_14, F_14_0, F_14_1, F_14_2, F_14_3, F_14_4, F_14_5, F_14_6, F_14_7, F_14_8, sh_21, F_21_0, F_21_1, F_21_2, F_21_3, F_21_4, F_21_5, F_21_6, F_21_7, F_21_8, sh_28, F_28_0, F_28_1, F_28_2, F_28_3, F_28_4, F_28_5, F_28_6, F_28_7, F_28_8, sh_35, F_35_0, sh_39, F_39_0, F_39_1, F_39_2, F_39_3, F_39_4, F_39_5, F_39_6, F_39_7, F_39_8, F_39_9, F_39_10, F_39_11, F_39_12, F_39_13, A_2, A_4, A_6, A_7, A_8, A_9, A_10, A_11, A_13, A_15, A_16, A_17, A_18, A_19, A_20, A_22, A_23, A_24, A_25, A_26, A_27, A_29, A_30, A_31, A_32, A_33, A_34, A_36, A_37, A_38, A_40, A_41, A_42, A_43, A_44, A_45, A_46, A_47]
        exact ⟨fun _ => h1 fun pp' g' l' e1 e2 e3 e4 e5 e6 => absurd ⟨by rw [e5]; exact nI_pos' (by omega), by rw [e5, nI_ltI (by omega) (by omega)]; exact e6⟩ hz, fun q => absurd rfl q⟩
    · dsimp only [k_X4_wish_0, k_X4_wish_1, k_X4_wish_4, k_X4_wish_5, k_X4_wish_8, k_X4_wish_11, k_X4_wish_12, k_X4_wish_13, k_X4_wish_16, k_X4_wish_19, k_X4_wish_22, k_X4_wish_25, k_X4_wish_26, k_X4_wish_29, k_X4_wish_30, k_X4_wish_33, k_X4_wish_36, k_X4_wish_37, k_X4_wish_38, k_X4_wish_39, k_X4_wish_40, k_X4_wish_41, k_X4_wish_42, k_X4_wish_43, k_X4_wish_46, k_X4_wish_47, k_X4_wish_48, k_X4_wish_49, k_X4_wish_50, k_X4_wish_51, k_X4_wish_52, k_X4_wish_55, k_X4_wish_58, k_X4_wish_59, k_X4_wish_60, k_X4_wish_63, k_X4_wish_66, k_X4_wish_68, k_X4_wish_69, k_X4_wish_70, k_X4_wish_71, k_X4_wish_72, k_X4_wish_75, k_X4_wish_78, k_X4_wish_79, k_X4_wish_80, k_X4_wish_83, wp1, wp_s, cutIn, kont, Nat.reduceSub, Nat.reduceAdd, nth, o_const, o_lconst, o_ref, o_iload, o_lload, o_aload, o_istore, o_lstore, o_astore, o_iinc, o_bin, o_div, o_un, o_lbin, o_lsh, o_lcmp, o_i2l, o_l2i, o_if, o_icmp, o_goto, o_dup, o_dup2, o_pop, fav, o_getf, o_putI, o_putZ, o_putL, o_ald, o_ast, o_alen, popn, rst, o_callV, o_callT, o_callS, swx, o_sw, o_ret, o_iret, o_zret, o_cret, o_lret, o_aret, lg, lput, lput2, ls1, isL, entL, wsum, rdI1, rdI2, rdA1, rdA21, rdA22, rdL1, rdL22, rdL21, upN_at, rep, sh_0, F_0_0, F_0_1, F_0_2, F_0_3, F_0_4, F_0_5, F_0_6, F_0_7, F_0_8, sh_1, F_1_0, F_1_1, F_1_2, F_1_3, F_1_4, F_1_5, sh_3, F_3_0, F_3_1, F_3_2, F_3_3, F_3_4, F_3_5, sh_5, F_5_0, F_5_1, F_5_2, F_5_3, F_5_4, F_5_5, F_5_6, F_5_7, F_5_8, sh_12, F_12_0, F_12_1, F_12_2, F_12_3, F_12_4, F_12_5, sh_14, F_14_0, F_14_1, F_14_2, F_14_3, F_14_4, F_14_5, F_14_6, F_14_7, F_14_8, sh_21, F_21_0, F_21_1, F_21_2, F_21_3, F_21_4, F_21_5, F_21_6, F_21_7, F_21_8, sh_28, F_28_0, F_28_1, F_28_2, F_28_3, F_28_4, F_28_5, F_28_6, F_28_7, F_28_8, sh_35, F_35_0, sh_39, F_39_0, F_39_1, F_39_2, F_39_3, F_39_4, F_39_5, F_39_6, F_39_7, F_39_8, F_39_9, F_39_10, F_39_11, F_39_12, F_39_13, A_2, A_4, A_6, A_7, A_8, A_9, A_10, A_11, A_13, A_15, A_16, A_17, A_18, A_19, A_20, A_22, A_23, A_24, A_25, A_26, A_27, A_29, A_30, A_31, A_32, A_33, A_34, A_36, A_37, A_38, A_40, A_41, A_42, A_43, A_44, A_45, A_46, A_47]
      exact ⟨fun _ => h1 fun pp' g' l' e1 e2 e3 e4 e5 e6 => absurd ⟨g', e3, e4⟩ hy, fun q => absurd rfl q⟩
  · rw [hp] at hx
    dsimp only [k_X4_wish_0, k_X4_wish_1, k_X4_wish_4, k_X4_wish_5, k_X4_wish_8, k_X4_wish_11, k_X4_wish_12, k_X4_wish_13, k_X4_wish_16, k_X4_wish_19, k_X4_wish_22, k_X4_wish_25, k_X4_wish_26, k_X4_wish_29, k_X4_wish_30, k_X4_wish_33, k_X4_wish_36, k_X4_wish_37, k_X4_wish_38, k_X4_wish_39, k_X4_wish_40, k_X4_wish_41, k_X4_wish_42, k_X4_wish_43, k_X4_wish_46, k_X4_wish_47, k_X4_wish_48, k_X4_wish_49, k_X4_wish_50, k_X4_wish_51, k_X4_wish_52, k_X4_wish_55, k_X4_wish_58, k_X4_wish_59, k_X4_wish_60, k_X4_wish_63, k_X4_wish_66, k_X4_wish_68, k_X4_wish_69, k_X4_wish_70, k_X4_wish_71, k_X4_wish_72, k_X4_wish_75, k_X4_wish_78, k_X4_wish_79, k_X4_wish_80, k_X4_wish_83, wp1, wp_s, cutIn, kont, Nat.reduceSub, Nat.reduceAdd, nth, o_const, o_lconst, o_ref, o_iload, o_lload, o_aload, o_istore, o_lstore, o_astore, o_iinc, o_bin, o_div, o_un, o_lbin, o_lsh, o_lcmp, o_i2l, o_l2i, o_if, o_icmp, o_goto, o_dup, o_dup2, o_pop, fav, o_getf, o_putI, o_putZ, o_putL, o_ald, o_ast, o_alen, popn, rst, o_callV, o_callT, o_callS, swx, o_sw, o_ret, o_iret, o_zret, o_cret, o_lret, o_aret, lg, lput, lput2, ls1, isL, entL, wsum, rdI1, rdI2, rdA1, rdA21, rdA22, rdL1, rdL22, rdL21, upN_at, rep, sh_0, F_0_0, F_0_1, F_0_2, F_0_3, F_0_4, F_0_5, F_0_6, F_0_7, F_0_8, sh_1, F_1_0, F_1_1, F_1_2, F_1_3, F_1_4, F_1_5, sh_3, F_3_0, F_3_1, F_3_2, F_3_3, F_3_4, F_3_5, sh_5, F_5_0, F_5_1, F_5_2, F_5_3, F_5_4, F_5_5, F_5_6, F_5_7, F_5_8, sh_12, F_12_0, F_12_1, F_12_2, F_12_3, F_12_4, F_12_5, sh_14, F_14_0, F_14_1, F_14_2, F_14_3, F_14_4, F_14_5, F_14_6, F_14_7, F_14_8, sh_21, F_21_0, F_21_1, F_21_2, F_21_3, F_21_4, F_21_5, F_21_6, F_21_7, F_21_8, sh_28, F_28_0, F_28_1, F_28_2, F_28_3, F_28_4, F_28_5, F_28_6, F_28_7, F_28_8, sh_35, F_35_0, sh_39, F_39_0, F_39_1, F_39_2, F_39_3, F_39_4, F_39_5, F_39_6, F_39_7, F_39_8, F_39_9, F_39_10, F_39_11, F_39_12, F_39_13, A_2, A_4, A_6, A_7, A_8, A_9, A_10, A_11, A_13, A_15, A_16, A_17, A_18, A_19, A_20, A_22, A_23, A_24, A_25, A_26, A_27, A_29, A_30, A_31, A_32, A_33, A_34, A_36, A_37, A_38, A_40, A_41, A_42, A_43, A_44, A_45, A_46, A_47]
    exact ⟨fun _ => h1 fun pp' g' l' e1 e2 e3 e4 e5 e6 => absurd ⟨by rw [e1]; exact nI_pos' (by omega), by rw [e1, nI_ltI (by omega) (by omega)]; exact e2⟩ hx, fun q => absurd rfl q⟩
theorem c_X4_wish : Ctr yX4_wish cX4_wish 4 (some .int) ({ frames := 4, cells := 0, slots := 0, locals := 92 } : Room) S_X4_wish := ctr_of (T := T_X4_wish) (by decide +kernel) (fun post C hr => t_X4_wish post C hr) v_X4_wish
