/-! The class's face: what opens. -/
/-- the first of the least weight -/
def mnf (P : Nat → Bool) (w : Nat → Nat) : Nat → Option Nat
  | 0 => none
  | T + 1 => match mnf P w T with
    | none => if P T = true then some T else none
    | some b => if P T = true ∧ w T < w b then some T else some b
theorem mnf_in {P : Nat → Bool} {w : Nat → Nat} : ∀ {n b : Nat}, mnf P w n = some b → b < n ∧ P b = true := by
  intro n
  induction n with
  | zero => intro b h; cases h
  | succ n ih =>
    intro b h
    rw [mnf] at h
    split at h
    · split at h
      · rename_i hp; cases h; exact ⟨by omega, hp⟩
      · cases h
    · rename_i b' hb
      split at h
      · rename_i hp; cases h; exact ⟨by omega, hp.1⟩
      · cases h; obtain ⟨h1, h2⟩ := ih hb; exact ⟨by omega, h2⟩
theorem mnf_s0 {P : Nat → Bool} {w : Nat → Nat} {n : Nat} (h : P n = true → ∃ b, mnf P w n = some b ∧ w b ≤ w n) : mnf P w (n + 1) = mnf P w n := by
  rw [mnf]
  split
  · rename_i hm
    rw [if_neg, hm]
    intro z
    obtain ⟨b, hb, -⟩ := h z
    rw [hm] at hb; cases hb
  · rename_i b hm
    rw [if_neg, hm]
    intro z
    obtain ⟨b', hb, hw⟩ := h z.1
    rw [hm] at hb
    cases hb
    omega
theorem mnf_s1 {P : Nat → Bool} {w : Nat → Nat} {n : Nat} (hp : P n = true) (h : ∀ b, mnf P w n = some b → w n < w b) : mnf P w (n + 1) = some n := by
  rw [mnf]
  split
  · rw [if_pos hp]
  · rename_i b hm
    rw [if_pos ⟨hp, h b hm⟩]
/-- a set of keys that makes the row -/
def fwP (us n lim : Nat) (F : Nat → Int32) (row : Int32) (T : Nat) : Bool := decide (T &&& us = T) && (decide (xrI F T n = row) && decide (cn T 9 ≤ lim))
def ans0 (m : Option Nat) (w : Nat → Nat) (what : Int32) : Int32 := match m with
  | none => -9
  | some b => if what = 1 then nI b else nI (w b)
def S_X4_fewest : SP := fun as M post => ∃ x y z n c p r h lk, as = [VR 0, VI x, VI y, VI z] ∧ XW M n c p r h lk ∧ (¬ ((0 ≤ x ∧ x < 512) ∧ (0 ≤ y ∧ y < 9) ∧ (z = 0 ∨ z = 1)) → post (some (VI (-1))) M) ∧ (∀ lim, (0 ≤ x ∧ x < 512) → y = nI lim → lim < 9 → (z = 0 ∨ z = 1) → post (some (VI (ans0 (mnf (fwP (us h n) n lim (M.2.2 2) x) (fun T => cn T 9) (us h n + 1)) (fun T => cn T 9) z))) M)
theorem cn_le (T : Nat) : ∀ n, cn T n ≤ n := by
  intro n
  induction n with
  | zero => exact Nat.le_refl 0
  | succ n ih => rw [cn]; split <;> omega
theorem cw_RX4_132 : ∀ w ∈ ([.methodLink RX4 132 yJ6_bitCount_0f7a4, .static yJ6_bitCount_0f7a4, .initialized yJ6_bitCount_0f7a4.cls, .code yJ6_bitCount_0f7a4 cJ6_bitCount_0f7a4 1 (some .int)] : List Cond), w ∈ tb := tb_all [469, 470, 64, 471] (by decide +kernel) (by decide +kernel)
theorem dX4_fewest_0 : decode cX4_fewest 0 = .ok (.iload_n 1, 1) := by decide +kernel
theorem dX4_fewest_1 : decode cX4_fewest 1 = .ok (.invokestatic 105, 3) := by decide +kernel
theorem dX4_fewest_4 : decode cX4_fewest 4 = .ok (.ifCond .eq 20, 3) := by decide +kernel
theorem dX4_fewest_7 : decode cX4_fewest 7 = .ok (.iload_n 2, 1) := by decide +kernel
theorem dX4_fewest_8 : decode cX4_fewest 8 = .ok (.ifCond .lt 16, 3) := by decide +kernel
theorem dX4_fewest_11 : decode cX4_fewest 11 = .ok (.iload_n 2, 1) := by decide +kernel
theorem dX4_fewest_12 : decode cX4_fewest 12 = .ok (.bipush 8, 2) := by decide +kernel
theorem dX4_fewest_14 : decode cX4_fewest 14 = .ok (.if_icmp .gt 10, 3) := by decide +kernel
theorem dX4_fewest_17 : decode cX4_fewest 17 = .ok (.iload_n 3, 1) := by decide +kernel
theorem dX4_fewest_18 : decode cX4_fewest 18 = .ok (.invokestatic 78, 3) := by decide +kernel
theorem dX4_fewest_21 : decode cX4_fewest 21 = .ok (.ifCond .ne 5, 3) := by decide +kernel
theorem dX4_fewest_24 : decode cX4_fewest 24 = .ok (.iconst (-1), 1) := by decide +kernel
theorem dX4_fewest_25 : decode cX4_fewest 25 = .ok (.ireturn, 1) := by decide +kernel
theorem dX4_fewest_26 : decode cX4_fewest 26 = .ok (.aload_n 0, 1) := by decide +kernel
theorem dX4_fewest_27 : decode cX4_fewest 27 = .ok (.getfield 19, 3) := by decide +kernel
theorem dX4_fewest_30 : decode cX4_fewest 30 = .ok (.getfield 71, 3) := by decide +kernel
theorem dX4_fewest_33 : decode cX4_fewest 33 = .ok (.invokevirtual 93, 3) := by decide +kernel
theorem dX4_fewest_36 : decode cX4_fewest 36 = .ok (.istore 4, 2) := by decide +kernel
theorem dX4_fewest_38 : decode cX4_fewest 38 = .ok (.bipush (-9), 2) := by decide +kernel
theorem dX4_fewest_40 : decode cX4_fewest 40 = .ok (.istore 5, 2) := by decide +kernel
theorem dX4_fewest_42 : decode cX4_fewest 42 = .ok (.iload_n 2, 1) := by decide +kernel
theorem dX4_fewest_43 : decode cX4_fewest 43 = .ok (.iconst 1, 1) := by decide +kernel
theorem dX4_fewest_44 : decode cX4_fewest 44 = .ok (.iadd, 1) := by decide +kernel
theorem dX4_fewest_45 : decode cX4_fewest 45 = .ok (.istore 6, 2) := by decide +kernel
theorem dX4_fewest_47 : decode cX4_fewest 47 = .ok (.iconst 0, 1) := by decide +kernel
theorem dX4_fewest_48 : decode cX4_fewest 48 = .ok (.istore 7, 2) := by decide +kernel
theorem dX4_fewest_50 : decode cX4_fewest 50 = .ok (.iload 7, 2) := by decide +kernel
theorem dX4_fewest_52 : decode cX4_fewest 52 = .ok (.iload 4, 2) := by decide +kernel
theorem dX4_fewest_54 : decode cX4_fewest 54 = .ok (.if_icmp .gt 56, 3) := by decide +kernel
theorem dX4_fewest_57 : decode cX4_fewest 57 = .ok (.iload 7, 2) := by decide +kernel
theorem dX4_fewest_59 : decode cX4_fewest 59 = .ok (.iload 4, 2) := by decide +kernel
theorem dX4_fewest_61 : decode cX4_fewest 61 = .ok (.invokestatic 97, 3) := by decide +kernel
theorem dX4_fewest_64 : decode cX4_fewest 64 = .ok (.ifCond .eq 40, 3) := by decide +kernel
theorem dX4_fewest_67 : decode cX4_fewest 67 = .ok (.iload 7, 2) := by decide +kernel
theorem dX4_fewest_69 : decode cX4_fewest 69 = .ok (.invokestatic 132, 3) := by decide +kernel
theorem dX4_fewest_72 : decode cX4_fewest 72 = .ok (.iload 6, 2) := by decide +kernel
theorem dX4_fewest_74 : decode cX4_fewest 74 = .ok (.if_icmp .ge 30, 3) := by decide +kernel
theorem dX4_fewest_77 : decode cX4_fewest 77 = .ok (.aload_n 0, 1) := by decide +kernel
theorem dX4_fewest_78 : decode cX4_fewest 78 = .ok (.getfield 19, 3) := by decide +kernel
theorem dX4_fewest_81 : decode cX4_fewest 81 = .ok (.getfield 71, 3) := by decide +kernel
theorem dX4_fewest_84 : decode cX4_fewest 84 = .ok (.iload 7, 2) := by decide +kernel
theorem dX4_fewest_86 : decode cX4_fewest 86 = .ok (.invokevirtual 101, 3) := by decide +kernel
theorem dX4_fewest_89 : decode cX4_fewest 89 = .ok (.iload_n 1, 1) := by decide +kernel
theorem dX4_fewest_90 : decode cX4_fewest 90 = .ok (.if_icmp .ne 14, 3) := by decide +kernel
theorem dX4_fewest_93 : decode cX4_fewest 93 = .ok (.iload 7, 2) := by decide +kernel
theorem dX4_fewest_95 : decode cX4_fewest 95 = .ok (.istore 5, 2) := by decide +kernel
theorem dX4_fewest_97 : decode cX4_fewest 97 = .ok (.iload 7, 2) := by decide +kernel
theorem dX4_fewest_99 : decode cX4_fewest 99 = .ok (.invokestatic 132, 3) := by decide +kernel
theorem dX4_fewest_102 : decode cX4_fewest 102 = .ok (.istore 6, 2) := by decide +kernel
theorem dX4_fewest_104 : decode cX4_fewest 104 = .ok (.iinc 7 1, 3) := by decide +kernel
theorem dX4_fewest_107 : decode cX4_fewest 107 = .ok (.goto (-57), 3) := by decide +kernel
theorem dX4_fewest_110 : decode cX4_fewest 110 = .ok (.iload 5, 2) := by decide +kernel
theorem dX4_fewest_112 : decode cX4_fewest 112 = .ok (.bipush (-9), 2) := by decide +kernel
theorem dX4_fewest_114 : decode cX4_fewest 114 = .ok (.if_icmp .eq 8, 3) := by decide +kernel
theorem dX4_fewest_117 : decode cX4_fewest 117 = .ok (.iload_n 3, 1) := by decide +kernel
theorem dX4_fewest_118 : decode cX4_fewest 118 = .ok (.iconst 1, 1) := by decide +kernel
theorem dX4_fewest_119 : decode cX4_fewest 119 = .ok (.if_icmp .ne 8, 3) := by decide +kernel
theorem dX4_fewest_122 : decode cX4_fewest 122 = .ok (.iload 5, 2) := by decide +kernel
theorem dX4_fewest_124 : decode cX4_fewest 124 = .ok (.goto 5, 3) := by decide +kernel
theorem dX4_fewest_127 : decode cX4_fewest 127 = .ok (.iload 6, 2) := by decide +kernel
theorem dX4_fewest_129 : decode cX4_fewest 129 = .ok (.ireturn, 1) := by decide +kernel
def T_X4_fewest (post : PO) : List (Nat × OP) := [(0, o_iload 1 1), (1, o_callS S_X4_isRow 1 4), (4, o_if (fun x => x = 0) 24 7), (7, o_iload 2 8), (8, o_if (fun x => x < 0) 24 11), (11, o_iload 2 12), (12, o_const 8 14), (14, o_icmp (fun x y => y < x) 24 17), (17, o_iload 3 18), (18, o_callS S_X4_isEither 1 21), (21, o_if (fun x => x = 0) 24 26), (24, o_const (-1) 25), (25, o_iret post), (26, o_aload 0 27), (27, o_getf 4 1 30), (30, o_getf 0 0 33), (33, o_callV 1 S_X1_usable 0 36), (36, o_istore 4 38), (38, o_const (-9) 40), (40, o_istore 5 42), (42, o_iload 2 43), (43, o_const 1 44), (44, o_bin (fun x y => x + y) 45), (45, o_istore 6 47), (47, o_const 0 48), (48, o_istore 7 50), (50, o_iload 7 52), (52, o_iload 4 54), (54, o_icmp (fun x y => y < x) 110 57), (57, o_iload 7 59), (59, o_iload 4 61), (61, o_callS S_X4_within 2 64), (64, o_if (fun x => x = 0) 104 67), (67, o_iload 7 69), (69, o_callS S_J6_bitCount_0f7a4 1 72), (72, o_iload 6 74), (74, o_icmp (fun x y => y ≤ x) 104 77), (77, o_aload 0 78), (78, o_getf 4 1 81), (81, o_getf 0 0 84), (84, o_iload 7 86), (86, o_callV 1 S_X1_madeBy 1 89), (89, o_iload 1 90), (90, o_icmp (fun x y => x = y) 93 104), (93, o_iload 7 95), (95, o_istore 5 97), (97, o_iload 7 99), (99, o_callS S_J6_bitCount_0f7a4 1 102), (102, o_istore 6 104), (104, o_iinc 7 1 107), (107, o_goto 50), (110, o_iload 5 112), (112, o_const (-9) 114), (114, o_icmp (fun x y => x = y) 122 117), (117, o_iload 3 118), (118, o_const 1 119), (119, o_icmp (fun x y => x = y) 122 127), (122, o_iload 5 124), (124, o_goto 129), (127, o_iload 6 129), (129, o_iret post)]
theorem k_X4_fewest_0 (post : PO) : lk (T_X4_fewest post) 0 = o_iload 1 1 := rfl
theorem k_X4_fewest_1 (post : PO) : lk (T_X4_fewest post) 1 = o_callS S_X4_isRow 1 4 := rfl
theorem k_X4_fewest_4 (post : PO) : lk (T_X4_fewest post) 4 = o_if (fun x => x = 0) 24 7 := rfl
theorem k_X4_fewest_7 (post : PO) : lk (T_X4_fewest post) 7 = o_iload 2 8 := rfl
theorem k_X4_fewest_8 (post : PO) : lk (T_X4_fewest post) 8 = o_if (fun x => x < 0) 24 11 := rfl
theorem k_X4_fewest_11 (post : PO) : lk (T_X4_fewest post) 11 = o_iload 2 12 := rfl
theorem k_X4_fewest_12 (post : PO) : lk (T_X4_fewest post) 12 = o_const 8 14 := rfl
theorem k_X4_fewest_14 (post : PO) : lk (T_X4_fewest post) 14 = o_icmp (fun x y => y < x) 24 17 := rfl
theorem k_X4_fewest_17 (post : PO) : lk (T_X4_fewest post) 17 = o_iload 3 18 := rfl
theorem k_X4_fewest_18 (post : PO) : lk (T_X4_fewest post) 18 = o_callS S_X4_isEither 1 21 := rfl
theorem k_X4_fewest_21 (post : PO) : lk (T_X4_fewest post) 21 = o_if (fun x => x = 0) 24 26 := rfl
theorem k_X4_fewest_24 (post : PO) : lk (T_X4_fewest post) 24 = o_const (-1) 25 := rfl
theorem k_X4_fewest_25 (post : PO) : lk (T_X4_fewest post) 25 = o_iret post := rfl
theorem k_X4_fewest_26 (post : PO) : lk (T_X4_fewest post) 26 = o_aload 0 27 := rfl
theorem k_X4_fewest_27 (post : PO) : lk (T_X4_fewest post) 27 = o_getf 4 1 30 := rfl
theorem k_X4_fewest_30 (post : PO) : lk (T_X4_fewest post) 30 = o_getf 0 0 33 := rfl
theorem k_X4_fewest_33 (post : PO) : lk (T_X4_fewest post) 33 = o_callV 1 S_X1_usable 0 36 := rfl
theorem k_X4_fewest_36 (post : PO) : lk (T_X4_fewest post) 36 = o_istore 4 38 := rfl
theorem k_X4_fewest_38 (post : PO) : lk (T_X4_fewest post) 38 = o_const (-9) 40 := rfl
theorem k_X4_fewest_40 (post : PO) : lk (T_X4_fewest post) 40 = o_istore 5 42 := rfl
theorem k_X4_fewest_42 (post : PO) : lk (T_X4_fewest post) 42 = o_iload 2 43 := rfl
theorem k_X4_fewest_43 (post : PO) : lk (T_X4_fewest post) 43 = o_const 1 44 := rfl
theorem k_X4_fewest_44 (post : PO) : lk (T_X4_fewest post) 44 = o_bin (fun x y => x + y) 45 := rfl
theorem k_X4_fewest_45 (post : PO) : lk (T_X4_fewest post) 45 = o_istore 6 47 := rfl
theorem k_X4_fewest_47 (post : PO) : lk (T_X4_fewest post) 47 = o_const 0 48 := rfl
theorem k_X4_fewest_48 (post : PO) : lk (T_X4_fewest post) 48 = o_istore 7 50 := rfl
theorem k_X4_fewest_50 (post : PO) : lk (T_X4_fewest post) 50 = o_iload 7 52 := rfl
theorem k_X4_fewest_52 (post : PO) : lk (T_X4_fewest post) 52 = o_iload 4 54 := rfl
theorem k_X4_fewest_54 (post : PO) : lk (T_X4_fewest post) 54 = o_icmp (fun x y => y < x) 110 57 := rfl
theorem k_X4_fewest_57 (post : PO) : lk (T_X4_fewest post) 57 = o_iload 7 59 := rfl
theorem k_X4_fewest_59 (post : PO) : lk (T_X4_fewest post) 59 = o_iload 4 61 := rfl
theorem k_X4_fewest_61 (post : PO) : lk (T_X4_fewest post) 61 = o_callS S_X4_within 2 64 := rfl
theorem k_X4_fewest_64 (post : PO) : lk (T_X4_fewest post) 64 = o_if (fun x => x = 0) 104 67 := rfl
theorem k_X4_fewest_67 (post : PO) : lk (T_X4_fewest post) 67 = o_iload 7 69 := rfl
theorem k_X4_fewest_69 (post : PO) : lk (T_X4_fewest post) 69 = o_callS S_J6_bitCount_0f7a4 1 72 := rfl
theorem k_X4_fewest_72 (post : PO) : lk (T_X4_fewest post) 72 = o_iload 6 74 := rfl
theorem k_X4_fewest_74 (post : PO) : lk (T_X4_fewest post) 74 = o_icmp (fun x y => y ≤ x) 104 77 := rfl
theorem k_X4_fewest_77 (post : PO) : lk (T_X4_fewest post) 77 = o_aload 0 78 := rfl
theorem k_X4_fewest_78 (post : PO) : lk (T_X4_fewest post) 78 = o_getf 4 1 81 := rfl
theorem k_X4_fewest_81 (post : PO) : lk (T_X4_fewest post) 81 = o_getf 0 0 84 := rfl
theorem k_X4_fewest_84 (post : PO) : lk (T_X4_fewest post) 84 = o_iload 7 86 := rfl
theorem k_X4_fewest_86 (post : PO) : lk (T_X4_fewest post) 86 = o_callV 1 S_X1_madeBy 1 89 := rfl
theorem k_X4_fewest_89 (post : PO) : lk (T_X4_fewest post) 89 = o_iload 1 90 := rfl
theorem k_X4_fewest_90 (post : PO) : lk (T_X4_fewest post) 90 = o_icmp (fun x y => x = y) 93 104 := rfl
theorem k_X4_fewest_93 (post : PO) : lk (T_X4_fewest post) 93 = o_iload 7 95 := rfl
theorem k_X4_fewest_95 (post : PO) : lk (T_X4_fewest post) 95 = o_istore 5 97 := rfl
theorem k_X4_fewest_97 (post : PO) : lk (T_X4_fewest post) 97 = o_iload 7 99 := rfl
theorem k_X4_fewest_99 (post : PO) : lk (T_X4_fewest post) 99 = o_callS S_J6_bitCount_0f7a4 1 102 := rfl
theorem k_X4_fewest_102 (post : PO) : lk (T_X4_fewest post) 102 = o_istore 6 104 := rfl
theorem k_X4_fewest_104 (post : PO) : lk (T_X4_fewest post) 104 = o_iinc 7 1 107 := rfl
theorem k_X4_fewest_107 (post : PO) : lk (T_X4_fewest post) 107 = o_goto 50 := rfl
theorem k_X4_fewest_110 (post : PO) : lk (T_X4_fewest post) 110 = o_iload 5 112 := rfl
theorem k_X4_fewest_112 (post : PO) : lk (T_X4_fewest post) 112 = o_const (-9) 114 := rfl
theorem k_X4_fewest_114 (post : PO) : lk (T_X4_fewest post) 114 = o_icmp (fun x y => x = y) 122 117 := rfl
theorem k_X4_fewest_117 (post : PO) : lk (T_X4_fewest post) 117 = o_iload 3 118 := rfl
theorem k_X4_fewest_118 (post : PO) : lk (T_X4_fewest post) 118 = o_const 1 119 := rfl
theorem k_X4_fewest_119 (post : PO) : lk (T_X4_fewest post) 119 = o_icmp (fun x y => x = y) 122 127 := rfl
theorem k_X4_fewest_122 (post : PO) : lk (T_X4_fewest post) 122 = o_iload 5 124 := rfl
theorem k_X4_fewest_124 (post : PO) : lk (T_X4_fewest post) 124 = o_goto 129 := rfl
theorem k_X4_fewest_127 (post : PO) : lk (T_X4_fewest post) 127 = o_iload 6 129 := rfl
theorem k_X4_fewest_129 (post : PO) : lk (T_X4_fewest post) 129 = o_iret post := rfl
set_option maxRecDepth 100000 in
theorem t_X4_fewest {p : Program} {l : Launch} {e : Env} {s : State} {m : MethodId} {args : Array Value} {below : List Frame} {meth : Method} {c : Code} {D : va_G} {dA : Nat → ClassId} {ad : Nat → Nat} (post : PO) (C : CX p s m args meth c cX4_fewest 8 yX4_fewest.cls D dA ad (AA ad s.heap.size)) (hr : meth.sig.returnType = (some .int)) : SndL (WW p l e ({ frames := 2, cells := 0, slots := 0, locals := 43 } : Room) s m args below meth c 0 0 (MQ below (CQ D dA ad post (AA ad s.heap.size)) args s 0 0 (AA ad s.heap.size)) 8 D dA ad (AA ad s.heap.size)) (T_X4_fewest post) := by
  refine snd_c (s_iload_n C rfl dX4_fewest_0) ?_
  refine snd_c (s_callS C c_X4_isRow cw_RX4_105 ⟨rfl, rfl⟩ ⟨by decide +kernel, by decide +kernel, by decide +kernel⟩ ⟨by decide, by decide⟩ ⟨Nat.zero_le _, Nat.zero_le _⟩ dX4_fewest_1) ?_
  refine snd_c (s_if_eq C dX4_fewest_4 (by decide)) ?_
  refine snd_c (s_iload_n C rfl dX4_fewest_7) ?_
  refine snd_c (s_if_lt C dX4_fewest_8 (by decide)) ?_
  refine snd_c (s_iload_n C rfl dX4_fewest_11) ?_
  refine snd_c (s_bipush C dX4_fewest_12 rfl) ?_
  refine snd_c (s_icmp_gt C dX4_fewest_14 (by decide)) ?_
  refine snd_c (s_iload_n C rfl dX4_fewest_17) ?_
  refine snd_c (s_callS C c_X4_isEither cw_RX4_78 ⟨rfl, rfl⟩ ⟨by decide +kernel, by decide +kernel, by decide +kernel⟩ ⟨by decide, by decide⟩ ⟨Nat.zero_le _, Nat.zero_le _⟩ dX4_fewest_18) ?_
  refine snd_c (s_if_ne C dX4_fewest_21 (by decide)) ?_
  refine snd_c (s_iconst C dX4_fewest_24 rfl) ?_
  refine snd_c (s_iret C hr dX4_fewest_25) ?_
  refine snd_c (s_aload_n C rfl dX4_fewest_26) ?_
  refine snd_c (s_getf C (ci := 4) (j := 1) (T := TX4) rfl inX4 (by decide) fl_RX4_19 dX4_fewest_27) ?_
  refine snd_c (s_getf C (ci := 0) (j := 0) (T := TX0) rfl inX0 (by decide) fl_RX4_71 dX4_fewest_30) ?_
  refine snd_c (s_callV C (ci := 1) c_X1_usable rfl cw_RX4_93 ⟨rfl, rfl⟩ ⟨by decide +kernel, by decide +kernel, by decide +kernel⟩ ⟨by decide, by decide⟩ ⟨Nat.zero_le _, Nat.zero_le _⟩ dX4_fewest_33) ?_
  refine snd_c (s_istore C (by decide) dX4_fewest_36) ?_
  refine snd_c (s_bipush C dX4_fewest_38 rfl) ?_
  refine snd_c (s_istore C (by decide) dX4_fewest_40) ?_
  refine snd_c (s_iload_n C rfl dX4_fewest_42) ?_
  refine snd_c (s_iconst C dX4_fewest_43 rfl) ?_
  refine snd_c (s_iadd C dX4_fewest_44) ?_
  refine snd_c (s_istore C (by decide) dX4_fewest_45) ?_
  refine snd_c (s_iconst C dX4_fewest_47 rfl) ?_
  refine snd_c (s_istore C (by decide) dX4_fewest_48) ?_
  refine snd_c (s_iload C dX4_fewest_50) ?_
  refine snd_c (s_iload C dX4_fewest_52) ?_
  refine snd_c (s_icmp_gt C dX4_fewest_54 (by decide)) ?_
  refine snd_c (s_iload C dX4_fewest_57) ?_
  refine snd_c (s_iload C dX4_fewest_59) ?_
  refine snd_c (s_callS C c_X4_within cw_RX4_97 ⟨rfl, rfl⟩ ⟨by decide +kernel, by decide +kernel, by decide +kernel⟩ ⟨by decide, by decide⟩ ⟨Nat.zero_le _, Nat.zero_le _⟩ dX4_fewest_61) ?_
  refine snd_c (s_if_eq C dX4_fewest_64 (by decide)) ?_
  refine snd_c (s_iload C dX4_fewest_67) ?_
  refine snd_c (s_callS C c_J6_bitCount_0f7a4 cw_RX4_132 ⟨rfl, rfl⟩ ⟨by decide +kernel, by decide +kernel, by decide +kernel⟩ ⟨by decide, by decide⟩ ⟨Nat.zero_le _, Nat.zero_le _⟩ dX4_fewest_69) ?_
  refine snd_c (s_iload C dX4_fewest_72) ?_
  refine snd_c (s_icmp_ge C dX4_fewest_74 (by decide)) ?_
  refine snd_c (s_aload_n C rfl dX4_fewest_77) ?_
  refine snd_c (s_getf C (ci := 4) (j := 1) (T := TX4) rfl inX4 (by decide) fl_RX4_19 dX4_fewest_78) ?_
  refine snd_c (s_getf C (ci := 0) (j := 0) (T := TX0) rfl inX0 (by decide) fl_RX4_71 dX4_fewest_81) ?_
  refine snd_c (s_iload C dX4_fewest_84) ?_
  refine snd_c (s_callV C (ci := 1) c_X1_madeBy rfl cw_RX4_101 ⟨rfl, rfl⟩ ⟨by decide +kernel, by decide +kernel, by decide +kernel⟩ ⟨by decide, by decide⟩ ⟨Nat.zero_le _, Nat.zero_le _⟩ dX4_fewest_86) ?_
  refine snd_c (s_iload_n C rfl dX4_fewest_89) ?_
  refine snd_c (s_icmp_ne C dX4_fewest_90 (by decide)) ?_
  refine snd_c (s_iload C dX4_fewest_93) ?_
  refine snd_c (s_istore C (by decide) dX4_fewest_95) ?_
  refine snd_c (s_iload C dX4_fewest_97) ?_
  refine snd_c (s_callS C c_J6_bitCount_0f7a4 cw_RX4_132 ⟨rfl, rfl⟩ ⟨by decide +kernel, by decide +kernel, by decide +kernel⟩ ⟨by decide, by decide⟩ ⟨Nat.zero_le _, Nat.zero_le _⟩ dX4_fewest_99) ?_
  refine snd_c (s_istore C (by decide) dX4_fewest_102) ?_
  refine snd_c (s_iinc C (by decide) rfl dX4_fewest_104) ?_
  refine snd_c (s_goto C dX4_fewest_107 (by decide)) ?_
  refine snd_c (s_iload C dX4_fewest_110) ?_
  refine snd_c (s_bipush C dX4_fewest_112 rfl) ?_
  refine snd_c (s_icmp_eq C dX4_fewest_114 (by decide)) ?_
  refine snd_c (s_iload_n C rfl dX4_fewest_117) ?_
  refine snd_c (s_iconst C dX4_fewest_118 rfl) ?_
  refine snd_c (s_icmp_ne C dX4_fewest_119 (by decide)) ?_
  refine snd_c (s_iload C dX4_fewest_122) ?_
  refine snd_c (s_goto C dX4_fewest_124 (by decide)) ?_
  refine snd_c (s_iload C dX4_fewest_127) ?_
  refine snd_c (s_iret C hr dX4_fewest_129) ?_
  exact trivial
def lsI (m : Option Nat) (w : Nat → Nat) (lim : Nat) : Int32 := match m with
  | none => nI (lim + 1)
  | some b => nI (w b)
def bsI (m : Option Nat) : Int32 := match m with
  | none => -9
  | some b => nI b
theorem nI9 : ∀ b, b < 2 ^ 31 → ¬ nI b = -9 := by
  intro b hb h
  have := nI_inj (a := b) (b := 2 ^ 32 - 9) (by omega) (by omega) h
  omega
set_option maxRecDepth 100000 in
theorem v_X4_fewest : ∀ as M post, S_X4_fewest as M post → wsum as ≤ 8 ∧ RUN (T_X4_fewest post) 0 (entL 8 as) [] M := by
  rintro as M post ⟨x, y, z, n, c, p, r, h0, lk, rfl, hX, h1, h2⟩
  obtain ⟨hn, hn8, hc, hc6, hp, hp4, hr, hhk, hl⟩ := hX
  have hul := us_lt h0 hn8
  refine ⟨by show 4 ≤ 8; omega, run_of [24, 26, 50] (fun μ pc lv st M' => st = [] ∧ M' = M ∧ ((pc = 24 ∧ ¬ ((0 ≤ x ∧ x < 512) ∧ (0 ≤ y ∧ y < 9) ∧ (z = 0 ∨ z = 1)) ∧ 5 = μ ∧ lv = [some (VR 0), some (VI x), some (VI y), some (VI z), none, none, none, none]) ∨ ((0 ≤ x ∧ x < 512) ∧ (z = 0 ∨ z = 1) ∧ ∃ lim, y = nI lim ∧ lim < 9 ∧ ((pc = 26 ∧ 2000 = μ ∧ lv = [some (VR 0), some (VI x), some (VI y), some (VI z), none, none, none, none]) ∨ (pc = 50 ∧ ∃ i, i ≤ us h0 n + 1 ∧ 1000 - i = μ ∧ lv = [some (VR 0), some (VI x), some (VI y), some (VI z), some (VI (nI (us h0 n))), some (VI (bsI (mnf (fwP (us h0 n) n lim (M.2.2 2) x) (fun T => cn T 9) i))), some (VI (lsI (mnf (fwP (us h0 n) n lim (M.2.2 2) x) (fun T => cn T 9) i) (fun T => cn T 9) lim)), some (VI (nI i))]))))) 60 3000 ?_ ?_⟩
  · rintro μ pc lv st M' ⟨rfl, rfl, ⟨rfl, hb, rfl, rfl⟩ | ⟨hx, hz, lim, rfl, hlim, ⟨rfl, rfl, rfl⟩ | ⟨rfl, i, hi, rfl, rfl⟩⟩⟩
    · dsimp only [k_X4_fewest_0, k_X4_fewest_1, k_X4_fewest_4, k_X4_fewest_7, k_X4_fewest_8, k_X4_fewest_11, k_X4_fewest_12, k_X4_fewest_14, k_X4_fewest_17, k_X4_fewest_18, k_X4_fewest_21, k_X4_fewest_24, k_X4_fewest_25, k_X4_fewest_26, k_X4_fewest_27, k_X4_fewest_30, k_X4_fewest_33, k_X4_fewest_36, k_X4_fewest_38, k_X4_fewest_40, k_X4_fewest_42, k_X4_fewest_43, k_X4_fewest_44, k_X4_fewest_45, k_X4_fewest_47, k_X4_fewest_48, k_X4_fewest_50, k_X4_fewest_52, k_X4_fewest_54, k_X4_fewest_57, k_X4_fewest_59, k_X4_fewest_61, k_X4_fewest_64, k_X4_fewest_67, k_X4_fewest_69, k_X4_fewest_72, k_X4_fewest_74, k_X4_fewest_77, k_X4_fewest_78, k_X4_fewest_81, k_X4_fewest_84, k_X4_fewest_86, k_X4_fewest_89, k_X4_fewest_90, k_X4_fewest_93, k_X4_fewest_95, k_X4_fewest_97, k_X4_fewest_99, k_X4_fewest_102, k_X4_fewest_104, k_X4_fewest_107, k_X4_fewest_110, k_X4_fewest_112, k_X4_fewest_114, k_X4_fewest_117, k_X4_fewest_118, k_X4_fewest_119, k_X4_fewest_122, k_X4_fewest_124, k_X4_fewest_127, k_X4_fewest_129, wp1, wp_s, cutIn, kont, Nat.reduceSub, Nat.reduceAdd, nth, o_const, o_lconst, o_ref, o_iload, o_lload, o_aload, o_istore, o_lstore, o_astore, o_iinc, o_bin, o_div, o_un, o_lbin, o_lsh, o_lcmp, o_i2l, o_l2i, o_if, o_icmp, o_goto, o_dup, o_dup2, o_pop, fav, o_getf, o_putI, o_putZ, o_putL, o_ald, o_ast, o_alen, popn, rst, o_callV, o_callT, o_callS, swx, o_sw, o_ret, o_iret, o_zret, o_cret, o_lret, o_aret, lg, lput, lput2, ls1, isL, entL, wsum, rdI1, rdI2, rdA1, rdA21, rdA22, rdL1, rdL22, rdL21, upN_at, rep, sh_0, F_0_0, F_0_1, F_0_2, F_0_3, F_0_4, F_0_5, F_0_6, F_0_7, F_0_8, sh_1, F_1_0, F_1_1, F_1_2, F_1_3, F_1_4, F_1_5, sh_3, F_3_0, F_3_1, F_3_2, F_3_3, F_3_4, F_3_5, sh_5, F_5_0, F_5_1, F_5_2, F_5_3, F_5_4, F_5_5, F_5_6, F_5_7, F_5_8, sh_12, F_12_0, F_12_1, F_12_2, F_12_3, F_12_4, F_12_5, sh_14, F_14_0, F_14_1, F_14_2, F_14_3, F_14_4, F_14_5, F_14_6, F_14_7, F_14_8, sh_21, F_21_0, F_21_1, F_21_2, F_21_3, F_21_4, F_21_5, F_21_6, F_21_7, F_21_8, sh_28, F_28_0, F_28_1, F_28_2, F_28_3, F_28_4, F_28_5, F_28_6, F_28_7, F_28_8, sh_35, F_35_0, sh_39, F_39_0, F_39_1, F_39_2, F_39_3, F_39_4, F_39_5, F_39_6, F_39_7, F_39_8, F_39_9, F_39_10, F_39_11, F_39_12, F_39_13, A_2, A_4, A_6, A_7, A_8, A_9, A_10, A_11, A_13, A_15, A_16, A_17, A_18, A_19, A_20, A_22, A_23, A_24, A_25, A_26, A_27, A_29, A_30, A_31, A_32, A_33, A_34, A_36, A_37, A_38, A_40, A_41, A_42, A_43, A_44, A_45, A_46, A_47]
      exact h1 hb
    · dsimp only [k_X4_fewest_0, k_X4_fewest_1, k_X4_fewest_4, k_X4_fewest_7, k_X4_fewest_8, k_X4_fewest_11, k_X4_fewest_12, k_X4_fewest_14, k_X4_fewest_17, k_X4_fewest_18, k_X4_fewest_21, k_X4_fewest_24, k_X4_fewest_25, k_X4_fewest_26, k_X4_fewest_27, k_X4_fewest_30, k_X4_fewest_33, k_X4_fewest_36, k_X4_fewest_38, k_X4_fewest_40, k_X4_fewest_42, k_X4_fewest_43, k_X4_fewest_44, k_X4_fewest_45, k_X4_fewest_47, k_X4_fewest_48, k_X4_fewest_50, k_X4_fewest_52, k_X4_fewest_54, k_X4_fewest_57, k_X4_fewest_59, k_X4_fewest_61, k_X4_fewest_64, k_X4_fewest_67, k_X4_fewest_69, k_X4_fewest_72, k_X4_fewest_74, k_X4_fewest_77, k_X4_fewest_78, k_X4_fewest_81, k_X4_fewest_84, k_X4_fewest_86, k_X4_fewest_89, k_X4_fewest_90, k_X4_fewest_93, k_X4_fewest_95, k_X4_fewest_97, k_X4_fewest_99, k_X4_fewest_102, k_X4_fewest_104, k_X4_fewest_107, k_X4_fewest_110, k_X4_fewest_112, k_X4_fewest_114, k_X4_fewest_117, k_X4_fewest_118, k_X4_fewest_119, k_X4_fewest_122, k_X4_fewest_124, k_X4_fewest_127, k_X4_fewest_129, wp1, wp_s, cutIn, kont, Nat.reduceSub, Nat.reduceAdd, nth, o_const, o_lconst, o_ref, o_iload, o_lload, o_aload, o_istore, o_lstore, o_astore, o_iinc, o_bin, o_div, o_un, o_lbin, o_lsh, o_lcmp, o_i2l, o_l2i, o_if, o_icmp, o_goto, o_dup, o_dup2, o_pop, fav, o_getf, o_putI, o_putZ, o_putL, o_ald, o_ast, o_alen, popn, rst, o_callV, o_callT, o_callS, swx, o_sw, o_ret, o_iret, o_zret, o_cret, o_lret, o_aret, lg, lput, lput2, ls1, isL, entL, wsum, rdI1, rdI2, rdA1, rdA21, rdA22, rdL1, rdL22, rdL21, upN_at, rep, sh_0, F_0_0, F_0_1, F_0_2, F_0_3, F_0_4, F_0_5, F_0_6, F_0_7, F_0_8, sh_1, F_1_0, F_1_1, F_1_2, F_1_3, F_1_4, F_1_5, sh_3, F_3_0, F_3_1, F_3_2, F_3_3, F_3_4, F_3_5, sh_5, F_5_0, F_5_1, F_5_2, F_5_3, F_5_4, F_5_5, F_5_6, F_5_7, F_5_8, sh_12, F_12_0, F_12_1, F_12_2, F_12_3, F_12_4, F_12_5, sh_14, F_14_0, F_14_1, F_14_2, F_14_3, F_14_4, F_14_5, F_14_6, F_14_7, F_14_8, sh_21, F_21_0, F_21_1, F_21_2, F_21_3, F_21_4, F_21_5, F_21_6, F_21_7, F_21_8, sh_28, F_28_0, F_28_1, F_28_2, F_28_3, F_28_4, F_28_5, F_28_6, F_28_7, F_28_8, sh_35, F_35_0, sh_39, F_39_0, F_39_1, F_39_2, F_39_3, F_39_4, F_39_5, F_39_6, F_39_7, F_39_8, F_39_9, F_39_10, F_39_11, F_39_12, F_39_13, A_2, A_4, A_6, A_7, A_8, A_9, A_10, A_11, A_13, A_15, A_16, A_17, A_18, A_19, A_20, A_22, A_23, A_24, A_25, A_26, A_27, A_29, A_30, A_31, A_32, A_33, A_34, A_36, A_37, A_38, A_40, A_41, A_42, A_43, A_44, A_45, A_46, A_47]
      refine ⟨n, rfl, hn, hn8, ?_⟩
      rw [show mk (fun k => !(M'.2.2 3 k == -3)) n = us h0 n from us_congr hhk]
      dsimp only [k_X4_fewest_0, k_X4_fewest_1, k_X4_fewest_4, k_X4_fewest_7, k_X4_fewest_8, k_X4_fewest_11, k_X4_fewest_12, k_X4_fewest_14, k_X4_fewest_17, k_X4_fewest_18, k_X4_fewest_21, k_X4_fewest_24, k_X4_fewest_25, k_X4_fewest_26, k_X4_fewest_27, k_X4_fewest_30, k_X4_fewest_33, k_X4_fewest_36, k_X4_fewest_38, k_X4_fewest_40, k_X4_fewest_42, k_X4_fewest_43, k_X4_fewest_44, k_X4_fewest_45, k_X4_fewest_47, k_X4_fewest_48, k_X4_fewest_50, k_X4_fewest_52, k_X4_fewest_54, k_X4_fewest_57, k_X4_fewest_59, k_X4_fewest_61, k_X4_fewest_64, k_X4_fewest_67, k_X4_fewest_69, k_X4_fewest_72, k_X4_fewest_74, k_X4_fewest_77, k_X4_fewest_78, k_X4_fewest_81, k_X4_fewest_84, k_X4_fewest_86, k_X4_fewest_89, k_X4_fewest_90, k_X4_fewest_93, k_X4_fewest_95, k_X4_fewest_97, k_X4_fewest_99, k_X4_fewest_102, k_X4_fewest_104, k_X4_fewest_107, k_X4_fewest_110, k_X4_fewest_112, k_X4_fewest_114, k_X4_fewest_117, k_X4_fewest_118, k_X4_fewest_119, k_X4_fewest_122, k_X4_fewest_124, k_X4_fewest_127, k_X4_fewest_129, wp1, wp_s, cutIn, kont, Nat.reduceSub, Nat.reduceAdd, nth, o_const, o_lconst, o_ref, o_iload, o_lload, o_aload, o_istore, o_lstore, o_astore, o_iinc, o_bin, o_div, o_un, o_lbin, o_lsh, o_lcmp, o_i2l, o_l2i, o_if, o_icmp, o_goto, o_dup, o_dup2, o_pop, fav, o_getf, o_putI, o_putZ, o_putL, o_ald, o_ast, o_alen, popn, rst, o_callV, o_callT, o_callS, swx, o_sw, o_ret, o_iret, o_zret, o_cret, o_lret, o_aret, lg, lput, lput2, ls1, isL, entL, wsum, rdI1, rdI2, rdA1, rdA21, rdA22, rdL1, rdL22, rdL21, upN_at, rep, sh_0, F_0_0, F_0_1, F_0_2, F_0_3, F_0_4, F_0_5, F_0_6, F_0_7, F_0_8, sh_1, F_1_0, F_1_1, F_1_2, F_1_3, F_1_4, F_1_5, sh_3, F_3_0, F_3_1, F_3_2, F_3_3, F_3_4, F_3_5, sh_5, F_5_0, F_5_1, F_5_2, F_5_3, F_5_4, F_5_5, F_5_6, F_5_7, F_5_8, sh_12, F_12_0, F_12_1, F_12_2, F_12_3, F_12_4, F_12_5, sh_14, F_14_0, F_14_1, F_14_2, F_14_3, F_14_4, F_14_5, F_14_6, F_14_7, F_14_8, sh_21, F_21_0, F_21_1, F_21_2, F_21_3, F_21_4, F_21_5, F_21_6, F_21_7, F_21_8, sh_28, F_28_0, F_28_1, F_28_2, F_28_3, F_28_4, F_28_5, F_28_6, F_28_7, F_28_8, sh_35, F_35_0, sh_39, F_39_0, F_39_1, F_39_2, F_39_3, F_39_4, F_39_5, F_39_6, F_39_7, F_39_8, F_39_9, F_39_10, F_39_11, F_39_12, F_39_13, A_2, A_4, A_6, A_7, A_8, A_9, A_10, A_11, A_13, A_15, A_16, A_17, A_18, A_19, A_20, A_22, A_23, A_24, A_25, A_26, A_27, A_29, A_30, A_31, A_32, A_33, A_34, A_36, A_37, A_38, A_40, A_41, A_42, A_43, A_44, A_45, A_46, A_47]
      exact cut _ _ ⟨rfl, rfl, Or.inr ⟨hx, hz, lim, rfl, hlim, Or.inr ⟨rfl, 0, by omega, rfl, rfl⟩⟩⟩ (by omega) ⟨rfl, rfl, rfl, rfl, rfl, rfl, vi_eq (nI_1 _), rfl, trivial⟩
    · have hlb : ∀ b, mnf (fwP (us h0 n) n lim (M'.2.2 2) x) (fun T => cn T 9) i = some b → b < i ∧ cn b 9 ≤ lim := by
        intro b hb
        obtain ⟨g1, g2⟩ := mnf_in hb
        simp [fwP] at g2
        exact ⟨g1, g2.2.2⟩
      have hcn := cn_le i 9
      dsimp only [k_X4_fewest_0, k_X4_fewest_1, k_X4_fewest_4, k_X4_fewest_7, k_X4_fewest_8, k_X4_fewest_11, k_X4_fewest_12, k_X4_fewest_14, k_X4_fewest_17, k_X4_fewest_18, k_X4_fewest_21, k_X4_fewest_24, k_X4_fewest_25, k_X4_fewest_26, k_X4_fewest_27, k_X4_fewest_30, k_X4_fewest_33, k_X4_fewest_36, k_X4_fewest_38, k_X4_fewest_40, k_X4_fewest_42, k_X4_fewest_43, k_X4_fewest_44, k_X4_fewest_45, k_X4_fewest_47, k_X4_fewest_48, k_X4_fewest_50, k_X4_fewest_52, k_X4_fewest_54, k_X4_fewest_57, k_X4_fewest_59, k_X4_fewest_61, k_X4_fewest_64, k_X4_fewest_67, k_X4_fewest_69, k_X4_fewest_72, k_X4_fewest_74, k_X4_fewest_77, k_X4_fewest_78, k_X4_fewest_81, k_X4_fewest_84, k_X4_fewest_86, k_X4_fewest_89, k_X4_fewest_90, k_X4_fewest_93, k_X4_fewest_95, k_X4_fewest_97, k_X4_fewest_99, k_X4_fewest_102, k_X4_fewest_104, k_X4_fewest_107, k_X4_fewest_110, k_X4_fewest_112, k_X4_fewest_114, k_X4_fewest_117, k_X4_fewest_118, k_X4_fewest_119, k_X4_fewest_122, k_X4_fewest_124, k_X4_fewest_127, k_X4_fewest_129, wp1, wp_s, cutIn, kont, Nat.reduceSub, Nat.reduceAdd, nth, o_const, o_lconst, o_ref, o_iload, o_lload, o_aload, o_istore, o_lstore, o_astore, o_iinc, o_bin, o_div, o_un, o_lbin, o_lsh, o_lcmp, o_i2l, o_l2i, o_if, o_icmp, o_goto, o_dup, o_dup2, o_pop, fav, o_getf, o_putI, o_putZ, o_putL, o_ald, o_ast, o_alen, popn, rst, o_callV, o_callT, o_callS, swx, o_sw, o_ret, o_iret, o_zret, o_cret, o_lret, o_aret, lg, lput, lput2, ls1, isL, entL, wsum, rdI1, rdI2, rdA1, rdA21, rdA22, rdL1, rdL22, rdL21, upN_at, rep, sh_0, F_0_0, F_0_1, F_0_2, F_0_3, F_0_4, F_0_5, F_0_6, F_0_7, F_0_8, sh_1, F_1_0, F_1_1, F_1_2, F_1_3, F_1_4, F_1_5, sh_3, F_3_0, F_3_1, F_3_2, F_3_3, F_3_4, F_3_5, sh_5, F_5_0, F_5_1, F_5_2, F_5_3, F_5_4, F_5_5, F_5_6, F_5_7, F_5_8, sh_12, F_12_0, F_12_1, F_12_2, F_12_3, F_12_4, F_12_5, sh_14, F_14_0, F_14_1, F_14_2, F_14_3, F_14_4, F_14_5, F_14_6, F_14_7, F_14_8, sh_21, F_21_0, F_21_1, F_21_2, F_21_3, F_21_4, F_21_5, F_21_6, F_21_7, F_21_8, sh_28, F_28_0, F_28_1, F_28_2, F_28_3, F_28_4, F_28_5, F_28_6, F_28_7, F_28_8, sh_35, F_35_0, sh_39, F_39_0, F_39_1, F_39_2, F_39_3, F_39_4, F_39_5, F_39_6, F_39_7, F_39_8, F_39_9, F_39_10, F_39_11, F_39_12, F_39_13, A_2, A_4, A_6, A_7, A_8, A_9, A_10, A_11, A_13, A_15, A_16, A_17, A_18, A_19, A_20, A_22, A_23, A_24, A_25, A_26, A_27, A_29, A_30, A_31, A_32, A_33, A_34, A_36, A_37, A_38, A_40, A_41, A_42, A_43, A_44, A_45, A_46, A_47]
      simp (disch := omega) only [nI_leI, nI_ltI, nI_eq, nI_1, nI_add, one_shl, nI_or, nI_xor, nI_and, bit_0, bit_1, true_or, or_true, true_and, and_true, eq_self, not_true_eq_false, not_false_eq_true, forall_const]
      refine ⟨fun q => ?_, fun q => ?_⟩
      · have e : i = us h0 n + 1 := by omega
        have h := h2 lim hx rfl hlim hz
        rw [← e] at h
        cases hm : mnf (fwP (us h0 n) n lim (M'.2.2 2) x) (fun T => cn T 9) i with
        | none =>
          rw [hm] at h
          exact ⟨fun _ => h, fun q => absurd rfl q⟩
        | some b =>
          rw [hm] at h
          obtain ⟨g1, g2⟩ := hlb b hm
          refine ⟨fun q => absurd q (nI9 b (by omega)), fun _ => ⟨fun q => ?_, fun q => ?_⟩⟩
          · unfold ans0 at h
            dsimp only at h
            rw [if_pos q] at h; exact h
          · unfold ans0 at h
            dsimp only at h
            rw [if_neg q] at h; exact h
      · refine ⟨nI i, us h0 n, rfl, fun hin => ?_, fun hin => ?_⟩
        · rw [In_nI (by omega) (by omega)] at hin
          dsimp only [k_X4_fewest_0, k_X4_fewest_1, k_X4_fewest_4, k_X4_fewest_7, k_X4_fewest_8, k_X4_fewest_11, k_X4_fewest_12, k_X4_fewest_14, k_X4_fewest_17, k_X4_fewest_18, k_X4_fewest_21, k_X4_fewest_24, k_X4_fewest_25, k_X4_fewest_26, k_X4_fewest_27, k_X4_fewest_30, k_X4_fewest_33, k_X4_fewest_36, k_X4_fewest_38, k_X4_fewest_40, k_X4_fewest_42, k_X4_fewest_43, k_X4_fewest_44, k_X4_fewest_45, k_X4_fewest_47, k_X4_fewest_48, k_X4_fewest_50, k_X4_fewest_52, k_X4_fewest_54, k_X4_fewest_57, k_X4_fewest_59, k_X4_fewest_61, k_X4_fewest_64, k_X4_fewest_67, k_X4_fewest_69, k_X4_fewest_72, k_X4_fewest_74, k_X4_fewest_77, k_X4_fewest_78, k_X4_fewest_81, k_X4_fewest_84, k_X4_fewest_86, k_X4_fewest_89, k_X4_fewest_90, k_X4_fewest_93, k_X4_fewest_95, k_X4_fewest_97, k_X4_fewest_99, k_X4_fewest_102, k_X4_fewest_104, k_X4_fewest_107, k_X4_fewest_110, k_X4_fewest_112, k_X4_fewest_114, k_X4_fewest_117, k_X4_fewest_118, k_X4_fewest_119, k_X4_fewest_122, k_X4_fewest_124, k_X4_fewest_127, k_X4_fewest_129, wp1, wp_s, cutIn, kont, Nat.reduceSub, Nat.reduceAdd, nth, o_const, o_lconst, o_ref, o_iload, o_lload, o_aload, o_istore, o_lstore, o_astore, o_iinc, o_bin, o_div, o_un, o_lbin, o_lsh, o_lcmp, o_i2l, o_l2i, o_if, o_icmp, o_goto, o_dup, o_dup2, o_pop, fav, o_getf, o_putI, o_putZ, o_putL, o_ald, o_ast, o_alen, popn, rst, o_callV, o_callT, o_callS, swx, o_sw, o_ret, o_iret, o_zret, o_cret, o_lret, o_aret, lg, lput, lput2, ls1, isL, entL, wsum, rdI1, rdI2, rdA1, rdA21, rdA22, rdL1, rdL22, rdL21, upN_at, rep, sh_0, F_0_0, F_0_1, F_0_2, F_0_3, F_0_4, F_0_5, F_0_6, F_0_7, F_0_8, sh_1, F_1_0, F_1_1, F_1_2, F_1_3, F_1_4, F_1_5, sh_3, F_3_0, F_3_1, F_3_2, F_3_3, F_3_4, F_3_5, sh_5, F_5_0, F_5_1, F_5_2, F_5_3, F_5_4, F_5_5, F_5_6, F_5_7, F_5_8, sh_12, F_12_0, F_12_1, F_12_2, F_12_3, F_12_4, F_12_5, sh_14, F_14_0, F_14_1, F_14_2, F_14_3, F_14_4, F_14_5, F_14_6, F_14_7, F_14_8, sh_21, F_21_0, F_21_1, F_21_2, F_21_3, F_21_4, F_21_5, F_21_6, F_21_7, F_21_8, sh_28, F_28_0, F_28_1, F_28_2, F_28_3, F_28_4, F_28_5, F_28_6, F_28_7, F_28_8, sh_35, F_35_0, sh_39, F_39_0, F_39_1, F_39_2, F_39_3, F_39_4, F_39_5, F_39_6, F_39_7, F_39_8, F_39_9, F_39_10, F_39_11, F_39_12, F_39_13, A_2, A_4, A_6, A_7, A_8, A_9, A_10, A_11, A_13, A_15, A_16, A_17, A_18, A_19, A_20, A_22, A_23, A_24, A_25, A_26, A_27, A_29, A_30, A_31, A_32, A_33, A_34, A_36, A_37, A_38, A_40, A_41, A_42, A_43, A_44, A_45, A_46, A_47]
          refine ⟨fun q => absurd q (by decide), fun _ => ⟨i, rfl, by omega, ?_⟩⟩
          dsimp only [k_X4_fewest_0, k_X4_fewest_1, k_X4_fewest_4, k_X4_fewest_7, k_X4_fewest_8, k_X4_fewest_11, k_X4_fewest_12, k_X4_fewest_14, k_X4_fewest_17, k_X4_fewest_18, k_X4_fewest_21, k_X4_fewest_24, k_X4_fewest_25, k_X4_fewest_26, k_X4_fewest_27, k_X4_fewest_30, k_X4_fewest_33, k_X4_fewest_36, k_X4_fewest_38, k_X4_fewest_40, k_X4_fewest_42, k_X4_fewest_43, k_X4_fewest_44, k_X4_fewest_45, k_X4_fewest_47, k_X4_fewest_48, k_X4_fewest_50, k_X4_fewest_52, k_X4_fewest_54, k_X4_fewest_57, k_X4_fewest_59, k_X4_fewest_61, k_X4_fewest_64, k_X4_fewest_67, k_X4_fewest_69, k_X4_fewest_72, k_X4_fewest_74, k_X4_fewest_77, k_X4_fewest_78, k_X4_fewest_81, k_X4_fewest_84, k_X4_fewest_86, k_X4_fewest_89, k_X4_fewest_90, k_X4_fewest_93, k_X4_fewest_95, k_X4_fewest_97, k_X4_fewest_99, k_X4_fewest_102, k_X4_fewest_104, k_X4_fewest_107, k_X4_fewest_110, k_X4_fewest_112, k_X4_fewest_114, k_X4_fewest_117, k_X4_fewest_118, k_X4_fewest_119, k_X4_fewest_122, k_X4_fewest_124, k_X4_fewest_127, k_X4_fewest_129, wp1, wp_s, cutIn, kont, Nat.reduceSub, Nat.reduceAdd, nth, o_const, o_lconst, o_ref, o_iload, o_lload, o_aload, o_istore, o_lstore, o_astore, o_iinc, o_bin, o_div, o_un, o_lbin, o_lsh, o_lcmp, o_i2l, o_l2i, o_if, o_icmp, o_goto, o_dup, o_dup2, o_pop, fav, o_getf, o_putI, o_putZ, o_putL, o_ald, o_ast, o_alen, popn, rst, o_callV, o_callT, o_callS, swx, o_sw, o_ret, o_iret, o_zret, o_cret, o_lret, o_aret, lg, lput, lput2, ls1, isL, entL, wsum, rdI1, rdI2, rdA1, rdA21, rdA22, rdL1, rdL22, rdL21, upN_at, rep, sh_0, F_0_0, F_0_1, F_0_2, F_0_3, F_0_4, F_0_5, F_0_6, F_0_7, F_0_8, sh_1, F_1_0, F_1_1, F_1_2, F_1_3, F_1_4, F_1_5, sh_3, F_3_0, F_3_1, F_3_2, F_3_3, F_3_4, F_3_5, sh_5, F_5_0, F_5_1, F_5_2, F_5_3, F_5_4, F_5_5, F_5_6, F_5_7, F_5_8, sh_12, F_12_0, F_12_1, F_12_2, F_12_3, F_12_4, F_12_5, sh_14, F_14_0, F_14_1, F_14_2, F_14_3, F_14_4, F_14_5, F_14_6, F_14_7, F_14_8, sh_21, F_21_0, F_21_1, F_21_2, F_21_3, F_21_4, F_21_5, F_21_6, F_21_7, F_21_8, sh_28, F_28_0, F_28_1, F_28_2, F_28_3, F_28_4, F_28_5, F_28_6, F_28_7, F_28_8, sh_35, F_35_0, sh_39, F_39_0, F_39_1, F_39_2, F_39_3, F_39_4, F_39_5, F_39_6, F_39_7, F_39_8, F_39_9, F_39_10, F_39_11, F_39_12, F_39_13, A_2, A_4, A_6, A_7, A_8, A_9, A_10, A_11, A_13, A_15, A_16, A_17, A_18, A_19, A_20, A_22, A_23, A_24, A_25, A_26, A_27, A_29, A_30, A_31, A_32, A_33, A_34, A_36, A_37, A_38, A_40, A_41, A_42, A_43, A_44, A_45, A_46, A_47]
          refine ⟨fun q2 => ?_, fun q2 => ⟨i, n, rfl, by omega, hn, hn8, ?_⟩⟩
          · refine cut _ _ ⟨rfl, rfl, Or.inr ⟨hx, hz, lim, rfl, hlim, Or.inr ⟨rfl, i + 1, by omega, rfl, rfl⟩⟩⟩ (by omega) ⟨rfl, rfl, rfl, rfl, rfl, vi_eq ?_, vi_eq ?_, vi_eq (nI_1 _), trivial⟩
            all_goals
              rw [mnf_s0]
              intro hP
              simp [fwP] at hP
              cases hm : mnf (fwP (us h0 n) n lim (M'.2.2 2) x) (fun T => cn T 9) i with
              | none =>
                rw [hm] at q2
                unfold lsI at q2
                dsimp only at q2
                rw [nI_leI (by omega) (by omega)] at q2
                omega
              | some b =>
                rw [hm] at q2
                unfold lsI at q2
                dsimp only at q2
                have := hlb b hm
                rw [nI_leI (by omega) (by omega)] at q2
                exact ⟨b, rfl, q2⟩
          · dsimp only [k_X4_fewest_0, k_X4_fewest_1, k_X4_fewest_4, k_X4_fewest_7, k_X4_fewest_8, k_X4_fewest_11, k_X4_fewest_12, k_X4_fewest_14, k_X4_fewest_17, k_X4_fewest_18, k_X4_fewest_21, k_X4_fewest_24, k_X4_fewest_25, k_X4_fewest_26, k_X4_fewest_27, k_X4_fewest_30, k_X4_fewest_33, k_X4_fewest_36, k_X4_fewest_38, k_X4_fewest_40, k_X4_fewest_42, k_X4_fewest_43, k_X4_fewest_44, k_X4_fewest_45, k_X4_fewest_47, k_X4_fewest_48, k_X4_fewest_50, k_X4_fewest_52, k_X4_fewest_54, k_X4_fewest_57, k_X4_fewest_59, k_X4_fewest_61, k_X4_fewest_64, k_X4_fewest_67, k_X4_fewest_69, k_X4_fewest_72, k_X4_fewest_74, k_X4_fewest_77, k_X4_fewest_78, k_X4_fewest_81, k_X4_fewest_84, k_X4_fewest_86, k_X4_fewest_89, k_X4_fewest_90, k_X4_fewest_93, k_X4_fewest_95, k_X4_fewest_97, k_X4_fewest_99, k_X4_fewest_102, k_X4_fewest_104, k_X4_fewest_107, k_X4_fewest_110, k_X4_fewest_112, k_X4_fewest_114, k_X4_fewest_117, k_X4_fewest_118, k_X4_fewest_119, k_X4_fewest_122, k_X4_fewest_124, k_X4_fewest_127, k_X4_fewest_129, wp1, wp_s, cutIn, kont, Nat.reduceSub, Nat.reduceAdd, nth, o_const, o_lconst, o_ref, o_iload, o_lload, o_aload, o_istore, o_lstore, o_astore, o_iinc, o_bin, o_div, o_un, o_lbin, o_lsh, o_lcmp, o_i2l, o_l2i, o_if, o_icmp, o_goto, o_dup, o_dup2, o_pop, fav, o_getf, o_putI, o_putZ, o_putL, o_ald, o_ast, o_alen, popn, rst, o_callV, o_callT, o_callS, swx, o_sw, o_ret, o_iret, o_zret, o_cret, o_lret, o_aret, lg, lput, lput2, ls1, isL, entL, wsum, rdI1, rdI2, rdA1, rdA21, rdA22, rdL1, rdL22, rdL21, upN_at, rep, sh_0, F_0_0, F_0_1, F_0_2, F_0_3, F_0_4, F_0_5, F_0_6, F_0_7, F_0_8, sh_1, F_1_0, F_1_1, F_1_2, F_1_3, F_1_4, F_1_5, sh_3, F_3_0, F_3_1, F_3_2, F_3_3, F_3_4, F_3_5, sh_5, F_5_0, F_5_1, F_5_2, F_5_3, F_5_4, F_5_5, F_5_6, F_5_7, F_5_8, sh_12, F_12_0, F_12_1, F_12_2, F_12_3, F_12_4, F_12_5, sh_14, F_14_0, F_14_1, F_14_2, F_14_3, F_14_4, F_14_5, F_14_6, F_14_7, F_14_8, sh_21, F_21_0, F_21_1, F_21_2, F_21_3, F_21_4, F_21_5, F_21_6, F_21_7, F_21_8, sh_28, F_28_0, F_28_1, F_28_2, F_28_3, F_28_4, F_28_5, F_28_6, F_28_7, F_28_8, sh_35, F_35_0, sh_39, F_39_0, F_39_1, F_39_2, F_39_3, F_39_4, F_39_5, F_39_6, F_39_7, F_39_8, F_39_9, F_39_10, F_39_11, F_39_12, F_39_13, A_2, A_4, A_6, A_7, A_8, A_9, A_10, A_11, A_13, A_15, A_16, A_17, A_18, A_19, A_20, A_22, A_23, A_24, A_25, A_26, A_27, A_29, A_30, A_31, A_32, A_33, A_34, A_36, A_37, A_38, A_40, A_41, A_42, A_43, A_44, A_45, A_46, A_47]
            have hlt : cn i 9 ≤ lim ∧ ∀ b, mnf (fwP (us h0 n) n lim (M'.2.2 2) x) (fun T => cn T 9) i = some b → cn i 9 < cn b 9 := by
              cases hm : mnf (fwP (us h0 n) n lim (M'.2.2 2) x) (fun T => cn T 9) i with
              | none =>
                rw [hm] at q2
                unfold lsI at q2
                dsimp only at q2
                rw [nI_leI (by omega) (by omega)] at q2
                exact ⟨by omega, fun b hb => by cases hb⟩
              | some b =>
                rw [hm] at q2
                unfold lsI at q2
                dsimp only at q2
                have := hlb b hm
                rw [nI_leI (by omega) (by omega)] at q2
                refine ⟨by omega, fun b' hb => ?_⟩
                cases hb
                omega
            refine ⟨fun q3 => ⟨i, rfl, by omega, ?_⟩, fun q3 => ?_⟩
            · dsimp only [k_X4_fewest_0, k_X4_fewest_1, k_X4_fewest_4, k_X4_fewest_7, k_X4_fewest_8, k_X4_fewest_11, k_X4_fewest_12, k_X4_fewest_14, k_X4_fewest_17, k_X4_fewest_18, k_X4_fewest_21, k_X4_fewest_24, k_X4_fewest_25, k_X4_fewest_26, k_X4_fewest_27, k_X4_fewest_30, k_X4_fewest_33, k_X4_fewest_36, k_X4_fewest_38, k_X4_fewest_40, k_X4_fewest_42, k_X4_fewest_43, k_X4_fewest_44, k_X4_fewest_45, k_X4_fewest_47, k_X4_fewest_48, k_X4_fewest_50, k_X4_fewest_52, k_X4_fewest_54, k_X4_fewest_57, k_X4_fewest_59, k_X4_fewest_61, k_X4_fewest_64, k_X4_fewest_67, k_X4_fewest_69, k_X4_fewest_72, k_X4_fewest_74, k_X4_fewest_77, k_X4_fewest_78, k_X4_fewest_81, k_X4_fewest_84, k_X4_fewest_86, k_X4_fewest_89, k_X4_fewest_90, k_X4_fewest_93, k_X4_fewest_95, k_X4_fewest_97, k_X4_fewest_99, k_X4_fewest_102, k_X4_fewest_104, k_X4_fewest_107, k_X4_fewest_110, k_X4_fewest_112, k_X4_fewest_114, k_X4_fewest_117, k_X4_fewest_118, k_X4_fewest_119, k_X4_fewest_122, k_X4_fewest_124, k_X4_fewest_127, k_X4_fewest_129, wp1, wp_s, cutIn, kont, Nat.reduceSub, Nat.reduceAdd, nth, o_const, o_lconst, o_ref, o_iload, o_lload, o_aload, o_istore, o_lstore, o_astore, o_iinc, o_bin, o_div, o_un, o_lbin, o_lsh, o_lcmp, o_i2l, o_l2i, o_if, o_icmp, o_goto, o_dup, o_dup2, o_pop, fav, o_getf, o_putI, o_putZ, o_putL, o_ald, o_ast, o_alen, popn, rst, o_callV, o_callT, o_callS, swx, o_sw, o_ret, o_iret, o_zret, o_cret, o_lret, o_aret, lg, lput, lput2, ls1, isL, entL, wsum, rdI1, rdI2, rdA1, rdA21, rdA22, rdL1, rdL22, rdL21, upN_at, rep, sh_0, F_0_0, F_0_1, F_0_2, F_0_3, F_0_4, F_0_5, F_0_6, F_0_7, F_0_8, sh_1, F_1_0, F_1_1, F_1_2, F_1_3, F_1_4, F_1_5, sh_3, F_3_0, F_3_1, F_3_2, F_3_3, F_3_4, F_3_5, sh_5, F_5_0, F_5_1, F_5_2, F_5_3, F_5_4, F_5_5, F_5_6, F_5_7, F_5_8, sh_12, F_12_0, F_12_1, F_12_2, F_12_3, F_12_4, F_12_5, sh_14, F_14_0, F_14_1, F_14_2, F_14_3, F_14_4, F_14_5, F_14_6, F_14_7, F_14_8, sh_21, F_21_0, F_21_1, F_21_2, F_21_3, F_21_4, F_21_5, F_21_6, F_21_7, F_21_8, sh_28, F_28_0, F_28_1, F_28_2, F_28_3, F_28_4, F_28_5, F_28_6, F_28_7, F_28_8, sh_35, F_35_0, sh_39, F_39_0, F_39_1, F_39_2, F_39_3, F_39_4, F_39_5, F_39_6, F_39_7, F_39_8, F_39_9, F_39_10, F_39_11, F_39_12, F_39_13, A_2, A_4, A_6, A_7, A_8, A_9, A_10, A_11, A_13, A_15, A_16, A_17, A_18, A_19, A_20, A_22, A_23, A_24, A_25, A_26, A_27, A_29, A_30, A_31, A_32, A_33, A_34, A_36, A_37, A_38, A_40, A_41, A_42, A_43, A_44, A_45, A_46, A_47]
              have hs := mnf_s1 (P := fwP (us h0 n) n lim (M'.2.2 2) x) (w := fun T => cn T 9) (n := i) (by simp [fwP, hin, q3, hlt.1]) hlt.2
              exact cut _ _ ⟨rfl, rfl, Or.inr ⟨hx, hz, lim, rfl, hlim, Or.inr ⟨rfl, i + 1, by omega, rfl, rfl⟩⟩⟩ (by omega) ⟨rfl, rfl, rfl, rfl, rfl, vi_eq (by rw [hs]; rfl), vi_eq (by rw [hs]; rfl), vi_eq (nI_1 _), trivial⟩
            · have hs : mnf (fwP (us h0 n) n lim (M'.2.2 2) x) (fun T => cn T 9) (i + 1) = mnf (fwP (us h0 n) n lim (M'.2.2 2) x) (fun T => cn T 9) i := mnf_s0 (fun hP => by simp [fwP, q3] at hP)
              exact cut _ _ ⟨rfl, rfl, Or.inr ⟨hx, hz, lim, rfl, hlim, Or.inr ⟨rfl, i + 1, by omega, rfl, rfl⟩⟩⟩ (by omega) ⟨rfl, rfl, rfl, rfl, rfl, vi_eq (by rw [hs]), vi_eq (by rw [hs]), vi_eq (nI_1 _), trivial⟩
        · rw [In_nI (by omega) (by omega)] at hin
          dsimp only [k_X4_fewest_0, k_X4_fewest_1, k_X4_fewest_4, k_X4_fewest_7, k_X4_fewest_8, k_X4_fewest_11, k_X4_fewest_12, k_X4_fewest_14, k_X4_fewest_17, k_X4_fewest_18, k_X4_fewest_21, k_X4_fewest_24, k_X4_fewest_25, k_X4_fewest_26, k_X4_fewest_27, k_X4_fewest_30, k_X4_fewest_33, k_X4_fewest_36, k_X4_fewest_38, k_X4_fewest_40, k_X4_fewest_42, k_X4_fewest_43, k_X4_fewest_44, k_X4_fewest_45, k_X4_fewest_47, k_X4_fewest_48, k_X4_fewest_50, k_X4_fewest_52, k_X4_fewest_54, k_X4_fewest_57, k_X4_fewest_59, k_X4_fewest_61, k_X4_fewest_64, k_X4_fewest_67, k_X4_fewest_69, k_X4_fewest_72, k_X4_fewest_74, k_X4_fewest_77, k_X4_fewest_78, k_X4_fewest_81, k_X4_fewest_84, k_X4_fewest_86, k_X4_fewest_89, k_X4_fewest_90, k_X4_fewest_93, k_X4_fewest_95, k_X4_fewest_97, k_X4_fewest_99, k_X4_fewest_102, k_X4_fewest_104, k_X4_fewest_107, k_X4_fewest_110, k_X4_fewest_112, k_X4_fewest_114, k_X4_fewest_117, k_X4_fewest_118, k_X4_fewest_119, k_X4_fewest_122, k_X4_fewest_124, k_X4_fewest_127, k_X4_fewest_129, wp1, wp_s, cutIn, kont, Nat.reduceSub, Nat.reduceAdd, nth, o_const, o_lconst, o_ref, o_iload, o_lload, o_aload, o_istore, o_lstore, o_astore, o_iinc, o_bin, o_div, o_un, o_lbin, o_lsh, o_lcmp, o_i2l, o_l2i, o_if, o_icmp, o_goto, o_dup, o_dup2, o_pop, fav, o_getf, o_putI, o_putZ, o_putL, o_ald, o_ast, o_alen, popn, rst, o_callV, o_callT, o_callS, swx, o_sw, o_ret, o_iret, o_zret, o_cret, o_lret, o_aret, lg, lput, lput2, ls1, isL, entL, wsum, rdI1, rdI2, rdA1, rdA21, rdA22, rdL1, rdL22, rdL21, upN_at, rep, sh_0, F_0_0, F_0_1, F_0_2, F_0_3, F_0_4, F_0_5, F_0_6, F_0_7, F_0_8, sh_1, F_1_0, F_1_1, F_1_2, F_1_3, F_1_4, F_1_5, sh_3, F_3_0, F_3_1, F_3_2, F_3_3, F_3_4, F_3_5, sh_5, F_5_0, F_5_1, F_5_2, F_5_3, F_5_4, F_5_5, F_5_6, F_5_7, F_5_8, sh_12, F_12_0, F_12_1, F_12_2, F_12_3, F_12_4, F_12_5, sh_14, F_14_0, F_14_1, F_14_2, F_14_3, F_14_4, F_14_5, F_14_6, F_14_7, F_14_8, sh_21, F_21_0, F_21_1, F_21_2, F_21_3, F_21_4, F_21_5, F_21_6, F_21_7, F_21_8, sh_28, F_28_0, F_28_1, F_28_2, F_28_3, F_28_4, F_28_5, F_28_6, F_28_7, F_28_8, sh_35, F_35_0, sh_39, F_39_0, F_39_1, F_39_2, F_39_3, F_39_4, F_39_5, F_39_6, F_39_7, F_39_8, F_39_9, F_39_10, F_39_11, F_39_12, F_39_13, A_2, A_4, A_6, A_7, A_8, A_9, A_10, A_11, A_13, A_15, A_16, A_17, A_18, A_19, A_20, A_22, A_23, A_24, A_25, A_26, A_27, A_29, A_30, A_31, A_32, A_33, A_34, A_36, A_37, A_38, A_40, A_41, A_42, A_43, A_44, A_45, A_46, A_47]
          have hs : mnf (fwP (us h0 n) n lim (M'.2.2 2) x) (fun T => cn T 9) (i + 1) = mnf (fwP (us h0 n) n lim (M'.2.2 2) x) (fun T => cn T 9) i := mnf_s0 (fun hP => by simp [fwP, hin] at hP)
          exact ⟨fun _ => cut _ _ ⟨rfl, rfl, Or.inr ⟨hx, hz, lim, rfl, hlim, Or.inr ⟨rfl, i + 1, by omega, rfl, rfl⟩⟩⟩ (by omega) ⟨rfl, rfl, rfl, rfl, rfl, vi_eq (by rw [hs]), vi_eq (by rw [hs]), vi_eq (nI_1 _), trivial⟩, fun q => absurd rfl q⟩
  · dsimp only [k_X4_fewest_0, k_X4_fewest_1, k_X4_fewest_4, k_X4_fewest_7, k_X4_fewest_8, k_X4_fewest_11, k_X4_fewest_12, k_X4_fewest_14, k_X4_fewest_17, k_X4_fewest_18, k_X4_fewest_21, k_X4_fewest_24, k_X4_fewest_25, k_X4_fewest_26, k_X4_fewest_27, k_X4_fewest_30, k_X4_fewest_33, k_X4_fewest_36, k_X4_fewest_38, k_X4_fewest_40, k_X4_fewest_42, k_X4_fewest_43, k_X4_fewest_44, k_X4_fewest_45, k_X4_fewest_47, k_X4_fewest_48, k_X4_fewest_50, k_X4_fewest_52, k_X4_fewest_54, k_X4_fewest_57, k_X4_fewest_59, k_X4_fewest_61, k_X4_fewest_64, k_X4_fewest_67, k_X4_fewest_69, k_X4_fewest_72, k_X4_fewest_74, k_X4_fewest_77, k_X4_fewest_78, k_X4_fewest_81, k_X4_fewest_84, k_X4_fewest_86, k_X4_fewest_89, k_X4_fewest_90, k_X4_fewest_93, k_X4_fewest_95, k_X4_fewest_97, k_X4_fewest_99, k_X4_fewest_102, k_X4_fewest_104, k_X4_fewest_107, k_X4_fewest_110, k_X4_fewest_112, k_X4_fewest_114, k_X4_fewest_117, k_X4_fewest_118, k_X4_fewest_119, k_X4_fewest_122, k_X4_fewest_124, k_X4_fewest_127, k_X4_fewest_129, wp1, wp_s, cutIn, kont, Nat.reduceSub, Nat.reduceAdd, nth, o_const, o_lconst, o_ref, o_iload, o_lload, o_aload, o_istore, o_lstore, o_astore, o_iinc, o_bin, o_div, o_un, o_lbin, o_lsh, o_lcmp, o_i2l, o_l2i, o_if, o_icmp, o_goto, o_dup, o_dup2, o_pop, fav, o_getf, o_putI, o_putZ, o_putL, o_ald, o_ast, o_alen, popn, rst, o_callV, o_callT, o_callS, swx, o_sw, o_ret, o_iret, o_zret, o_cret, o_lret, o_aret, lg, lput, lput2, ls1, isL, entL, wsum, rdI1, rdI2, rdA1, rdA21, rdA22, rdL1, rdL22, rdL21, upN_at, rep, sh_0, F_0_0, F_0_1, F_0_2, F_0_3, F_0_4, F_0_5, F_0_6, F_0_7, F_0_8, sh_1, F_1_0, F_1_1, F_1_2, F_1_3, F_1_4, F_1_5, sh_3, F_3_0, F_3_1, F_3_2, F_3_3, F_3_4, F_3_5, sh_5, F_5_0, F_5_1, F_5_2, F_5_3, F_5_4, F_5_5, F_5_6, F_5_7, F_5_8, sh_12, F_12_0, F_12_1, F_12_2, F_12_3, F_12_4, F_12_5, sh_14, F_14_0, F_14_1, F_14_2, F_14_3, F_14_4, F_14_5, F_14_6, F_14_7, F_14_8, sh_21, F_21_0, F_21_1, F_21_2, F_21_3, F_21_4, F_21_5, F_21_6, F_21_7, F_21_8, sh_28, F_28_0, F_28_1, F_28_2, F_28_3, F_28_4, F_28_5, F_28_6, F_28_7, F_28_8, sh_35, F_35_0, sh_39, F_39_0, F_39_1, F_39_2, F_39_3, F_39_4, F_39_5, F_39_6, F_39_7, F_39_8, F_39_9, F_39_10, F_39_11, F_39_12, F_39_13, A_2, A_4, A_6, A_7, A_8, A_9, A_10, A_11, A_13, A_15, A_16, A_17, A_18, A_19, A_20, A_22, A_23, A_24, A_25, A_26, A_27, A_29, A_30, A_31, A_32, A_33, A_34, A_36, A_37, A_38, A_40, A_41, A_42, A_43, A_44, A_45, A_46, A_47]
    have bad : ¬ ((0 ≤ x ∧ x < 512) ∧ (0 ≤ y ∧ y < 9) ∧ (z = 0 ∨ z = 1)) → ATC (fun μ pc lv st M' => st = [] ∧ M' = M ∧ ((pc = 24 ∧ ¬ ((0 ≤ x ∧ x < 512) ∧ (0 ≤ y ∧ y < 9) ∧ (z = 0 ∨ z = 1)) ∧ 5 = μ ∧ lv = [some (VR 0), some (VI x), some (VI y), some (VI z), none, none, none, none]) ∨ ((0 ≤ x ∧ x < 512) ∧ (z = 0 ∨ z = 1) ∧ ∃ lim, y = nI lim ∧ lim < 9 ∧ ((pc = 26 ∧ 2000 = μ ∧ lv = [some (VR 0), some (VI x), some (VI y), some (VI z), none, none, none, none]) ∨ (pc = 50 ∧ ∃ i, i ≤ us h0 n + 1 ∧ 1000 - i = μ ∧ lv = [some (VR 0), some (VI x), some (VI y), some (VI z), some (VI (nI (us h0 n))), some (VI (bsI (mnf (fwP (us h0 n) n lim (M.2.2 2) x) (fun T => cn T 9) i))), some (VI (lsI (mnf (fwP (us h0 n) n lim (M.2.2 2) x) (fun T => cn T 9) i) (fun T => cn T 9) lim)), some (VI (nI i))]))))) 3000 24 [some (VR 0), some (VI x), some (VI y), some (VI z), none, none, none, none] [] M :=
      fun hb => cut _ _ ⟨rfl, rfl, Or.inl ⟨rfl, hb, rfl, rfl⟩⟩ (by omega) ⟨rfl, rfl, rfl, rfl, trivial⟩
    refine ⟨x, rfl, fun hx => ?_, fun hx => ?_⟩
    · dsimp only [k_X4_fewest_0, k_X4_fewest_1, k_X4_fewest_4, k_X4_fewest_7, k_X4_fewest_8, k_X4_fewest_11, k_X4_fewest_12, k_X4_fewest_14, k_X4_fewest_17, k_X4_fewest_18, k_X4_fewest_21, k_X4_fewest_24, k_X4_fewest_25, k_X4_fewest_26, k_X4_fewest_27, k_X4_fewest_30, k_X4_fewest_33, k_X4_fewest_36, k_X4_fewest_38, k_X4_fewest_40, k_X4_fewest_42, k_X4_fewest_43, k_X4_fewest_44, k_X4_fewest_45, k_X4_fewest_47, k_X4_fewest_48, k_X4_fewest_50, k_X4_fewest_52, k_X4_fewest_54, k_X4_fewest_57, k_X4_fewest_59, k_X4_fewest_61, k_X4_fewest_64, k_X4_fewest_67, k_X4_fewest_69, k_X4_fewest_72, k_X4_fewest_74, k_X4_fewest_77, k_X4_fewest_78, k_X4_fewest_81, k_X4_fewest_84, k_X4_fewest_86, k_X4_fewest_89, k_X4_fewest_90, k_X4_fewest_93, k_X4_fewest_95, k_X4_fewest_97, k_X4_fewest_99, k_X4_fewest_102, k_X4_fewest_104, k_X4_fewest_107, k_X4_fewest_110, k_X4_fewest_112, k_X4_fewest_114, k_X4_fewest_117, k_X4_fewest_118, k_X4_fewest_119, k_X4_fewest_122, k_X4_fewest_124, k_X4_fewest_127, k_X4_fewest_129, wp1, wp_s, cutIn, kont, Nat.reduceSub, Nat.reduceAdd, nth, o_const, o_lconst, o_ref, o_iload, o_lload, o_aload, o_istore, o_lstore, o_astore, o_iinc, o_bin, o_div, o_un, o_lbin, o_lsh, o_lcmp, o_i2l, o_l2i, o_if, o_icmp, o_goto, o_dup, o_dup2, o_pop, fav, o_getf, o_putI, o_putZ, o_putL, o_ald, o_ast, o_alen, popn, rst, o_callV, o_callT, o_callS, swx, o_sw, o_ret, o_iret, o_zret, o_cret, o_lret, o_aret, lg, lput, lput2, ls1, isL, entL, wsum, rdI1, rdI2, rdA1, rdA21, rdA22, rdL1, rdL22, rdL21, upN_at, rep, sh_0, F_0_0, F_0_1, F_0_2, F_0_3, F_0_4, F_0_5, F_0_6, F_0_7, F_0_8, sh_1, F_1_0, F_1_1, F_1_2, F_1_3, F_1_4, F_1_5, sh_3, F_3_0, F_3_1, F_3_2, F_3_3, F_3_4, F_3_5, sh_5, F_5_0, F_5_1, F_5_2, F_5_3, F_5_4, F_5_5, F_5_6, F_5_7, F_5_8, sh_12, F_12_0, F_12_1, F_12_2, F_12_3, F_12_4, F_12_5, sh_14, F_14_0, F_14_1, F_14_2, F_14_3, F_14_4, F_14_5, F_14_6, F_14_7, F_14_8, sh_21, F_21_0, F_21_1, F_21_2, F_21_3, F_21_4, F_21_5, F_21_6, F_21_7, F_21_8, sh_28, F_28_0, F_28_1, F_28_2, F_28_3, F_28_4, F_28_5, F_28_6, F_28_7, F_28_8, sh_35, F_35_0, sh_39, F_39_0, F_39_1, F_39_2, F_39_3, F_39_4, F_39_5, F_39_6, F_39_7, F_39_8, F_39_9, F_39_10, F_39_11, F_39_12, F_39_13, A_2, A_4, A_6, A_7, A_8, A_9, A_10, A_11, A_13, A_15, A_16, A_17, A_18, A_19, A_20, A_22, A_23, A_24, A_25, A_26, A_27, A_29, A_30, A_31, A_32, A_33, A_34, A_36, A_37, A_38, A_40, A_41, A_42, A_43, A_44, A_45, A_46, A_47]
      refine ⟨fun q => absurd q (by decide), fun _ => ⟨fun q => bad fun q2 => absurd q (Int32.not_lt.mpr q2.2.1.1), fun q => ⟨fun q2 => bad fun q3 => ?_, fun q2 => ⟨z, rfl, fun hz => ?_, fun hz => ?_⟩⟩⟩⟩
      · have g1 := q3.2.1.2
        rw [Int32.lt_iff_toInt_lt] at q2 g1
        simp at q2 g1
        omega
      · have hy : 0 ≤ y ∧ y < 9 := by
          refine ⟨Int32.not_lt.mp q, ?_⟩
          rw [Int32.lt_iff_toInt_lt] at q2 ⊢
          simp at q2 ⊢
          omega
        obtain ⟨lim, rfl, hlim⟩ := rg (n := 9) (by omega) hy
        dsimp only [k_X4_fewest_0, k_X4_fewest_1, k_X4_fewest_4, k_X4_fewest_7, k_X4_fewest_8, k_X4_fewest_11, k_X4_fewest_12, k_X4_fewest_14, k_X4_fewest_17, k_X4_fewest_18, k_X4_fewest_21, k_X4_fewest_24, k_X4_fewest_25, k_X4_fewest_26, k_X4_fewest_27, k_X4_fewest_30, k_X4_fewest_33, k_X4_fewest_36, k_X4_fewest_38, k_X4_fewest_40, k_X4_fewest_42, k_X4_fewest_43, k_X4_fewest_44, k_X4_fewest_45, k_X4_fewest_47, k_X4_fewest_48, k_X4_fewest_50, k_X4_fewest_52, k_X4_fewest_54, k_X4_fewest_57, k_X4_fewest_59, k_X4_fewest_61, k_X4_fewest_64, k_X4_fewest_67, k_X4_fewest_69, k_X4_fewest_72, k_X4_fewest_74, k_X4_fewest_77, k_X4_fewest_78, k_X4_fewest_81, k_X4_fewest_84, k_X4_fewest_86, k_X4_fewest_89, k_X4_fewest_90, k_X4_fewest_93, k_X4_fewest_95, k_X4_fewest_97, k_X4_fewest_99, k_X4_fewest_102, k_X4_fewest_104, k_X4_fewest_107, k_X4_fewest_110, k_X4_fewest_112, k_X4_fewest_114, k_X4_fewest_117, k_X4_fewest_118, k_X4_fewest_119, k_X4_fewest_122, k_X4_fewest_124, k_X4_fewest_127, k_X4_fewest_129, wp1, wp_s, cutIn, kont, Nat.reduceSub, Nat.reduceAdd, nth, o_const, o_lconst, o_ref, o_iload, o_lload, o_aload, o_istore, o_lstore, o_astore, o_iinc, o_bin, o_div, o_un, o_lbin, o_lsh, o_lcmp, o_i2l, o_l2i, o_if, o_icmp, o_goto, o_dup, o_dup2, o_pop, fav, o_getf, o_putI, o_putZ, o_putL, o_ald, o_ast, o_alen, popn, rst, o_callV, o_callT, o_callS, swx, o_sw, o_ret, o_iret, o_zret, o_cret, o_lret, o_aret, lg, lput, lput2, ls1, isL, entL, wsum, rdI1, rdI2, rdA1, rdA21, rdA22, rdL1, rdL22, rdL21, upN_at, rep, sh_0, F_0_0, F_0_1, F_0_2, F_0_3, F_0_4, F_0_5, F_0_6, F_0_7, F_0_8, sh_1, F_1_0, F_1_1, F_1_2, F_1_3, F_1_4, F_1_5, sh_3, F_3_0, F_3_1, F_3_2, F_3_3, F_3_4, F_3_5, sh_5, F_5_0, F_5_1, F_5_2, F_5_3, F_5_4, F_5_5, F_5_6, F_5_7, F_5_8, sh_12, F_12_0, F_12_1, F_12_2, F_12_3, F_12_4, F_12_5, sh_14, F_14_0, F_14_1, F_14_2, F_14_3, F_14_4, F_14_5, F_14_6, F_14_7, F_14_8, sh_21, F_21_0, F_21_1, F_21_2, F_21_3, F_21_4, F_21_5, F_21_6, F_21_7, F_21_8, sh_28, F_28_0, F_28_1, F_28_2, F_28_3, F_28_4, F_28_5, F_28_6, F_28_7, F_28_8, sh_35, F_35_0, sh_39, F_39_0, F_39_1, F_39_2, F_39_3, F_39_4, F_39_5, F_39_6, F_39_7, F_39_8, F_39_9, F_39_10, F_39_11, F_39_12, F_39_13, A_2, A_4, A_6, A_7, A_8, A_9, A_10, A_11, A_13, A_15, A_16, A_17, A_18, A_19, A_20, A_22, A_23, A_24, A_25, A_26, A_27, A_29, A_30, A_31, A_32, A_33, A_34, A_36, A_37, A_38, A_40, A_41, A_42, A_43, A_44, A_45, A_46, A_47]
        exact ⟨fun q => absurd q (by decide), fun _ => cut _ _ ⟨rfl, rfl, Or.inr ⟨hx, hz, lim, rfl, hlim, Or.inl ⟨rfl, rfl, rfl⟩⟩⟩ (by omega) ⟨rfl, rfl, rfl, rfl, trivial⟩⟩
      · dsimp only [k_X4_fewest_0, k_X4_fewest_1, k_X4_fewest_4, k_X4_fewest_7, k_X4_fewest_8, k_X4_fewest_11, k_X4_fewest_12, k_X4_fewest_14, k_X4_fewest_17, k_X4_fewest_18, k_X4_fewest_21, k_X4_fewest_24, k_X4_fewest_25, k_X4_fewest_26, k_X4_fewest_27, k_X4_fewest_30, k_X4_fewest_33, k_X4_fewest_36, k_X4_fewest_38, k_X4_fewest_40, k_X4_fewest_42, k_X4_fewest_43, k_X4_fewest_44, k_X4_fewest_45, k_X4_fewest_47, k_X4_fewest_48, k_X4_fewest_50, k_X4_fewest_52, k_X4_fewest_54, k_X4_fewest_57, k_X4_fewest_59, k_X4_fewest_61, k_X4_fewest_64, k_X4_fewest_67, k_X4_fewest_69, k_X4_fewest_72, k_X4_fewest_74, k_X4_fewest_77, k_X4_fewest_78, k_X4_fewest_81, k_X4_fewest_84, k_X4_fewest_86, k_X4_fewest_89, k_X4_fewest_90, k_X4_fewest_93, k_X4_fewest_95, k_X4_fewest_97, k_X4_fewest_99, k_X4_fewest_102, k_X4_fewest_104, k_X4_fewest_107, k_X4_fewest_110, k_X4_fewest_112, k_X4_fewest_114, k_X4_fewest_117, k_X4_fewest_118, k_X4_fewest_119, k_X4_fewest_122, k_X4_fewest_124, k_X4_fewest_127, k_X4_fewest_129, wp1, wp_s, cutIn, kont, Nat.reduceSub, Nat.reduceAdd, nth, o_const, o_lconst, o_ref, o_iload, o_lload, o_aload, o_istore, o_lstore, o_astore, o_iinc, o_bin, o_div, o_un, o_lbin, o_lsh, o_lcmp, o_i2l, o_l2i, o_if, o_icmp, o_goto, o_dup, o_dup2, o_pop, fav, o_getf, o_putI, o_putZ, o_putL, o_ald, o_ast, o_alen, popn, rst, o_callV, o_callT, o_callS, swx, o_sw, o_ret, o_iret, o_zret, o_cret, o_lret, o_aret, lg, lput, lput2, ls1, isL, entL, wsum, rdI1, rdI2, rdA1, rdA21, rdA22, rdL1, rdL22, rdL21, upN_at, rep, sh_0, F_0_0, F_0_1, F_0_2, F_0_3, F_0_4, F_0_5, F_0_6, F_0_7, F_0_8, sh_1, F_1_0, F_1_1, F_1_2, F_1_3, F_1_4, F_1_5, sh_3, F_3_0, F_3_1, F_3_2, F_3_3, F_3_4, F_3_5, sh_5, F_5_0, F_5_1, F_5_2, F_5_3, F_5_4, F_5_5, F_5_6, F_5_7, F_5_8, sh_12, F_12_0, F_12_1, F_12_2, F_12_3, F_12_4, F_12_5, sh_14, F_14_0, F_14_1, F_14_2, F_14_3, F_14_4, F_14_5, F_14_6, F_14_7, F_14_8, sh_21, F_21_0, F_21_1, F_21_2, F_21_3, F_21_4, F_21_5, F_21_6, F_21_7, F_21_8, sh_28, F_28_0, F_28_1, F_28_2, F_28_3, F_28_4, F_28_5, F_28_6, F_28_7, F_28_8, sh_35, F_35_0, sh_39, F_39_0, F_39_1, F_39_2, F_39_3, F_39_4, F_39_5, F_39_6, F_39_7, F_39_8, F_39_9, F_39_10, F_39_11, F_39_12, F_39_13, A_2, A_4, A_6, A_7, A_8, A_9, A_10, A_11, A_13, A_15, A_16, A_17, A_18, A_19, A_20, A_22, A_23, A_24, A_25, A_26, A_27, A_29, A_30, A_31, A_32, A_33, A_34, A_36, A_37, A_38, A_40, A_41, A_42, A_43, A_44, A_45, A_46, A_47]
        exact ⟨fun _ => bad fun q => hz q.2.2, fun q => absurd rfl q⟩
    · dsimp only [k_X4_fewest_0, k_X4_fewest_1, k_X4_fewest_4, k_X4_fewest_7, k_X4_fewest_8, k_X4_fewest_11, k_X4_fewest_12, k_X4_fewest_14, k_X4_fewest_17, k_X4_fewest_18, k_X4_fewest_21, k_X4_fewest_24, k_X4_fewest_25, k_X4_fewest_26, k_X4_fewest_27, k_X4_fewest_30, k_X4_fewest_33, k_X4_fewest_36, k_X4_fewest_38, k_X4_fewest_40, k_X4_fewest_42, k_X4_fewest_43, k_X4_fewest_44, k_X4_fewest_45, k_X4_fewest_47, k_X4_fewest_48, k_X4_fewest_50, k_X4_fewest_52, k_X4_fewest_54, k_X4_fewest_57, k_X4_fewest_59, k_X4_fewest_61, k_X4_fewest_64, k_X4_fewest_67, k_X4_fewest_69, k_X4_fewest_72, k_X4_fewest_74, k_X4_fewest_77, k_X4_fewest_78, k_X4_fewest_81, k_X4_fewest_84, k_X4_fewest_86, k_X4_fewest_89, k_X4_fewest_90, k_X4_fewest_93, k_X4_fewest_95, k_X4_fewest_97, k_X4_fewest_99, k_X4_fewest_102, k_X4_fewest_104, k_X4_fewest_107, k_X4_fewest_110, k_X4_fewest_112, k_X4_fewest_114, k_X4_fewest_117, k_X4_fewest_118, k_X4_fewest_119, k_X4_fewest_122, k_X4_fewest_124, k_X4_fewest_127, k_X4_fewest_129, wp1, wp_s, cutIn, kont, Nat.reduceSub, Nat.reduceAdd, nth, o_const, o_lconst, o_ref, o_iload, o_lload, o_aload, o_istore, o_lstore, o_astore, o_iinc, o_bin, o_div, o_un, o_lbin, o_lsh, o_lcmp, o_i2l, o_l2i, o_if, o_icmp, o_goto, o_dup, o_dup2, o_pop, fav, o_getf, o_putI, o_putZ, o_putL, o_ald, o_ast, o_alen, popn, rst, o_callV, o_callT, o_callS, swx, o_sw, o_ret, o_iret, o_zret, o_cret, o_lret, o_aret, lg, lput, lput2, ls1, isL, entL, wsum, rdI1, rdI2, rdA1, rdA21, rdA22, rdL1, rdL22, rdL21, upN_at, rep, sh_0, F_0_0, F_0_1, F_0_2, F_0_3, F_0_4, F_0_5, F_0_6, F_0_7, F_0_8, sh_1, F_1_0, F_1_1, F_1_2, F_1_3, F_1_4, F_1_5, sh_3, F_3_0, F_3_1, F_3_2, F_3_3, F_3_4, F_3_5, sh_5, F_5_0, F_5_1, F_5_2, F_5_3, F_5_4, F_5_5, F_5_6, F_5_7, F_5_8, sh_12, F_12_0, F_12_1, F_12_2, F_12_3, F_12_4, F_12_5, sh_14, F_14_0, F_14_1, F_14_2, F_14_3, F_14_4, F_14_5, F_14_6, F_14_7, F_14_8, sh_21, F_21_0, F_21_1, F_21_2, F_21_3, F_21_4, F_21_5, F_21_6, F_21_7, F_21_8, sh_28, F_28_0, F_28_1, F_28_2, F_28_3, F_28_4, F_28_5, F_28_6, F_28_7, F_28_8, sh_35, F_35_0, sh_39, F_39_0, F_39_1, F_39_2, F_39_3, F_39_4, F_39_5, F_39_6, F_39_7, F_39_8, F_39_9, F_39_10, F_39_11, F_39_12, F_39_13, A_2, A_4, A_6, A_7, A_8, A_9, A_10, A_11, A_13, A_15, A_16, A_17, A_18, A_19, A_20, A_22, A_23, A_24, A_25, A_26, A_27, A_29, A_30, A_31, A_32, A_33, A_34, A_36, A_37, A_38, A_40, A_41, A_42, A_43, A_44, A_45, A_46, A_47]
      exact ⟨fun _ => bad fun q => hx q.1, fun q => absurd rfl q⟩
theorem c_X4_fewest : Ctr yX4_fewest cX4_fewest 8 (some .int) ({ frames := 2, cells := 0, slots := 0, locals := 43 } : Room) S_X4_fewest := ctr_of (T := T_X4_fewest) (by decide +kernel) (fun post C hr => t_X4_fewest post C hr) v_X4_fewest
