/-! The class reads a text: token by token. d: 0 how many locks, 1 people, 2 items, 3 keys, 4 .. locks' rows, 10 .. keys' rows, 18 .. who has them. -/
/-- a token k (of value v) where w is wanted (q: whom holds named) -/
def stp (w : Nat) (q : Int32) (d : Nat → Int32) (k v : Int32) : Option (Nat × (Int32 × (Nat → Int32))) :=
  if w = 0 then
    if k = 5 then (if d 3 < 8 then some (2, q, d) else none)
    else if k = 6 then (if d 0 < 6 then some (3, q, d) else none)
    else if k = 7 then (if d 1 < 4 then some (1, q, upd d 1 (d 1 + 1)) else none)
    else if k = 8 then some (4, q, d) else none
  else if w = 2 then (if k = 3 ∧ d 3 < 8 then some (1, q, upd (upd d (10 + (d 3).toNatClampNeg) v) 3 (d 3 + 1)) else none)
  else if w = 3 then (if k = 3 ∧ d 0 < 6 then some (1, q, upd (upd d (4 + (d 0).toNatClampNeg) v) 0 (d 0 + 1)) else none)
  else if w = 4 then (if k = 2 ∧ v < d 1 then some (5, v, d) else none)
  else if w = 5 then (if k = 2 ∧ v < d 3 ∧ d (18 + v.toNatClampNeg) = -4 then some (1, q, upd d (18 + v.toNatClampNeg) q) else none)
  else (if k = 1 then some (0, q, d) else none)
def d0 : Nat → Int32 := fun k => if 18 ≤ k ∧ k < 26 then -4 else 0
/-- a text read from p on: an error's place, or what it tells -/
def prs (t : Nat → Nat) (L : Nat) : Nat → Nat → Nat → Int32 → (Nat → Int32) → Nat ⊕ (Nat → Int32)
  | 0, _, _, _, _ => .inl 0
  | f + 1, p, w, q, d =>
    if tkK t L p = 0 then (if w = 0 then .inr d else .inl (tkS t L p))
    else match stp w q d (tkK t L p) (tkV t L p 0) with
      | none => .inl (tkS t L p)
      | some x => prs t L f (tkP t L p) x.1 x.2.1 (if tkK t L p = 1 then upd x.2.2 2 (x.2.2 2 + 1) else x.2.2)
/-- the draft tells d -/
def DR (M : AM) (d : Nat → Int32) : Prop := ∃ c p n, c ≤ 6 ∧ p ≤ 4 ∧ n ≤ 8 ∧ d 0 = nI c ∧ d 1 = nI p ∧ d 3 = nI n ∧ M.1 12 = nI c ∧ M.1 13 = nI p ∧ M.1 16 = nI n ∧ (∀ l, l < c → M.2.2 8 l = d (4 + l)) ∧ (∀ k, k < n → M.2.2 9 k = d (10 + k) ∧ M.2.2 10 k = d (18 + k)) ∧ ∀ k, n ≤ k → k < 8 → d (18 + k) = -4
/-- all but the draft (of it, the ring's undo rows) stays -/
def frD (M M' : AM) : Prop := (∀ i, ¬ (12 ≤ i ∧ i ≤ 16) → M'.1 i = M.1 i) ∧ M'.2.1 = M.2.1 ∧ ∀ a, ¬ (8 ≤ a ∧ a ≤ 10) → M'.2.2 a = M.2.2 a
theorem frD_rf (M : AM) : frD M M := ⟨fun _ _ => rfl, rfl, fun _ _ => rfl⟩
theorem frD_I {M M' : AM} (h : frD M M') {i : Nat} (hi : 12 ≤ i ∧ i ≤ 16) (x : Int32) : frD M (sI i x M') :=
  ⟨fun j hj => by
    rw [rdI1, upN_n _ _ (fun e => hj (by rw [e]; exact hi))]
    exact h.1 j hj, h.2.1, h.2.2⟩
theorem frD_A {M M' : AM} (h : frD M M') {a : Nat} (ha : 8 ≤ a ∧ a ≤ 10) (f : Nat → Int32) : frD M (sA a f M') :=
  ⟨h.1, h.2.1, fun b hb => by
    rw [rdA22, upN_n _ _ (fun e => hb (by rw [e]; exact ha))]
    exact h.2.2 b hb⟩
def S_X0_hearToken : SP := fun as M post => ∃ k v d w q, as = [VR 12, VI k, VI v] ∧ DR M d ∧ M.1 14 = nI w ∧ w ≤ 5 ∧ (w = 5 → M.1 15 = q) ∧ (k = 2 → ∃ j : Nat, j < 1000 ∧ v = nI j) ∧
  (stp w q d k v = none → ∀ M', frD M M' → post (some (VI 0)) M') ∧ (∀ x, stp w q d k v = some x → ∀ M', frD M M' → DR M' x.2.2 → M'.1 14 = nI x.1 → (x.1 = 5 → M'.1 15 = x.2.1) → x.1 ≤ 5 → post (some (VI 1)) M')
theorem upd_s (f : Nat → Int32) (k : Nat) (x : Int32) : upd f k x k = x := by simp [upd]
theorem upd_n (f : Nat → Int32) {k j : Nat} (x : Int32) (h : j ≠ k) : upd f k x j = f j := by simp [upd, h]
/-- DR looks at the draft alone -/
theorem DR_of {M M' : AM} {d : Nat → Int32} (h : DR M d) (h1 : M'.1 12 = M.1 12) (h2 : M'.1 13 = M.1 13) (h3 : M'.1 16 = M.1 16) (h4 : M'.2.2 8 = M.2.2 8) (h5 : M'.2.2 9 = M.2.2 9) (h6 : M'.2.2 10 = M.2.2 10) : DR M' d := by
  unfold DR at h ⊢
  rw [h1, h2, h3, h4, h5, h6]
  exact h
theorem cw_RX0_64 : ∀ w ∈ ([.methodLink RX0 64 yX0_hearItem, .instanceMethod yX0_hearItem, .selects yX0_hearItem.cls yX0_hearItem yX0_hearItem, .initialized yX0_hearItem.cls, .code yX0_hearItem cX0_hearItem 2 (some .boolean)] : List Cond), w ∈ tb := tb_all [328, 330, 6, 56, 331] (by decide +kernel) (by decide +kernel)
theorem cw_RX0_68 : ∀ w ∈ ([.methodLink RX0 68 yX0_hearKeyRow, .instanceMethod yX0_hearKeyRow, .selects yX0_hearKeyRow.cls yX0_hearKeyRow yX0_hearKeyRow, .initialized yX0_hearKeyRow.cls, .code yX0_hearKeyRow cX0_hearKeyRow 2 (some .boolean)] : List Cond), w ∈ tb := tb_all [336, 338, 8, 56, 339] (by decide +kernel) (by decide +kernel)
theorem cw_RX0_71 : ∀ w ∈ ([.methodLink RX0 71 yX0_hearLockRow, .instanceMethod yX0_hearLockRow, .selects yX0_hearLockRow.cls yX0_hearLockRow yX0_hearLockRow, .initialized yX0_hearLockRow.cls, .code yX0_hearLockRow cX0_hearLockRow 2 (some .boolean)] : List Cond), w ∈ tb := tb_all [344, 346, 9, 56, 347] (by decide +kernel) (by decide +kernel)
theorem cw_RX0_74 : ∀ w ∈ ([.methodLink RX0 74 yX0_hearHolder, .instanceMethod yX0_hearHolder, .selects yX0_hearHolder.cls yX0_hearHolder yX0_hearHolder, .initialized yX0_hearHolder.cls, .code yX0_hearHolder cX0_hearHolder 2 (some .boolean)] : List Cond), w ∈ tb := tb_all [348, 350, 10, 56, 351] (by decide +kernel) (by decide +kernel)
theorem cw_RX0_77 : ∀ w ∈ ([.methodLink RX0 77 yX0_hearHeld, .instanceMethod yX0_hearHeld, .selects yX0_hearHeld.cls yX0_hearHeld yX0_hearHeld, .initialized yX0_hearHeld.cls, .code yX0_hearHeld cX0_hearHeld 2 (some .boolean)] : List Cond), w ∈ tb := tb_all [356, 358, 11, 56, 359] (by decide +kernel) (by decide +kernel)
theorem dX0_hearToken_0 : decode cX0_hearToken 0 = .ok (.aload_n 0, 1) := by decide +kernel
theorem dX0_hearToken_1 : decode cX0_hearToken 1 = .ok (.getfield 40, 3) := by decide +kernel
theorem dX0_hearToken_4 : decode cX0_hearToken 4 = .ok (.tableswitch 122 0 5 #[40, 122, 46, 65, 84, 103], 40) := by decide +kernel
theorem dX0_hearToken_44 : decode cX0_hearToken 44 = .ok (.aload_n 0, 1) := by decide +kernel
theorem dX0_hearToken_45 : decode cX0_hearToken 45 = .ok (.iload_n 1, 1) := by decide +kernel
theorem dX0_hearToken_46 : decode cX0_hearToken 46 = .ok (.invokevirtual 64, 3) := by decide +kernel
theorem dX0_hearToken_49 : decode cX0_hearToken 49 = .ok (.ireturn, 1) := by decide +kernel
theorem dX0_hearToken_50 : decode cX0_hearToken 50 = .ok (.iload_n 1, 1) := by decide +kernel
theorem dX0_hearToken_51 : decode cX0_hearToken 51 = .ok (.iconst 3, 1) := by decide +kernel
theorem dX0_hearToken_52 : decode cX0_hearToken 52 = .ok (.if_icmp .ne 15, 3) := by decide +kernel
theorem dX0_hearToken_55 : decode cX0_hearToken 55 = .ok (.aload_n 0, 1) := by decide +kernel
theorem dX0_hearToken_56 : decode cX0_hearToken 56 = .ok (.iload_n 2, 1) := by decide +kernel
theorem dX0_hearToken_57 : decode cX0_hearToken 57 = .ok (.invokevirtual 68, 3) := by decide +kernel
theorem dX0_hearToken_60 : decode cX0_hearToken 60 = .ok (.ifCond .eq 7, 3) := by decide +kernel
theorem dX0_hearToken_63 : decode cX0_hearToken 63 = .ok (.iconst 1, 1) := by decide +kernel
theorem dX0_hearToken_64 : decode cX0_hearToken 64 = .ok (.goto 4, 3) := by decide +kernel
theorem dX0_hearToken_67 : decode cX0_hearToken 67 = .ok (.iconst 0, 1) := by decide +kernel
theorem dX0_hearToken_68 : decode cX0_hearToken 68 = .ok (.ireturn, 1) := by decide +kernel
theorem dX0_hearToken_69 : decode cX0_hearToken 69 = .ok (.iload_n 1, 1) := by decide +kernel
theorem dX0_hearToken_70 : decode cX0_hearToken 70 = .ok (.iconst 3, 1) := by decide +kernel
theorem dX0_hearToken_71 : decode cX0_hearToken 71 = .ok (.if_icmp .ne 15, 3) := by decide +kernel
theorem dX0_hearToken_74 : decode cX0_hearToken 74 = .ok (.aload_n 0, 1) := by decide +kernel
theorem dX0_hearToken_75 : decode cX0_hearToken 75 = .ok (.iload_n 2, 1) := by decide +kernel
theorem dX0_hearToken_76 : decode cX0_hearToken 76 = .ok (.invokevirtual 71, 3) := by decide +kernel
theorem dX0_hearToken_79 : decode cX0_hearToken 79 = .ok (.ifCond .eq 7, 3) := by decide +kernel
theorem dX0_hearToken_82 : decode cX0_hearToken 82 = .ok (.iconst 1, 1) := by decide +kernel
theorem dX0_hearToken_83 : decode cX0_hearToken 83 = .ok (.goto 4, 3) := by decide +kernel
theorem dX0_hearToken_86 : decode cX0_hearToken 86 = .ok (.iconst 0, 1) := by decide +kernel
theorem dX0_hearToken_87 : decode cX0_hearToken 87 = .ok (.ireturn, 1) := by decide +kernel
theorem dX0_hearToken_88 : decode cX0_hearToken 88 = .ok (.iload_n 1, 1) := by decide +kernel
theorem dX0_hearToken_89 : decode cX0_hearToken 89 = .ok (.iconst 2, 1) := by decide +kernel
theorem dX0_hearToken_90 : decode cX0_hearToken 90 = .ok (.if_icmp .ne 15, 3) := by decide +kernel
theorem dX0_hearToken_93 : decode cX0_hearToken 93 = .ok (.aload_n 0, 1) := by decide +kernel
theorem dX0_hearToken_94 : decode cX0_hearToken 94 = .ok (.iload_n 2, 1) := by decide +kernel
theorem dX0_hearToken_95 : decode cX0_hearToken 95 = .ok (.invokevirtual 74, 3) := by decide +kernel
theorem dX0_hearToken_98 : decode cX0_hearToken 98 = .ok (.ifCond .eq 7, 3) := by decide +kernel
theorem dX0_hearToken_101 : decode cX0_hearToken 101 = .ok (.iconst 1, 1) := by decide +kernel
theorem dX0_hearToken_102 : decode cX0_hearToken 102 = .ok (.goto 4, 3) := by decide +kernel
theorem dX0_hearToken_105 : decode cX0_hearToken 105 = .ok (.iconst 0, 1) := by decide +kernel
theorem dX0_hearToken_106 : decode cX0_hearToken 106 = .ok (.ireturn, 1) := by decide +kernel
theorem dX0_hearToken_107 : decode cX0_hearToken 107 = .ok (.iload_n 1, 1) := by decide +kernel
theorem dX0_hearToken_108 : decode cX0_hearToken 108 = .ok (.iconst 2, 1) := by decide +kernel
theorem dX0_hearToken_109 : decode cX0_hearToken 109 = .ok (.if_icmp .ne 15, 3) := by decide +kernel
theorem dX0_hearToken_112 : decode cX0_hearToken 112 = .ok (.aload_n 0, 1) := by decide +kernel
theorem dX0_hearToken_113 : decode cX0_hearToken 113 = .ok (.iload_n 2, 1) := by decide +kernel
theorem dX0_hearToken_114 : decode cX0_hearToken 114 = .ok (.invokevirtual 77, 3) := by decide +kernel
theorem dX0_hearToken_117 : decode cX0_hearToken 117 = .ok (.ifCond .eq 7, 3) := by decide +kernel
theorem dX0_hearToken_120 : decode cX0_hearToken 120 = .ok (.iconst 1, 1) := by decide +kernel
theorem dX0_hearToken_121 : decode cX0_hearToken 121 = .ok (.goto 4, 3) := by decide +kernel
theorem dX0_hearToken_124 : decode cX0_hearToken 124 = .ok (.iconst 0, 1) := by decide +kernel
theorem dX0_hearToken_125 : decode cX0_hearToken 125 = .ok (.ireturn, 1) := by decide +kernel
theorem dX0_hearToken_126 : decode cX0_hearToken 126 = .ok (.aload_n 0, 1) := by decide +kernel
theorem dX0_hearToken_127 : decode cX0_hearToken 127 = .ok (.iconst 0, 1) := by decide +kernel
theorem dX0_hearToken_128 : decode cX0_hearToken 128 = .ok (.putfield 40, 3) := by decide +kernel
theorem dX0_hearToken_131 : decode cX0_hearToken 131 = .ok (.iload_n 1, 1) := by decide +kernel
theorem dX0_hearToken_132 : decode cX0_hearToken 132 = .ok (.iconst 1, 1) := by decide +kernel
theorem dX0_hearToken_133 : decode cX0_hearToken 133 = .ok (.if_icmp .ne 7, 3) := by decide +kernel
theorem dX0_hearToken_136 : decode cX0_hearToken 136 = .ok (.iconst 1, 1) := by decide +kernel
theorem dX0_hearToken_137 : decode cX0_hearToken 137 = .ok (.goto 4, 3) := by decide +kernel
theorem dX0_hearToken_140 : decode cX0_hearToken 140 = .ok (.iconst 0, 1) := by decide +kernel
theorem dX0_hearToken_141 : decode cX0_hearToken 141 = .ok (.ireturn, 1) := by decide +kernel
def T_X0_hearToken (post : PO) : List (Nat × OP) := [(0, o_aload 0 1), (1, o_getf 0 4 4), (4, o_sw [(0, 44), (1, 126), (2, 50), (3, 69), (4, 88), (5, 107)] 126), (44, o_aload 0 45), (45, o_iload 1 46), (46, o_callV 0 S_X0_hearItem 1 49), (49, o_zret post), (50, o_iload 1 51), (51, o_const 3 52), (52, o_icmp (fun x y => x = y) 55 67), (55, o_aload 0 56), (56, o_iload 2 57), (57, o_callV 0 S_X0_hearKeyRow 1 60), (60, o_if (fun x => x = 0) 67 63), (63, o_const 1 64), (64, o_goto 68), (67, o_const 0 68), (68, o_zret post), (69, o_iload 1 70), (70, o_const 3 71), (71, o_icmp (fun x y => x = y) 74 86), (74, o_aload 0 75), (75, o_iload 2 76), (76, o_callV 0 S_X0_hearLockRow 1 79), (79, o_if (fun x => x = 0) 86 82), (82, o_const 1 83), (83, o_goto 87), (86, o_const 0 87), (87, o_zret post), (88, o_iload 1 89), (89, o_const 2 90), (90, o_icmp (fun x y => x = y) 93 105), (93, o_aload 0 94), (94, o_iload 2 95), (95, o_callV 0 S_X0_hearHolder 1 98), (98, o_if (fun x => x = 0) 105 101), (101, o_const 1 102), (102, o_goto 106), (105, o_const 0 106), (106, o_zret post), (107, o_iload 1 108), (108, o_const 2 109), (109, o_icmp (fun x y => x = y) 112 124), (112, o_aload 0 113), (113, o_iload 2 114), (114, o_callV 0 S_X0_hearHeld 1 117), (117, o_if (fun x => x = 0) 124 120), (120, o_const 1 121), (121, o_goto 125), (124, o_const 0 125), (125, o_zret post), (126, o_aload 0 127), (127, o_const 0 128), (128, o_putI 0 4 131), (131, o_iload 1 132), (132, o_const 1 133), (133, o_icmp (fun x y => x = y) 136 140), (136, o_const 1 137), (137, o_goto 141), (140, o_const 0 141), (141, o_zret post)]
theorem k_X0_hearToken_0 (post : PO) : lk (T_X0_hearToken post) 0 = o_aload 0 1 := rfl
theorem k_X0_hearToken_1 (post : PO) : lk (T_X0_hearToken post) 1 = o_getf 0 4 4 := rfl
theorem k_X0_hearToken_4 (post : PO) : lk (T_X0_hearToken post) 4 = o_sw [(0, 44), (1, 126), (2, 50), (3, 69), (4, 88), (5, 107)] 126 := rfl
theorem k_X0_hearToken_44 (post : PO) : lk (T_X0_hearToken post) 44 = o_aload 0 45 := rfl
theorem k_X0_hearToken_45 (post : PO) : lk (T_X0_hearToken post) 45 = o_iload 1 46 := rfl
theorem k_X0_hearToken_46 (post : PO) : lk (T_X0_hearToken post) 46 = o_callV 0 S_X0_hearItem 1 49 := rfl
theorem k_X0_hearToken_49 (post : PO) : lk (T_X0_hearToken post) 49 = o_zret post := rfl
theorem k_X0_hearToken_50 (post : PO) : lk (T_X0_hearToken post) 50 = o_iload 1 51 := rfl
theorem k_X0_hearToken_51 (post : PO) : lk (T_X0_hearToken post) 51 = o_const 3 52 := rfl
theorem k_X0_hearToken_52 (post : PO) : lk (T_X0_hearToken post) 52 = o_icmp (fun x y => x = y) 55 67 := rfl
theorem k_X0_hearToken_55 (post : PO) : lk (T_X0_hearToken post) 55 = o_aload 0 56 := rfl
theorem k_X0_hearToken_56 (post : PO) : lk (T_X0_hearToken post) 56 = o_iload 2 57 := rfl
theorem k_X0_hearToken_57 (post : PO) : lk (T_X0_hearToken post) 57 = o_callV 0 S_X0_hearKeyRow 1 60 := rfl
theorem k_X0_hearToken_60 (post : PO) : lk (T_X0_hearToken post) 60 = o_if (fun x => x = 0) 67 63 := rfl
theorem k_X0_hearToken_63 (post : PO) : lk (T_X0_hearToken post) 63 = o_const 1 64 := rfl
theorem k_X0_hearToken_64 (post : PO) : lk (T_X0_hearToken post) 64 = o_goto 68 := rfl
theorem k_X0_hearToken_67 (post : PO) : lk (T_X0_hearToken post) 67 = o_const 0 68 := rfl
theorem k_X0_hearToken_68 (post : PO) : lk (T_X0_hearToken post) 68 = o_zret post := rfl
theorem k_X0_hearToken_69 (post : PO) : lk (T_X0_hearToken post) 69 = o_iload 1 70 := rfl
theorem k_X0_hearToken_70 (post : PO) : lk (T_X0_hearToken post) 70 = o_const 3 71 := rfl
theorem k_X0_hearToken_71 (post : PO) : lk (T_X0_hearToken post) 71 = o_icmp (fun x y => x = y) 74 86 := rfl
theorem k_X0_hearToken_74 (post : PO) : lk (T_X0_hearToken post) 74 = o_aload 0 75 := rfl
theorem k_X0_hearToken_75 (post : PO) : lk (T_X0_hearToken post) 75 = o_iload 2 76 := rfl
theorem k_X0_hearToken_76 (post : PO) : lk (T_X0_hearToken post) 76 = o_callV 0 S_X0_hearLockRow 1 79 := rfl
theorem k_X0_hearToken_79 (post : PO) : lk (T_X0_hearToken post) 79 = o_if (fun x => x = 0) 86 82 := rfl
theorem k_X0_hearToken_82 (post : PO) : lk (T_X0_hearToken post) 82 = o_const 1 83 := rfl
theorem k_X0_hearToken_83 (post : PO) : lk (T_X0_hearToken post) 83 = o_goto 87 := rfl
theorem k_X0_hearToken_86 (post : PO) : lk (T_X0_hearToken post) 86 = o_const 0 87 := rfl
theorem k_X0_hearToken_87 (post : PO) : lk (T_X0_hearToken post) 87 = o_zret post := rfl
theorem k_X0_hearToken_88 (post : PO) : lk (T_X0_hearToken post) 88 = o_iload 1 89 := rfl
theorem k_X0_hearToken_89 (post : PO) : lk (T_X0_hearToken post) 89 = o_const 2 90 := rfl
theorem k_X0_hearToken_90 (post : PO) : lk (T_X0_hearToken post) 90 = o_icmp (fun x y => x = y) 93 105 := rfl
theorem k_X0_hearToken_93 (post : PO) : lk (T_X0_hearToken post) 93 = o_aload 0 94 := rfl
theorem k_X0_hearToken_94 (post : PO) : lk (T_X0_hearToken post) 94 = o_iload 2 95 := rfl
theorem k_X0_hearToken_95 (post : PO) : lk (T_X0_hearToken post) 95 = o_callV 0 S_X0_hearHolder 1 98 := rfl
theorem k_X0_hearToken_98 (post : PO) : lk (T_X0_hearToken post) 98 = o_if (fun x => x = 0) 105 101 := rfl
theorem k_X0_hearToken_101 (post : PO) : lk (T_X0_hearToken post) 101 = o_const 1 102 := rfl
theorem k_X0_hearToken_102 (post : PO) : lk (T_X0_hearToken post) 102 = o_goto 106 := rfl
theorem k_X0_hearToken_105 (post : PO) : lk (T_X0_hearToken post) 105 = o_const 0 106 := rfl
theorem k_X0_hearToken_106 (post : PO) : lk (T_X0_hearToken post) 106 = o_zret post := rfl
theorem k_X0_hearToken_107 (post : PO) : lk (T_X0_hearToken post) 107 = o_iload 1 108 := rfl
theorem k_X0_hearToken_108 (post : PO) : lk (T_X0_hearToken post) 108 = o_const 2 109 := rfl
theorem k_X0_hearToken_109 (post : PO) : lk (T_X0_hearToken post) 109 = o_icmp (fun x y => x = y) 112 124 := rfl
theorem k_X0_hearToken_112 (post : PO) : lk (T_X0_hearToken post) 112 = o_aload 0 113 := rfl
theorem k_X0_hearToken_113 (post : PO) : lk (T_X0_hearToken post) 113 = o_iload 2 114 := rfl
theorem k_X0_hearToken_114 (post : PO) : lk (T_X0_hearToken post) 114 = o_callV 0 S_X0_hearHeld 1 117 := rfl
theorem k_X0_hearToken_117 (post : PO) : lk (T_X0_hearToken post) 117 = o_if (fun x => x = 0) 124 120 := rfl
theorem k_X0_hearToken_120 (post : PO) : lk (T_X0_hearToken post) 120 = o_const 1 121 := rfl
theorem k_X0_hearToken_121 (post : PO) : lk (T_X0_hearToken post) 121 = o_goto 125 := rfl
theorem k_X0_hearToken_124 (post : PO) : lk (T_X0_hearToken post) 124 = o_const 0 125 := rfl
theorem k_X0_hearToken_125 (post : PO) : lk (T_X0_hearToken post) 125 = o_zret post := rfl
theorem k_X0_hearToken_126 (post : PO) : lk (T_X0_hearToken post) 126 = o_aload 0 127 := rfl
theorem k_X0_hearToken_127 (post : PO) : lk (T_X0_hearToken post) 127 = o_const 0 128 := rfl
theorem k_X0_hearToken_128 (post : PO) : lk (T_X0_hearToken post) 128 = o_putI 0 4 131 := rfl
theorem k_X0_hearToken_131 (post : PO) : lk (T_X0_hearToken post) 131 = o_iload 1 132 := rfl
theorem k_X0_hearToken_132 (post : PO) : lk (T_X0_hearToken post) 132 = o_const 1 133 := rfl
theorem k_X0_hearToken_133 (post : PO) : lk (T_X0_hearToken post) 133 = o_icmp (fun x y => x = y) 136 140 := rfl
theorem k_X0_hearToken_136 (post : PO) : lk (T_X0_hearToken post) 136 = o_const 1 137 := rfl
theorem k_X0_hearToken_137 (post : PO) : lk (T_X0_hearToken post) 137 = o_goto 141 := rfl
theorem k_X0_hearToken_140 (post : PO) : lk (T_X0_hearToken post) 140 = o_const 0 141 := rfl
theorem k_X0_hearToken_141 (post : PO) : lk (T_X0_hearToken post) 141 = o_zret post := rfl
set_option maxRecDepth 100000 in
theorem t_X0_hearToken {p : Program} {l : Launch} {e : Env} {s : State} {m : MethodId} {args : Array Value} {below : List Frame} {meth : Method} {c : Code} {D : va_G} {dA : Nat → ClassId} {ad : Nat → Nat} (post : PO) (C : CX p s m args meth c cX0_hearToken 3 yX0_hearToken.cls D dA ad (AA ad s.heap.size)) (hr : meth.sig.returnType = (some .boolean)) : SndL (WW p l e ({ frames := 2, cells := 0, slots := 0, locals := 42 } : Room) s m args below meth c 0 0 (MQ below (CQ D dA ad post (AA ad s.heap.size)) args s 0 0 (AA ad s.heap.size)) 3 D dA ad (AA ad s.heap.size)) (T_X0_hearToken post) := by
  refine snd_c (s_aload_n C rfl dX0_hearToken_0) ?_
  refine snd_c (s_getf C (ci := 0) (j := 4) (T := TX0) rfl inX0 (by decide) fl_RX0_40 dX0_hearToken_1) ?_
  refine snd_c (s_sw C dX0_hearToken_4 (by decide) (by decide +kernel) (by decide)) ?_
  refine snd_c (s_aload_n C rfl dX0_hearToken_44) ?_
  refine snd_c (s_iload_n C rfl dX0_hearToken_45) ?_
  refine snd_c (s_callV C (ci := 0) c_X0_hearItem rfl cw_RX0_64 ⟨rfl, rfl⟩ ⟨by decide +kernel, by decide +kernel, by decide +kernel⟩ ⟨by decide, by decide⟩ ⟨Nat.zero_le _, Nat.zero_le _⟩ dX0_hearToken_46) ?_
  refine snd_c (s_zret C hr ⟨rfl, rfl⟩ dX0_hearToken_49) ?_
  refine snd_c (s_iload_n C rfl dX0_hearToken_50) ?_
  refine snd_c (s_iconst C dX0_hearToken_51 rfl) ?_
  refine snd_c (s_icmp_ne C dX0_hearToken_52 (by decide)) ?_
  refine snd_c (s_aload_n C rfl dX0_hearToken_55) ?_
  refine snd_c (s_iload_n C rfl dX0_hearToken_56) ?_
  refine snd_c (s_callV C (ci := 0) c_X0_hearKeyRow rfl cw_RX0_68 ⟨rfl, rfl⟩ ⟨by decide +kernel, by decide +kernel, by decide +kernel⟩ ⟨by decide, by decide⟩ ⟨Nat.zero_le _, Nat.zero_le _⟩ dX0_hearToken_57) ?_
  refine snd_c (s_if_eq C dX0_hearToken_60 (by decide)) ?_
  refine snd_c (s_iconst C dX0_hearToken_63 rfl) ?_
  refine snd_c (s_goto C dX0_hearToken_64 (by decide)) ?_
  refine snd_c (s_iconst C dX0_hearToken_67 rfl) ?_
  refine snd_c (s_zret C hr ⟨rfl, rfl⟩ dX0_hearToken_68) ?_
  refine snd_c (s_iload_n C rfl dX0_hearToken_69) ?_
  refine snd_c (s_iconst C dX0_hearToken_70 rfl) ?_
  refine snd_c (s_icmp_ne C dX0_hearToken_71 (by decide)) ?_
  refine snd_c (s_aload_n C rfl dX0_hearToken_74) ?_
  refine snd_c (s_iload_n C rfl dX0_hearToken_75) ?_
  refine snd_c (s_callV C (ci := 0) c_X0_hearLockRow rfl cw_RX0_71 ⟨rfl, rfl⟩ ⟨by decide +kernel, by decide +kernel, by decide +kernel⟩ ⟨by decide, by decide⟩ ⟨Nat.zero_le _, Nat.zero_le _⟩ dX0_hearToken_76) ?_
  refine snd_c (s_if_eq C dX0_hearToken_79 (by decide)) ?_
  refine snd_c (s_iconst C dX0_hearToken_82 rfl) ?_
  refine snd_c (s_goto C dX0_hearToken_83 (by decide)) ?_
  refine snd_c (s_iconst C dX0_hearToken_86 rfl) ?_
  refine snd_c (s_zret C hr ⟨rfl, rfl⟩ dX0_hearToken_87) ?_
  refine snd_c (s_iload_n C rfl dX0_hearToken_88) ?_
  refine snd_c (s_iconst C dX0_hearToken_89 rfl) ?_
  refine snd_c (s_icmp_ne C dX0_hearToken_90 (by decide)) ?_
  refine snd_c (s_aload_n C rfl dX0_hearToken_93) ?_
  refine snd_c (s_iload_n C rfl dX0_hearToken_94) ?_
  refine snd_c (s_callV C (ci := 0) c_X0_hearHolder rfl cw_RX0_74 ⟨rfl, rfl⟩ ⟨by decide +kernel, by decide +kernel, by decide +kernel⟩ ⟨by decide, by decide⟩ ⟨Nat.zero_le _, Nat.zero_le _⟩ dX0_hearToken_95) ?_
  refine snd_c (s_if_eq C dX0_hearToken_98 (by decide)) ?_
  refine snd_c (s_iconst C dX0_hearToken_101 rfl) ?_
  refine snd_c (s_goto C dX0_hearToken_102 (by decide)) ?_
  refine snd_c (s_iconst C dX0_hearToken_105 rfl) ?_
  refine snd_c (s_zret C hr ⟨rfl, rfl⟩ dX0_hearToken_106) ?_
  refine snd_c (s_iload_n C rfl dX0_hearToken_107) ?_
  refine snd_c (s_iconst C dX0_hearToken_108 rfl) ?_
  refine snd_c (s_icmp_ne C dX0_hearToken_109 (by decide)) ?_
  refine snd_c (s_aload_n C rfl dX0_hearToken_112) ?_
  refine snd_c (s_iload_n C rfl dX0_hearToken_113) ?_
  refine snd_c (s_callV C (ci := 0) c_X0_hearHeld rfl cw_RX0_77 ⟨rfl, rfl⟩ ⟨by decide +kernel, by decide +kernel, by decide +kernel⟩ ⟨by decide, by decide⟩ ⟨Nat.zero_le _, Nat.zero_le _⟩ dX0_hearToken_114) ?_
  refine snd_c (s_if_eq C dX0_hearToken_117 (by decide)) ?_
  refine snd_c (s_iconst C dX0_hearToken_120 rfl) ?_
  refine snd_c (s_goto C dX0_hearToken_121 (by decide)) ?_
  refine snd_c (s_iconst C dX0_hearToken_124 rfl) ?_
  refine snd_c (s_zret C hr ⟨rfl, rfl⟩ dX0_hearToken_125) ?_
  refine snd_c (s_aload_n C rfl dX0_hearToken_126) ?_
  refine snd_c (s_iconst C dX0_hearToken_127 rfl) ?_
  refine snd_c (s_putI C (ci := 0) (j := 4) (T := TX0) tyX0 tyX0_ok nmX0 rfl inX0 (by decide) rfl rfl fl_RX0_40 dX0_hearToken_128) ?_
  refine snd_c (s_iload_n C rfl dX0_hearToken_131) ?_
  refine snd_c (s_iconst C dX0_hearToken_132 rfl) ?_
  refine snd_c (s_icmp_ne C dX0_hearToken_133 (by decide)) ?_
  refine snd_c (s_iconst C dX0_hearToken_136 rfl) ?_
  refine snd_c (s_goto C dX0_hearToken_137 (by decide)) ?_
  refine snd_c (s_iconst C dX0_hearToken_140 rfl) ?_
  refine snd_c (s_zret C hr ⟨rfl, rfl⟩ dX0_hearToken_141) ?_
  exact trivial
set_option maxRecDepth 100000 in
theorem v_X0_hearToken : ∀ as M post, S_X0_hearToken as M post → wsum as ≤ 3 ∧ RUN (T_X0_hearToken post) 0 (entL 3 as) [] M := by
  rintro as M post ⟨k, v, d, w, q, rfl, hD, hw, hw5, hq, hv, hn, hs⟩
  refine ⟨Nat.le_refl 3, run_wp 60 ?_⟩
  have hD0 := hD
  obtain ⟨c, p, n, hc, hp, hn8, e0, e1, e3, m12, m13, m16, hl, hk, hz⟩ := hD
  have l1 : d 3 < 8 ↔ n < 8 := by rw [e3, show (8 : Int32) = nI 8 from rfl]; exact nI_ltI (by omega) (by omega)
  have l2 : d 0 < 6 ↔ c < 6 := by rw [e0, show (6 : Int32) = nI 6 from rfl]; exact nI_ltI (by omega) (by omega)
  have l3 : d 1 < 4 ↔ p < 4 := by rw [e1, show (4 : Int32) = nI 4 from rfl]; exact nI_ltI (by omega) (by omega)
  rcases (by omega : w = 0 ∨ w = 1 ∨ w = 2 ∨ w = 3 ∨ w = 4 ∨ w = 5) with rfl | rfl | rfl | rfl | rfl | rfl
  · -- an item's first word
    have hstp : stp 0 q d k v = if k = 5 then (if d 3 < 8 then some (2, q, d) else none) else if k = 6 then (if d 0 < 6 then some (3, q, d) else none) else if k = 7 then (if d 1 < 4 then some (1, q, upd d 1 (d 1 + 1)) else none) else if k = 8 then some (4, q, d) else none := rfl
    rw [hstp] at hn hs
    dsimp only [k_X0_hearToken_0, k_X0_hearToken_1, k_X0_hearToken_4, k_X0_hearToken_44, k_X0_hearToken_45, k_X0_hearToken_46, k_X0_hearToken_49, k_X0_hearToken_50, k_X0_hearToken_51, k_X0_hearToken_52, k_X0_hearToken_55, k_X0_hearToken_56, k_X0_hearToken_57, k_X0_hearToken_60, k_X0_hearToken_63, k_X0_hearToken_64, k_X0_hearToken_67, k_X0_hearToken_68, k_X0_hearToken_69, k_X0_hearToken_70, k_X0_hearToken_71, k_X0_hearToken_74, k_X0_hearToken_75, k_X0_hearToken_76, k_X0_hearToken_79, k_X0_hearToken_82, k_X0_hearToken_83, k_X0_hearToken_86, k_X0_hearToken_87, k_X0_hearToken_88, k_X0_hearToken_89, k_X0_hearToken_90, k_X0_hearToken_93, k_X0_hearToken_94, k_X0_hearToken_95, k_X0_hearToken_98, k_X0_hearToken_101, k_X0_hearToken_102, k_X0_hearToken_105, k_X0_hearToken_106, k_X0_hearToken_107, k_X0_hearToken_108, k_X0_hearToken_109, k_X0_hearToken_112, k_X0_hearToken_113, k_X0_hearToken_114, k_X0_hearToken_117, k_X0_hearToken_120, k_X0_hearToken_121, k_X0_hearToken_124, k_X0_hearToken_125, k_X0_hearToken_126, k_X0_hearToken_127, k_X0_hearToken_128, k_X0_hearToken_131, k_X0_hearToken_132, k_X0_hearToken_133, k_X0_hearToken_136, k_X0_hearToken_137, k_X0_hearToken_140, k_X0_hearToken_141, wp1, wp_s, cutIn, kont, Nat.reduceSub, Nat.reduceAdd, nth, o_const, o_lconst, o_ref, o_iload, o_lload, o_aload, o_istore, o_lstore, o_astore, o_iinc, o_bin, o_div, o_un, o_lbin, o_lsh, o_lcmp, o_i2l, o_l2i, o_if, o_icmp, o_goto, o_dup, o_dup2, o_pop, fav, o_getf, o_putI, o_putZ, o_putL, o_ald, o_ast, o_alen, popn, rst, o_callV, o_callT, o_callS, swx, o_sw, o_ret, o_iret, o_zret, o_cret, o_lret, o_aret, lg, lput, lput2, ls1, isL, entL, wsum, rdI1, rdI2, rdA1, rdA21, rdA22, rdL1, rdL22, rdL21, upN_at, rep, sh_0, F_0_0, F_0_1, F_0_2, F_0_3, F_0_4, F_0_5, F_0_6, F_0_7, F_0_8, sh_1, F_1_0, F_1_1, F_1_2, F_1_3, F_1_4, F_1_5, sh_3, F_3_0, F_3_1, F_3_2, F_3_3, F_3_4, F_3_5, sh_5, F_5_0, F_5_1, F_5_2, F_5_3, F_5_4, F_5_5, F_5_6, F_5_7, F_5_8, sh_12, F_12_0, F_12_1, F_12_2, F_12_3, F_12_4, F_12_5, sh_14, F_14_0, F_14_1, F_14_2, F_14_3, F_14_4, F_14_5, F_14_6, F_14_7, F_14_8, sh_21, F_21_0, F_21_1, F_21_2, F_21_3, F_21_4, F_21_5, F_21_6, F_21_7, F_21_8, sh_28, F_28_0, F_28_1, F_28_2, F_28_3, F_28_4, F_28_5, F_28_6, F_28_7, F_28_8, sh_35, F_35_0, sh_39, F_39_0, F_39_1, F_39_2, F_39_3, F_39_4, F_39_5, F_39_6, F_39_7, F_39_8, F_39_9, F_39_10, F_39_11, F_39_12, F_39_13, A_2, A_4, A_6, A_7, A_8, A_9, A_10, A_11, A_13, A_15, A_16, A_17, A_18, A_19, A_20, A_22, A_23, A_24, A_25, A_26, A_27, A_29, A_30, A_31, A_32, A_33, A_34, A_36, A_37, A_38, A_40, A_41, A_42, A_43, A_44, A_45, A_46, A_47]
    rw [hw]
    refine ⟨fun _ => ⟨k, p, n, c, rfl, m13, hp, m16, hn8, m12, hc, ?_⟩, fun z => absurd rfl z⟩
    dsimp only [k_X0_hearToken_0, k_X0_hearToken_1, k_X0_hearToken_4, k_X0_hearToken_44, k_X0_hearToken_45, k_X0_hearToken_46, k_X0_hearToken_49, k_X0_hearToken_50, k_X0_hearToken_51, k_X0_hearToken_52, k_X0_hearToken_55, k_X0_hearToken_56, k_X0_hearToken_57, k_X0_hearToken_60, k_X0_hearToken_63, k_X0_hearToken_64, k_X0_hearToken_67, k_X0_hearToken_68, k_X0_hearToken_69, k_X0_hearToken_70, k_X0_hearToken_71, k_X0_hearToken_74, k_X0_hearToken_75, k_X0_hearToken_76, k_X0_hearToken_79, k_X0_hearToken_82, k_X0_hearToken_83, k_X0_hearToken_86, k_X0_hearToken_87, k_X0_hearToken_88, k_X0_hearToken_89, k_X0_hearToken_90, k_X0_hearToken_93, k_X0_hearToken_94, k_X0_hearToken_95, k_X0_hearToken_98, k_X0_hearToken_101, k_X0_hearToken_102, k_X0_hearToken_105, k_X0_hearToken_106, k_X0_hearToken_107, k_X0_hearToken_108, k_X0_hearToken_109, k_X0_hearToken_112, k_X0_hearToken_113, k_X0_hearToken_114, k_X0_hearToken_117, k_X0_hearToken_120, k_X0_hearToken_121, k_X0_hearToken_124, k_X0_hearToken_125, k_X0_hearToken_126, k_X0_hearToken_127, k_X0_hearToken_128, k_X0_hearToken_131, k_X0_hearToken_132, k_X0_hearToken_133, k_X0_hearToken_136, k_X0_hearToken_137, k_X0_hearToken_140, k_X0_hearToken_141, wp1, wp_s, cutIn, kont, Nat.reduceSub, Nat.reduceAdd, nth, o_const, o_lconst, o_ref, o_iload, o_lload, o_aload, o_istore, o_lstore, o_astore, o_iinc, o_bin, o_div, o_un, o_lbin, o_lsh, o_lcmp, o_i2l, o_l2i, o_if, o_icmp, o_goto, o_dup, o_dup2, o_pop, fav, o_getf, o_putI, o_putZ, o_putL, o_ald, o_ast, o_alen, popn, rst, o_callV, o_callT, o_callS, swx, o_sw, o_ret, o_iret, o_zret, o_cret, o_lret, o_aret, lg, lput, lput2, ls1, isL, entL, wsum, rdI1, rdI2, rdA1, rdA21, rdA22, rdL1, rdL22, rdL21, upN_at, rep, sh_0, F_0_0, F_0_1, F_0_2, F_0_3, F_0_4, F_0_5, F_0_6, F_0_7, F_0_8, sh_1, F_1_0, F_1_1, F_1_2, F_1_3, F_1_4, F_1_5, sh_3, F_3_0, F_3_1, F_3_2, F_3_3, F_3_4, F_3_5, sh_5, F_5_0, F_5_1, F_5_2, F_5_3, F_5_4, F_5_5, F_5_6, F_5_7, F_5_8, sh_12, F_12_0, F_12_1, F_12_2, F_12_3, F_12_4, F_12_5, sh_14, F_14_0, F_14_1, F_14_2, F_14_3, F_14_4, F_14_5, F_14_6, F_14_7, F_14_8, sh_21, F_21_0, F_21_1, F_21_2, F_21_3, F_21_4, F_21_5, F_21_6, F_21_7, F_21_8, sh_28, F_28_0, F_28_1, F_28_2, F_28_3, F_28_4, F_28_5, F_28_6, F_28_7, F_28_8, sh_35, F_35_0, sh_39, F_39_0, F_39_1, F_39_2, F_39_3, F_39_4, F_39_5, F_39_6, F_39_7, F_39_8, F_39_9, F_39_10, F_39_11, F_39_12, F_39_13, A_2, A_4, A_6, A_7, A_8, A_9, A_10, A_11, A_13, A_15, A_16, A_17, A_18, A_19, A_20, A_22, A_23, A_24, A_25, A_26, A_27, A_29, A_30, A_31, A_32, A_33, A_34, A_36, A_37, A_38, A_40, A_41, A_42, A_43, A_44, A_45, A_46, A_47, pz]
    refine ⟨fun e => ?_, fun e => ?_, fun e e2 => ?_, fun e e2 => ?_, fun e => ?_, fun e5 e6 e7 e8 => ?_⟩
    · rw [if_pos e] at hn hs
      refine ⟨fun z => ⟨Or.inr rfl, ?_⟩, fun z => ⟨Or.inl rfl, ?_⟩⟩
      · rw [if_pos (l1.mpr z)] at hs
        exact hs _ rfl _ (frD_I (frD_rf M) (by omega) _) (DR_of hD0 rfl rfl rfl rfl rfl rfl) rfl (fun z => by cases z) (Nat.le_of_ble_eq_true rfl)
      · rw [if_neg (fun z2 => z (l1.mp z2))] at hn
        exact hn rfl _ (frD_I (frD_rf M) (by omega) _)
    · rw [if_neg (by rw [e]; decide), if_pos e] at hn hs
      refine ⟨fun z => ⟨Or.inr rfl, ?_⟩, fun z => ⟨Or.inl rfl, ?_⟩⟩
      · rw [if_pos (l2.mpr z)] at hs
        exact hs _ rfl _ (frD_I (frD_rf M) (by omega) _) (DR_of hD0 rfl rfl rfl rfl rfl rfl) rfl (fun z => by cases z) (Nat.le_of_ble_eq_true rfl)
      · rw [if_neg (fun z2 => z (l2.mp z2))] at hn
        exact hn rfl _ (frD_I (frD_rf M) (by omega) _)
    · rw [if_neg (by rw [e]; decide), if_neg (by rw [e]; decide), if_pos e, if_neg (fun z2 => absurd (l3.mp z2) (by omega))] at hn
      exact ⟨Or.inl rfl, hn rfl _ (frD_I (frD_rf M) (by omega) _)⟩
    · rw [if_neg (by rw [e]; decide), if_neg (by rw [e]; decide), if_pos e, if_pos (l3.mpr e2)] at hs
      refine ⟨Or.inr rfl, hs _ rfl _ (frD_I (frD_I (frD_rf M) (by omega) _) (by omega) _) ⟨c, p + 1, n, hc, by omega, hn8, ?_, ?_, ?_, m12, rfl, m16, fun l hl2 => ?_, fun k2 hk2 => ?_, fun k2 hk2 hk3 => ?_⟩ rfl (fun z => by cases z) (Nat.le_of_ble_eq_true rfl)⟩
      · exact e0
      · show upd d 1 (d 1 + 1) 1 = _
        rw [upd_s, e1, nI_1]
      · exact e3
      · show M.2.2 8 l = upd d 1 (d 1 + 1) (4 + l)
        rw [upd_n _ _ (by omega)]; exact hl l hl2
      · show M.2.2 9 k2 = upd d 1 (d 1 + 1) (10 + k2) ∧ M.2.2 10 k2 = upd d 1 (d 1 + 1) (18 + k2)
        rw [upd_n _ _ (by omega), upd_n _ _ (by omega)]; exact hk k2 hk2
      · show upd d 1 (d 1 + 1) (18 + k2) = -4
        rw [upd_n _ _ (by omega)]; exact hz k2 hk2 hk3
    · rw [if_neg (by rw [e]; decide), if_neg (by rw [e]; decide), if_neg (by rw [e]; decide), if_pos e] at hs
      exact ⟨Or.inr rfl, hs _ rfl _ (frD_I (frD_rf M) (by omega) _) (DR_of hD0 rfl rfl rfl rfl rfl rfl) rfl (fun z => by cases z) (Nat.le_of_ble_eq_true rfl)⟩
    · rw [if_neg e5, if_neg e6, if_neg e7, if_neg e8] at hn
      exact ⟨Or.inl rfl, hn rfl _ (frD_rf M)⟩
  · -- a stop
    have hstp : stp 1 q d k v = if k = 1 then some (0, q, d) else none := rfl
    rw [hstp] at hn hs
    dsimp only [k_X0_hearToken_0, k_X0_hearToken_1, k_X0_hearToken_4, k_X0_hearToken_44, k_X0_hearToken_45, k_X0_hearToken_46, k_X0_hearToken_49, k_X0_hearToken_50, k_X0_hearToken_51, k_X0_hearToken_52, k_X0_hearToken_55, k_X0_hearToken_56, k_X0_hearToken_57, k_X0_hearToken_60, k_X0_hearToken_63, k_X0_hearToken_64, k_X0_hearToken_67, k_X0_hearToken_68, k_X0_hearToken_69, k_X0_hearToken_70, k_X0_hearToken_71, k_X0_hearToken_74, k_X0_hearToken_75, k_X0_hearToken_76, k_X0_hearToken_79, k_X0_hearToken_82, k_X0_hearToken_83, k_X0_hearToken_86, k_X0_hearToken_87, k_X0_hearToken_88, k_X0_hearToken_89, k_X0_hearToken_90, k_X0_hearToken_93, k_X0_hearToken_94, k_X0_hearToken_95, k_X0_hearToken_98, k_X0_hearToken_101, k_X0_hearToken_102, k_X0_hearToken_105, k_X0_hearToken_106, k_X0_hearToken_107, k_X0_hearToken_108, k_X0_hearToken_109, k_X0_hearToken_112, k_X0_hearToken_113, k_X0_hearToken_114, k_X0_hearToken_117, k_X0_hearToken_120, k_X0_hearToken_121, k_X0_hearToken_124, k_X0_hearToken_125, k_X0_hearToken_126, k_X0_hearToken_127, k_X0_hearToken_128, k_X0_hearToken_131, k_X0_hearToken_132, k_X0_hearToken_133, k_X0_hearToken_136, k_X0_hearToken_137, k_X0_hearToken_140, k_X0_hearToken_141, wp1, wp_s, cutIn, kont, Nat.reduceSub, Nat.reduceAdd, nth, o_const, o_lconst, o_ref, o_iload, o_lload, o_aload, o_istore, o_lstore, o_astore, o_iinc, o_bin, o_div, o_un, o_lbin, o_lsh, o_lcmp, o_i2l, o_l2i, o_if, o_icmp, o_goto, o_dup, o_dup2, o_pop, fav, o_getf, o_putI, o_putZ, o_putL, o_ald, o_ast, o_alen, popn, rst, o_callV, o_callT, o_callS, swx, o_sw, o_ret, o_iret, o_zret, o_cret, o_lret, o_aret, lg, lput, lput2, ls1, isL, entL, wsum, rdI1, rdI2, rdA1, rdA21, rdA22, rdL1, rdL22, rdL21, upN_at, rep, sh_0, F_0_0, F_0_1, F_0_2, F_0_3, F_0_4, F_0_5, F_0_6, F_0_7, F_0_8, sh_1, F_1_0, F_1_1, F_1_2, F_1_3, F_1_4, F_1_5, sh_3, F_3_0, F_3_1, F_3_2, F_3_3, F_3_4, F_3_5, sh_5, F_5_0, F_5_1, F_5_2, F_5_3, F_5_4, F_5_5, F_5_6, F_5_7, F_5_8, sh_12, F_12_0, F_12_1, F_12_2, F_12_3, F_12_4, F_12_5, sh_14, F_14_0, F_14_1, F_14_2, F_14_3, F_14_4, F_14_5, F_14_6, F_14_7, F_14_8, sh_21, F_21_0, F_21_1, F_21_2, F_21_3, F_21_4, F_21_5, F_21_6, F_21_7, F_21_8, sh_28, F_28_0, F_28_1, F_28_2, F_28_3, F_28_4, F_28_5, F_28_6, F_28_7, F_28_8, sh_35, F_35_0, sh_39, F_39_0, F_39_1, F_39_2, F_39_3, F_39_4, F_39_5, F_39_6, F_39_7, F_39_8, F_39_9, F_39_10, F_39_11, F_39_12, F_39_13, A_2, A_4, A_6, A_7, A_8, A_9, A_10, A_11, A_13, A_15, A_16, A_17, A_18, A_19, A_20, A_22, A_23, A_24, A_25, A_26, A_27, A_29, A_30, A_31, A_32, A_33, A_34, A_36, A_37, A_38, A_40, A_41, A_42, A_43, A_44, A_45, A_46, A_47]
    rw [hw]
    refine ⟨fun z => absurd z (by decide), fun _ => ⟨fun _ => ?_, fun z => absurd rfl z⟩⟩
    refine ⟨fun e => ⟨Or.inr rfl, ?_⟩, fun e => ⟨Or.inl rfl, ?_⟩⟩
    · rw [if_pos e] at hs
      exact hs _ rfl _ (frD_I (frD_rf M) (by omega) _) (DR_of hD0 rfl rfl rfl rfl rfl rfl) rfl (fun z => by cases z) (Nat.le_of_ble_eq_true rfl)
    · rw [if_neg e] at hn
      exact hn rfl _ (frD_I (frD_rf M) (by omega) _)
  · -- a key's row
    have hstp : stp 2 q d k v = if k = 3 ∧ d 3 < 8 then some (1, q, upd (upd d (10 + (d 3).toNatClampNeg) v) 3 (d 3 + 1)) else none := rfl
    rw [hstp] at hn hs
    dsimp only [k_X0_hearToken_0, k_X0_hearToken_1, k_X0_hearToken_4, k_X0_hearToken_44, k_X0_hearToken_45, k_X0_hearToken_46, k_X0_hearToken_49, k_X0_hearToken_50, k_X0_hearToken_51, k_X0_hearToken_52, k_X0_hearToken_55, k_X0_hearToken_56, k_X0_hearToken_57, k_X0_hearToken_60, k_X0_hearToken_63, k_X0_hearToken_64, k_X0_hearToken_67, k_X0_hearToken_68, k_X0_hearToken_69, k_X0_hearToken_70, k_X0_hearToken_71, k_X0_hearToken_74, k_X0_hearToken_75, k_X0_hearToken_76, k_X0_hearToken_79, k_X0_hearToken_82, k_X0_hearToken_83, k_X0_hearToken_86, k_X0_hearToken_87, k_X0_hearToken_88, k_X0_hearToken_89, k_X0_hearToken_90, k_X0_hearToken_93, k_X0_hearToken_94, k_X0_hearToken_95, k_X0_hearToken_98, k_X0_hearToken_101, k_X0_hearToken_102, k_X0_hearToken_105, k_X0_hearToken_106, k_X0_hearToken_107, k_X0_hearToken_108, k_X0_hearToken_109, k_X0_hearToken_112, k_X0_hearToken_113, k_X0_hearToken_114, k_X0_hearToken_117, k_X0_hearToken_120, k_X0_hearToken_121, k_X0_hearToken_124, k_X0_hearToken_125, k_X0_hearToken_126, k_X0_hearToken_127, k_X0_hearToken_128, k_X0_hearToken_131, k_X0_hearToken_132, k_X0_hearToken_133, k_X0_hearToken_136, k_X0_hearToken_137, k_X0_hearToken_140, k_X0_hearToken_141, wp1, wp_s, cutIn, kont, Nat.reduceSub, Nat.reduceAdd, nth, o_const, o_lconst, o_ref, o_iload, o_lload, o_aload, o_istore, o_lstore, o_astore, o_iinc, o_bin, o_div, o_un, o_lbin, o_lsh, o_lcmp, o_i2l, o_l2i, o_if, o_icmp, o_goto, o_dup, o_dup2, o_pop, fav, o_getf, o_putI, o_putZ, o_putL, o_ald, o_ast, o_alen, popn, rst, o_callV, o_callT, o_callS, swx, o_sw, o_ret, o_iret, o_zret, o_cret, o_lret, o_aret, lg, lput, lput2, ls1, isL, entL, wsum, rdI1, rdI2, rdA1, rdA21, rdA22, rdL1, rdL22, rdL21, upN_at, rep, sh_0, F_0_0, F_0_1, F_0_2, F_0_3, F_0_4, F_0_5, F_0_6, F_0_7, F_0_8, sh_1, F_1_0, F_1_1, F_1_2, F_1_3, F_1_4, F_1_5, sh_3, F_3_0, F_3_1, F_3_2, F_3_3, F_3_4, F_3_5, sh_5, F_5_0, F_5_1, F_5_2, F_5_3, F_5_4, F_5_5, F_5_6, F_5_7, F_5_8, sh_12, F_12_0, F_12_1, F_12_2, F_12_3, F_12_4, F_12_5, sh_14, F_14_0, F_14_1, F_14_2, F_14_3, F_14_4, F_14_5, F_14_6, F_14_7, F_14_8, sh_21, F_21_0, F_21_1, F_21_2, F_21_3, F_21_4, F_21_5, F_21_6, F_21_7, F_21_8, sh_28, F_28_0, F_28_1, F_28_2, F_28_3, F_28_4, F_28_5, F_28_6, F_28_7, F_28_8, sh_35, F_35_0, sh_39, F_39_0, F_39_1, F_39_2, F_39_3, F_39_4, F_39_5, F_39_6, F_39_7, F_39_8, F_39_9, F_39_10, F_39_11, F_39_12, F_39_13, A_2, A_4, A_6, A_7, A_8, A_9, A_10, A_11, A_13, A_15, A_16, A_17, A_18, A_19, A_20, A_22, A_23, A_24, A_25, A_26, A_27, A_29, A_30, A_31, A_32, A_33, A_34, A_36, A_37, A_38, A_40, A_41, A_42, A_43, A_44, A_45, A_46, A_47]
    rw [hw]
    refine ⟨fun z => absurd z (by decide), fun _ => ⟨fun z => absurd z (by decide), fun _ => ⟨fun _ => ?_, fun z => absurd rfl z⟩⟩⟩
    refine ⟨fun e => ⟨v, n, rfl, m16, hn8, fun z => ?_, fun z => ?_⟩, fun e => ⟨Or.inl rfl, ?_⟩⟩
    · dsimp only [k_X0_hearToken_0, k_X0_hearToken_1, k_X0_hearToken_4, k_X0_hearToken_44, k_X0_hearToken_45, k_X0_hearToken_46, k_X0_hearToken_49, k_X0_hearToken_50, k_X0_hearToken_51, k_X0_hearToken_52, k_X0_hearToken_55, k_X0_hearToken_56, k_X0_hearToken_57, k_X0_hearToken_60, k_X0_hearToken_63, k_X0_hearToken_64, k_X0_hearToken_67, k_X0_hearToken_68, k_X0_hearToken_69, k_X0_hearToken_70, k_X0_hearToken_71, k_X0_hearToken_74, k_X0_hearToken_75, k_X0_hearToken_76, k_X0_hearToken_79, k_X0_hearToken_82, k_X0_hearToken_83, k_X0_hearToken_86, k_X0_hearToken_87, k_X0_hearToken_88, k_X0_hearToken_89, k_X0_hearToken_90, k_X0_hearToken_93, k_X0_hearToken_94, k_X0_hearToken_95, k_X0_hearToken_98, k_X0_hearToken_101, k_X0_hearToken_102, k_X0_hearToken_105, k_X0_hearToken_106, k_X0_hearToken_107, k_X0_hearToken_108, k_X0_hearToken_109, k_X0_hearToken_112, k_X0_hearToken_113, k_X0_hearToken_114, k_X0_hearToken_117, k_X0_hearToken_120, k_X0_hearToken_121, k_X0_hearToken_124, k_X0_hearToken_125, k_X0_hearToken_126, k_X0_hearToken_127, k_X0_hearToken_128, k_X0_hearToken_131, k_X0_hearToken_132, k_X0_hearToken_133, k_X0_hearToken_136, k_X0_hearToken_137, k_X0_hearToken_140, k_X0_hearToken_141, wp1, wp_s, cutIn, kont, Nat.reduceSub, Nat.reduceAdd, nth, o_const, o_lconst, o_ref, o_iload, o_lload, o_aload, o_istore, o_lstore, o_astore, o_iinc, o_bin, o_div, o_un, o_lbin, o_lsh, o_lcmp, o_i2l, o_l2i, o_if, o_icmp, o_goto, o_dup, o_dup2, o_pop, fav, o_getf, o_putI, o_putZ, o_putL, o_ald, o_ast, o_alen, popn, rst, o_callV, o_callT, o_callS, swx, o_sw, o_ret, o_iret, o_zret, o_cret, o_lret, o_aret, lg, lput, lput2, ls1, isL, entL, wsum, rdI1, rdI2, rdA1, rdA21, rdA22, rdL1, rdL22, rdL21, upN_at, rep, sh_0, F_0_0, F_0_1, F_0_2, F_0_3, F_0_4, F_0_5, F_0_6, F_0_7, F_0_8, sh_1, F_1_0, F_1_1, F_1_2, F_1_3, F_1_4, F_1_5, sh_3, F_3_0, F_3_1, F_3_2, F_3_3, F_3_4, F_3_5, sh_5, F_5_0, F_5_1, F_5_2, F_5_3, F_5_4, F_5_5, F_5_6, F_5_7, F_5_8, sh_12, F_12_0, F_12_1, F_12_2, F_12_3, F_12_4, F_12_5, sh_14, F_14_0, F_14_1, F_14_2, F_14_3, F_14_4, F_14_5, F_14_6, F_14_7, F_14_8, sh_21, F_21_0, F_21_1, F_21_2, F_21_3, F_21_4, F_21_5, F_21_6, F_21_7, F_21_8, sh_28, F_28_0, F_28_1, F_28_2, F_28_3, F_28_4, F_28_5, F_28_6, F_28_7, F_28_8, sh_35, F_35_0, sh_39, F_39_0, F_39_1, F_39_2, F_39_3, F_39_4, F_39_5, F_39_6, F_39_7, F_39_8, F_39_9, F_39_10, F_39_11, F_39_12, F_39_13, A_2, A_4, A_6, A_7, A_8, A_9, A_10, A_11, A_13, A_15, A_16, A_17, A_18, A_19, A_20, A_22, A_23, A_24, A_25, A_26, A_27, A_29, A_30, A_31, A_32, A_33, A_34, A_36, A_37, A_38, A_40, A_41, A_42, A_43, A_44, A_45, A_46, A_47]
      rw [if_neg (fun z2 => absurd (l1.mp z2.2) (by omega))] at hn
      exact ⟨fun _ => ⟨Or.inl rfl, hn rfl _ (frD_I (frD_rf M) (by omega) _)⟩, fun z => absurd rfl z⟩
    · dsimp only [k_X0_hearToken_0, k_X0_hearToken_1, k_X0_hearToken_4, k_X0_hearToken_44, k_X0_hearToken_45, k_X0_hearToken_46, k_X0_hearToken_49, k_X0_hearToken_50, k_X0_hearToken_51, k_X0_hearToken_52, k_X0_hearToken_55, k_X0_hearToken_56, k_X0_hearToken_57, k_X0_hearToken_60, k_X0_hearToken_63, k_X0_hearToken_64, k_X0_hearToken_67, k_X0_hearToken_68, k_X0_hearToken_69, k_X0_hearToken_70, k_X0_hearToken_71, k_X0_hearToken_74, k_X0_hearToken_75, k_X0_hearToken_76, k_X0_hearToken_79, k_X0_hearToken_82, k_X0_hearToken_83, k_X0_hearToken_86, k_X0_hearToken_87, k_X0_hearToken_88, k_X0_hearToken_89, k_X0_hearToken_90, k_X0_hearToken_93, k_X0_hearToken_94, k_X0_hearToken_95, k_X0_hearToken_98, k_X0_hearToken_101, k_X0_hearToken_102, k_X0_hearToken_105, k_X0_hearToken_106, k_X0_hearToken_107, k_X0_hearToken_108, k_X0_hearToken_109, k_X0_hearToken_112, k_X0_hearToken_113, k_X0_hearToken_114, k_X0_hearToken_117, k_X0_hearToken_120, k_X0_hearToken_121, k_X0_hearToken_124, k_X0_hearToken_125, k_X0_hearToken_126, k_X0_hearToken_127, k_X0_hearToken_128, k_X0_hearToken_131, k_X0_hearToken_132, k_X0_hearToken_133, k_X0_hearToken_136, k_X0_hearToken_137, k_X0_hearToken_140, k_X0_hearToken_141, wp1, wp_s, cutIn, kont, Nat.reduceSub, Nat.reduceAdd, nth, o_const, o_lconst, o_ref, o_iload, o_lload, o_aload, o_istore, o_lstore, o_astore, o_iinc, o_bin, o_div, o_un, o_lbin, o_lsh, o_lcmp, o_i2l, o_l2i, o_if, o_icmp, o_goto, o_dup, o_dup2, o_pop, fav, o_getf, o_putI, o_putZ, o_putL, o_ald, o_ast, o_alen, popn, rst, o_callV, o_callT, o_callS, swx, o_sw, o_ret, o_iret, o_zret, o_cret, o_lret, o_aret, lg, lput, lput2, ls1, isL, entL, wsum, rdI1, rdI2, rdA1, rdA21, rdA22, rdL1, rdL22, rdL21, upN_at, rep, sh_0, F_0_0, F_0_1, F_0_2, F_0_3, F_0_4, F_0_5, F_0_6, F_0_7, F_0_8, sh_1, F_1_0, F_1_1, F_1_2, F_1_3, F_1_4, F_1_5, sh_3, F_3_0, F_3_1, F_3_2, F_3_3, F_3_4, F_3_5, sh_5, F_5_0, F_5_1, F_5_2, F_5_3, F_5_4, F_5_5, F_5_6, F_5_7, F_5_8, sh_12, F_12_0, F_12_1, F_12_2, F_12_3, F_12_4, F_12_5, sh_14, F_14_0, F_14_1, F_14_2, F_14_3, F_14_4, F_14_5, F_14_6, F_14_7, F_14_8, sh_21, F_21_0, F_21_1, F_21_2, F_21_3, F_21_4, F_21_5, F_21_6, F_21_7, F_21_8, sh_28, F_28_0, F_28_1, F_28_2, F_28_3, F_28_4, F_28_5, F_28_6, F_28_7, F_28_8, sh_35, F_35_0, sh_39, F_39_0, F_39_1, F_39_2, F_39_3, F_39_4, F_39_5, F_39_6, F_39_7, F_39_8, F_39_9, F_39_10, F_39_11, F_39_12, F_39_13, A_2, A_4, A_6, A_7, A_8, A_9, A_10, A_11, A_13, A_15, A_16, A_17, A_18, A_19, A_20, A_22, A_23, A_24, A_25, A_26, A_27, A_29, A_30, A_31, A_32, A_33, A_34, A_36, A_37, A_38, A_40, A_41, A_42, A_43, A_44, A_45, A_46, A_47]
      rw [if_pos ⟨e, l1.mpr z⟩] at hs
      refine ⟨fun q => absurd q (by decide), fun _ => ⟨Or.inr rfl, hs _ rfl _ (frD_I (frD_A (frD_A (frD_I (frD_rf M) (by omega) _) (by omega) _) (by omega) _) (by omega) _) ⟨c, p, n + 1, hc, hp, by omega, ?_, ?_, ?_, m12, m13, rfl, fun l hl2 => ?_, fun k2 hk2 => ?_, fun k2 hk2 hk3 => ?_⟩ rfl (fun z => by cases z) (Nat.le_of_ble_eq_true rfl)⟩⟩
      all_goals (dsimp only; rw [e3, nI_clamp (by omega)])
      · rw [upd_n _ _ (by omega), upd_n _ _ (by omega)]; exact e0
      · rw [upd_n _ _ (by omega), upd_n _ _ (by omega)]; exact e1
      · rw [upd_s, nI_1]
      · rw [upd_n _ _ (by omega), upd_n _ _ (by omega)]; exact hl l hl2
      · show upd (M.2.2 9) n v k2 = _ ∧ upd (M.2.2 10) n (-4) k2 = _
        rcases Nat.lt_or_ge k2 n with g | g
        · simp (disch := omega) only [upd_s, upd_n]
          exact hk k2 g
        · have e5 : k2 = n := by omega
          subst e5
          simp (disch := omega) only [upd_s, upd_n]
          exact ⟨trivial, (hz _ (Nat.le_refl _) (by omega)).symm⟩
      · rw [upd_n _ _ (by omega), upd_n _ _ (by omega)]; exact hz k2 (by omega) hk3
    · rw [if_neg (fun z2 => e z2.1)] at hn
      exact hn rfl _ (frD_rf M)
  · -- a lock's row
    have hstp : stp 3 q d k v = if k = 3 ∧ d 0 < 6 then some (1, q, upd (upd d (4 + (d 0).toNatClampNeg) v) 0 (d 0 + 1)) else none := rfl
    rw [hstp] at hn hs
    dsimp only [k_X0_hearToken_0, k_X0_hearToken_1, k_X0_hearToken_4, k_X0_hearToken_44, k_X0_hearToken_45, k_X0_hearToken_46, k_X0_hearToken_49, k_X0_hearToken_50, k_X0_hearToken_51, k_X0_hearToken_52, k_X0_hearToken_55, k_X0_hearToken_56, k_X0_hearToken_57, k_X0_hearToken_60, k_X0_hearToken_63, k_X0_hearToken_64, k_X0_hearToken_67, k_X0_hearToken_68, k_X0_hearToken_69, k_X0_hearToken_70, k_X0_hearToken_71, k_X0_hearToken_74, k_X0_hearToken_75, k_X0_hearToken_76, k_X0_hearToken_79, k_X0_hearToken_82, k_X0_hearToken_83, k_X0_hearToken_86, k_X0_hearToken_87, k_X0_hearToken_88, k_X0_hearToken_89, k_X0_hearToken_90, k_X0_hearToken_93, k_X0_hearToken_94, k_X0_hearToken_95, k_X0_hearToken_98, k_X0_hearToken_101, k_X0_hearToken_102, k_X0_hearToken_105, k_X0_hearToken_106, k_X0_hearToken_107, k_X0_hearToken_108, k_X0_hearToken_109, k_X0_hearToken_112, k_X0_hearToken_113, k_X0_hearToken_114, k_X0_hearToken_117, k_X0_hearToken_120, k_X0_hearToken_121, k_X0_hearToken_124, k_X0_hearToken_125, k_X0_hearToken_126, k_X0_hearToken_127, k_X0_hearToken_128, k_X0_hearToken_131, k_X0_hearToken_132, k_X0_hearToken_133, k_X0_hearToken_136, k_X0_hearToken_137, k_X0_hearToken_140, k_X0_hearToken_141, wp1, wp_s, cutIn, kont, Nat.reduceSub, Nat.reduceAdd, nth, o_const, o_lconst, o_ref, o_iload, o_lload, o_aload, o_istore, o_lstore, o_astore, o_iinc, o_bin, o_div, o_un, o_lbin, o_lsh, o_lcmp, o_i2l, o_l2i, o_if, o_icmp, o_goto, o_dup, o_dup2, o_pop, fav, o_getf, o_putI, o_putZ, o_putL, o_ald, o_ast, o_alen, popn, rst, o_callV, o_callT, o_callS, swx, o_sw, o_ret, o_iret, o_zret, o_cret, o_lret, o_aret, lg, lput, lput2, ls1, isL, entL, wsum, rdI1, rdI2, rdA1, rdA21, rdA22, rdL1, rdL22, rdL21, upN_at, rep, sh_0, F_0_0, F_0_1, F_0_2, F_0_3, F_0_4, F_0_5, F_0_6, F_0_7, F_0_8, sh_1, F_1_0, F_1_1, F_1_2, F_1_3, F_1_4, F_1_5, sh_3, F_3_0, F_3_1, F_3_2, F_3_3, F_3_4, F_3_5, sh_5, F_5_0, F_5_1, F_5_2, F_5_3, F_5_4, F_5_5, F_5_6, F_5_7, F_5_8, sh_12, F_12_0, F_12_1, F_12_2, F_12_3, F_12_4, F_12_5, sh_14, F_14_0, F_14_1, F_14_2, F_14_3, F_14_4, F_14_5, F_14_6, F_14_7, F_14_8, sh_21, F_21_0, F_21_1, F_21_2, F_21_3, F_21_4, F_21_5, F_21_6, F_21_7, F_21_8, sh_28, F_28_0, F_28_1, F_28_2, F_28_3, F_28_4, F_28_5, F_28_6, F_28_7, F_28_8, sh_35, F_35_0, sh_39, F_39_0, F_39_1, F_39_2, F_39_3, F_39_4, F_39_5, F_39_6, F_39_7, F_39_8, F_39_9, F_39_10, F_39_11, F_39_12, F_39_13, A_2, A_4, A_6, A_7, A_8, A_9, A_10, A_11, A_13, A_15, A_16, A_17, A_18, A_19, A_20, A_22, A_23, A_24, A_25, A_26, A_27, A_29, A_30, A_31, A_32, A_33, A_34, A_36, A_37, A_38, A_40, A_41, A_42, A_43, A_44, A_45, A_46, A_47]
    rw [hw]
    refine ⟨fun z => absurd z (by decide), fun _ => ⟨fun z => absurd z (by decide), fun _ => ⟨fun z => absurd z (by decide), fun _ => ⟨fun _ => ?_, fun z => absurd rfl z⟩⟩⟩⟩
    refine ⟨fun e => ⟨v, c, rfl, m12, hc, fun z => ?_, fun z => ?_⟩, fun e => ⟨Or.inl rfl, ?_⟩⟩
    · dsimp only [k_X0_hearToken_0, k_X0_hearToken_1, k_X0_hearToken_4, k_X0_hearToken_44, k_X0_hearToken_45, k_X0_hearToken_46, k_X0_hearToken_49, k_X0_hearToken_50, k_X0_hearToken_51, k_X0_hearToken_52, k_X0_hearToken_55, k_X0_hearToken_56, k_X0_hearToken_57, k_X0_hearToken_60, k_X0_hearToken_63, k_X0_hearToken_64, k_X0_hearToken_67, k_X0_hearToken_68, k_X0_hearToken_69, k_X0_hearToken_70, k_X0_hearToken_71, k_X0_hearToken_74, k_X0_hearToken_75, k_X0_hearToken_76, k_X0_hearToken_79, k_X0_hearToken_82, k_X0_hearToken_83, k_X0_hearToken_86, k_X0_hearToken_87, k_X0_hearToken_88, k_X0_hearToken_89, k_X0_hearToken_90, k_X0_hearToken_93, k_X0_hearToken_94, k_X0_hearToken_95, k_X0_hearToken_98, k_X0_hearToken_101, k_X0_hearToken_102, k_X0_hearToken_105, k_X0_hearToken_106, k_X0_hearToken_107, k_X0_hearToken_108, k_X0_hearToken_109, k_X0_hearToken_112, k_X0_hearToken_113, k_X0_hearToken_114, k_X0_hearToken_117, k_X0_hearToken_120, k_X0_hearToken_121, k_X0_hearToken_124, k_X0_hearToken_125, k_X0_hearToken_126, k_X0_hearToken_127, k_X0_hearToken_128, k_X0_hearToken_131, k_X0_hearToken_132, k_X0_hearToken_133, k_X0_hearToken_136, k_X0_hearToken_137, k_X0_hearToken_140, k_X0_hearToken_141, wp1, wp_s, cutIn, kont, Nat.reduceSub, Nat.reduceAdd, nth, o_const, o_lconst, o_ref, o_iload, o_lload, o_aload, o_istore, o_lstore, o_astore, o_iinc, o_bin, o_div, o_un, o_lbin, o_lsh, o_lcmp, o_i2l, o_l2i, o_if, o_icmp, o_goto, o_dup, o_dup2, o_pop, fav, o_getf, o_putI, o_putZ, o_putL, o_ald, o_ast, o_alen, popn, rst, o_callV, o_callT, o_callS, swx, o_sw, o_ret, o_iret, o_zret, o_cret, o_lret, o_aret, lg, lput, lput2, ls1, isL, entL, wsum, rdI1, rdI2, rdA1, rdA21, rdA22, rdL1, rdL22, rdL21, upN_at, rep, sh_0, F_0_0, F_0_1, F_0_2, F_0_3, F_0_4, F_0_5, F_0_6, F_0_7, F_0_8, sh_1, F_1_0, F_1_1, F_1_2, F_1_3, F_1_4, F_1_5, sh_3, F_3_0, F_3_1, F_3_2, F_3_3, F_3_4, F_3_5, sh_5, F_5_0, F_5_1, F_5_2, F_5_3, F_5_4, F_5_5, F_5_6, F_5_7, F_5_8, sh_12, F_12_0, F_12_1, F_12_2, F_12_3, F_12_4, F_12_5, sh_14, F_14_0, F_14_1, F_14_2, F_14_3, F_14_4, F_14_5, F_14_6, F_14_7, F_14_8, sh_21, F_21_0, F_21_1, F_21_2, F_21_3, F_21_4, F_21_5, F_21_6, F_21_7, F_21_8, sh_28, F_28_0, F_28_1, F_28_2, F_28_3, F_28_4, F_28_5, F_28_6, F_28_7, F_28_8, sh_35, F_35_0, sh_39, F_39_0, F_39_1, F_39_2, F_39_3, F_39_4, F_39_5, F_39_6, F_39_7, F_39_8, F_39_9, F_39_10, F_39_11, F_39_12, F_39_13, A_2, A_4, A_6, A_7, A_8, A_9, A_10, A_11, A_13, A_15, A_16, A_17, A_18, A_19, A_20, A_22, A_23, A_24, A_25, A_26, A_27, A_29, A_30, A_31, A_32, A_33, A_34, A_36, A_37, A_38, A_40, A_41, A_42, A_43, A_44, A_45, A_46, A_47]
      rw [if_neg (fun z2 => absurd (l2.mp z2.2) (by omega))] at hn
      exact ⟨fun _ => ⟨Or.inl rfl, hn rfl _ (frD_I (frD_rf M) (by omega) _)⟩, fun z => absurd rfl z⟩
    · dsimp only [k_X0_hearToken_0, k_X0_hearToken_1, k_X0_hearToken_4, k_X0_hearToken_44, k_X0_hearToken_45, k_X0_hearToken_46, k_X0_hearToken_49, k_X0_hearToken_50, k_X0_hearToken_51, k_X0_hearToken_52, k_X0_hearToken_55, k_X0_hearToken_56, k_X0_hearToken_57, k_X0_hearToken_60, k_X0_hearToken_63, k_X0_hearToken_64, k_X0_hearToken_67, k_X0_hearToken_68, k_X0_hearToken_69, k_X0_hearToken_70, k_X0_hearToken_71, k_X0_hearToken_74, k_X0_hearToken_75, k_X0_hearToken_76, k_X0_hearToken_79, k_X0_hearToken_82, k_X0_hearToken_83, k_X0_hearToken_86, k_X0_hearToken_87, k_X0_hearToken_88, k_X0_hearToken_89, k_X0_hearToken_90, k_X0_hearToken_93, k_X0_hearToken_94, k_X0_hearToken_95, k_X0_hearToken_98, k_X0_hearToken_101, k_X0_hearToken_102, k_X0_hearToken_105, k_X0_hearToken_106, k_X0_hearToken_107, k_X0_hearToken_108, k_X0_hearToken_109, k_X0_hearToken_112, k_X0_hearToken_113, k_X0_hearToken_114, k_X0_hearToken_117, k_X0_hearToken_120, k_X0_hearToken_121, k_X0_hearToken_124, k_X0_hearToken_125, k_X0_hearToken_126, k_X0_hearToken_127, k_X0_hearToken_128, k_X0_hearToken_131, k_X0_hearToken_132, k_X0_hearToken_133, k_X0_hearToken_136, k_X0_hearToken_137, k_X0_hearToken_140, k_X0_hearToken_141, wp1, wp_s, cutIn, kont, Nat.reduceSub, Nat.reduceAdd, nth, o_const, o_lconst, o_ref, o_iload, o_lload, o_aload, o_istore, o_lstore, o_astore, o_iinc, o_bin, o_div, o_un, o_lbin, o_lsh, o_lcmp, o_i2l, o_l2i, o_if, o_icmp, o_goto, o_dup, o_dup2, o_pop, fav, o_getf, o_putI, o_putZ, o_putL, o_ald, o_ast, o_alen, popn, rst, o_callV, o_callT, o_callS, swx, o_sw, o_ret, o_iret, o_zret, o_cret, o_lret, o_aret, lg, lput, lput2, ls1, isL, entL, wsum, rdI1, rdI2, rdA1, rdA21, rdA22, rdL1, rdL22, rdL21, upN_at, rep, sh_0, F_0_0, F_0_1, F_0_2, F_0_3, F_0_4, F_0_5, F_0_6, F_0_7, F_0_8, sh_1, F_1_0, F_1_1, F_1_2, F_1_3, F_1_4, F_1_5, sh_3, F_3_0, F_3_1, F_3_2, F_3_3, F_3_4, F_3_5, sh_5, F_5_0, F_5_1, F_5_2, F_5_3, F_5_4, F_5_5, F_5_6, F_5_7, F_5_8, sh_12, F_12_0, F_12_1, F_12_2, F_12_3, F_12_4, F_12_5, sh_14, F_14_0, F_14_1, F_14_2, F_14_3, F_14_4, F_14_5, F_14_6, F_14_7, F_14_8, sh_21, F_21_0, F_21_1, F_21_2, F_21_3, F_21_4, F_21_5, F_21_6, F_21_7, F_21_8, sh_28, F_28_0, F_28_1, F_28_2, F_28_3, F_28_4, F_28_5, F_28_6, F_28_7, F_28_8, sh_35, F_35_0, sh_39, F_39_0, F_39_1, F_39_2, F_39_3, F_39_4, F_39_5, F_39_6, F_39_7, F_39_8, F_39_9, F_39_10, F_39_11, F_39_12, F_39_13, A_2, A_4, A_6, A_7, A_8, A_9, A_10, A_11, A_13, A_15, A_16, A_17, A_18, A_19, A_20, A_22, A_23, A_24, A_25, A_26, A_27, A_29, A_30, A_31, A_32, A_33, A_34, A_36, A_37, A_38, A_40, A_41, A_42, A_43, A_44, A_45, A_46, A_47]
      rw [if_pos ⟨e, l2.mpr z⟩] at hs
      refine ⟨fun q => absurd q (by decide), fun _ => ⟨Or.inr rfl, hs _ rfl _ (frD_I (frD_A (frD_I (frD_rf M) (by omega) _) (by omega) _) (by omega) _) ⟨c + 1, p, n, by omega, hp, hn8, ?_, ?_, ?_, rfl, m13, m16, fun l hl2 => ?_, fun k2 hk2 => ?_, fun k2 hk2 hk3 => ?_⟩ rfl (fun z => by cases z) (Nat.le_of_ble_eq_true rfl)⟩⟩
      all_goals (dsimp only; rw [e0, nI_clamp (by omega)])
      · rw [upd_s, nI_1]
      · rw [upd_n _ _ (by omega), upd_n _ _ (by omega)]; exact e1
      · rw [upd_n _ _ (by omega), upd_n _ _ (by omega)]; exact e3
      · rw [upd_n _ _ (by omega)]
        show upd (M.2.2 8) c v l = _
        rcases Nat.lt_or_ge l c with g | g
        · rw [upd_n _ _ (by omega), upd_n _ _ (by omega)]
          exact hl l g
        · have e5 : l = c := by omega
          subst e5
          rw [upd_s, upd_s]
      · rw [upd_n _ _ (by omega), upd_n _ _ (by omega), upd_n _ _ (by omega), upd_n _ _ (by omega)]; exact hk k2 hk2
      · rw [upd_n _ _ (by omega), upd_n _ _ (by omega)]; exact hz k2 hk2 hk3
    · rw [if_neg (fun z2 => e z2.1)] at hn
      exact hn rfl _ (frD_rf M)
  · -- whom
    have hstp : stp 4 q d k v = if k = 2 ∧ v < d 1 then some (5, v, d) else none := rfl
    rw [hstp] at hn hs
    dsimp only [k_X0_hearToken_0, k_X0_hearToken_1, k_X0_hearToken_4, k_X0_hearToken_44, k_X0_hearToken_45, k_X0_hearToken_46, k_X0_hearToken_49, k_X0_hearToken_50, k_X0_hearToken_51, k_X0_hearToken_52, k_X0_hearToken_55, k_X0_hearToken_56, k_X0_hearToken_57, k_X0_hearToken_60, k_X0_hearToken_63, k_X0_hearToken_64, k_X0_hearToken_67, k_X0_hearToken_68, k_X0_hearToken_69, k_X0_hearToken_70, k_X0_hearToken_71, k_X0_hearToken_74, k_X0_hearToken_75, k_X0_hearToken_76, k_X0_hearToken_79, k_X0_hearToken_82, k_X0_hearToken_83, k_X0_hearToken_86, k_X0_hearToken_87, k_X0_hearToken_88, k_X0_hearToken_89, k_X0_hearToken_90, k_X0_hearToken_93, k_X0_hearToken_94, k_X0_hearToken_95, k_X0_hearToken_98, k_X0_hearToken_101, k_X0_hearToken_102, k_X0_hearToken_105, k_X0_hearToken_106, k_X0_hearToken_107, k_X0_hearToken_108, k_X0_hearToken_109, k_X0_hearToken_112, k_X0_hearToken_113, k_X0_hearToken_114, k_X0_hearToken_117, k_X0_hearToken_120, k_X0_hearToken_121, k_X0_hearToken_124, k_X0_hearToken_125, k_X0_hearToken_126, k_X0_hearToken_127, k_X0_hearToken_128, k_X0_hearToken_131, k_X0_hearToken_132, k_X0_hearToken_133, k_X0_hearToken_136, k_X0_hearToken_137, k_X0_hearToken_140, k_X0_hearToken_141, wp1, wp_s, cutIn, kont, Nat.reduceSub, Nat.reduceAdd, nth, o_const, o_lconst, o_ref, o_iload, o_lload, o_aload, o_istore, o_lstore, o_astore, o_iinc, o_bin, o_div, o_un, o_lbin, o_lsh, o_lcmp, o_i2l, o_l2i, o_if, o_icmp, o_goto, o_dup, o_dup2, o_pop, fav, o_getf, o_putI, o_putZ, o_putL, o_ald, o_ast, o_alen, popn, rst, o_callV, o_callT, o_callS, swx, o_sw, o_ret, o_iret, o_zret, o_cret, o_lret, o_aret, lg, lput, lput2, ls1, isL, entL, wsum, rdI1, rdI2, rdA1, rdA21, rdA22, rdL1, rdL22, rdL21, upN_at, rep, sh_0, F_0_0, F_0_1, F_0_2, F_0_3, F_0_4, F_0_5, F_0_6, F_0_7, F_0_8, sh_1, F_1_0, F_1_1, F_1_2, F_1_3, F_1_4, F_1_5, sh_3, F_3_0, F_3_1, F_3_2, F_3_3, F_3_4, F_3_5, sh_5, F_5_0, F_5_1, F_5_2, F_5_3, F_5_4, F_5_5, F_5_6, F_5_7, F_5_8, sh_12, F_12_0, F_12_1, F_12_2, F_12_3, F_12_4, F_12_5, sh_14, F_14_0, F_14_1, F_14_2, F_14_3, F_14_4, F_14_5, F_14_6, F_14_7, F_14_8, sh_21, F_21_0, F_21_1, F_21_2, F_21_3, F_21_4, F_21_5, F_21_6, F_21_7, F_21_8, sh_28, F_28_0, F_28_1, F_28_2, F_28_3, F_28_4, F_28_5, F_28_6, F_28_7, F_28_8, sh_35, F_35_0, sh_39, F_39_0, F_39_1, F_39_2, F_39_3, F_39_4, F_39_5, F_39_6, F_39_7, F_39_8, F_39_9, F_39_10, F_39_11, F_39_12, F_39_13, A_2, A_4, A_6, A_7, A_8, A_9, A_10, A_11, A_13, A_15, A_16, A_17, A_18, A_19, A_20, A_22, A_23, A_24, A_25, A_26, A_27, A_29, A_30, A_31, A_32, A_33, A_34, A_36, A_37, A_38, A_40, A_41, A_42, A_43, A_44, A_45, A_46, A_47]
    rw [hw]
    refine ⟨fun z => absurd z (by decide), fun _ => ⟨fun z => absurd z (by decide), fun _ => ⟨fun z => absurd z (by decide), fun _ => ⟨fun z => absurd z (by decide), fun _ => ⟨fun _ => ?_, fun z => absurd rfl z⟩⟩⟩⟩⟩
    refine ⟨fun e => ?_, fun e => ⟨Or.inl rfl, ?_⟩⟩
    · obtain ⟨j, hj, rfl⟩ := hv e
      refine ⟨nI j, rfl, fun z => ?_, fun z => ?_⟩
      · dsimp only [k_X0_hearToken_0, k_X0_hearToken_1, k_X0_hearToken_4, k_X0_hearToken_44, k_X0_hearToken_45, k_X0_hearToken_46, k_X0_hearToken_49, k_X0_hearToken_50, k_X0_hearToken_51, k_X0_hearToken_52, k_X0_hearToken_55, k_X0_hearToken_56, k_X0_hearToken_57, k_X0_hearToken_60, k_X0_hearToken_63, k_X0_hearToken_64, k_X0_hearToken_67, k_X0_hearToken_68, k_X0_hearToken_69, k_X0_hearToken_70, k_X0_hearToken_71, k_X0_hearToken_74, k_X0_hearToken_75, k_X0_hearToken_76, k_X0_hearToken_79, k_X0_hearToken_82, k_X0_hearToken_83, k_X0_hearToken_86, k_X0_hearToken_87, k_X0_hearToken_88, k_X0_hearToken_89, k_X0_hearToken_90, k_X0_hearToken_93, k_X0_hearToken_94, k_X0_hearToken_95, k_X0_hearToken_98, k_X0_hearToken_101, k_X0_hearToken_102, k_X0_hearToken_105, k_X0_hearToken_106, k_X0_hearToken_107, k_X0_hearToken_108, k_X0_hearToken_109, k_X0_hearToken_112, k_X0_hearToken_113, k_X0_hearToken_114, k_X0_hearToken_117, k_X0_hearToken_120, k_X0_hearToken_121, k_X0_hearToken_124, k_X0_hearToken_125, k_X0_hearToken_126, k_X0_hearToken_127, k_X0_hearToken_128, k_X0_hearToken_131, k_X0_hearToken_132, k_X0_hearToken_133, k_X0_hearToken_136, k_X0_hearToken_137, k_X0_hearToken_140, k_X0_hearToken_141, wp1, wp_s, cutIn, kont, Nat.reduceSub, Nat.reduceAdd, nth, o_const, o_lconst, o_ref, o_iload, o_lload, o_aload, o_istore, o_lstore, o_astore, o_iinc, o_bin, o_div, o_un, o_lbin, o_lsh, o_lcmp, o_i2l, o_l2i, o_if, o_icmp, o_goto, o_dup, o_dup2, o_pop, fav, o_getf, o_putI, o_putZ, o_putL, o_ald, o_ast, o_alen, popn, rst, o_callV, o_callT, o_callS, swx, o_sw, o_ret, o_iret, o_zret, o_cret, o_lret, o_aret, lg, lput, lput2, ls1, isL, entL, wsum, rdI1, rdI2, rdA1, rdA21, rdA22, rdL1, rdL22, rdL21, upN_at, rep, sh_0, F_0_0, F_0_1, F_0_2, F_0_3, F_0_4, F_0_5, F_0_6, F_0_7, F_0_8, sh_1, F_1_0, F_1_1, F_1_2, F_1_3, F_1_4, F_1_5, sh_3, F_3_0, F_3_1, F_3_2, F_3_3, F_3_4, F_3_5, sh_5, F_5_0, F_5_1, F_5_2, F_5_3, F_5_4, F_5_5, F_5_6, F_5_7, F_5_8, sh_12, F_12_0, F_12_1, F_12_2, F_12_3, F_12_4, F_12_5, sh_14, F_14_0, F_14_1, F_14_2, F_14_3, F_14_4, F_14_5, F_14_6, F_14_7, F_14_8, sh_21, F_21_0, F_21_1, F_21_2, F_21_3, F_21_4, F_21_5, F_21_6, F_21_7, F_21_8, sh_28, F_28_0, F_28_1, F_28_2, F_28_3, F_28_4, F_28_5, F_28_6, F_28_7, F_28_8, sh_35, F_35_0, sh_39, F_39_0, F_39_1, F_39_2, F_39_3, F_39_4, F_39_5, F_39_6, F_39_7, F_39_8, F_39_9, F_39_10, F_39_11, F_39_12, F_39_13, A_2, A_4, A_6, A_7, A_8, A_9, A_10, A_11, A_13, A_15, A_16, A_17, A_18, A_19, A_20, A_22, A_23, A_24, A_25, A_26, A_27, A_29, A_30, A_31, A_32, A_33, A_34, A_36, A_37, A_38, A_40, A_41, A_42, A_43, A_44, A_45, A_46, A_47]
        rw [if_pos ⟨e, by rw [e1, ← m13]; exact z.2⟩] at hs
        exact ⟨fun q => absurd q (by decide), fun _ => ⟨Or.inr rfl, hs _ rfl _ (frD_I (frD_I (frD_rf M) (by omega) _) (by omega) _) (DR_of hD0 rfl rfl rfl rfl rfl rfl) rfl (fun _ => rfl) (Nat.le_of_ble_eq_true rfl)⟩⟩
      · dsimp only [k_X0_hearToken_0, k_X0_hearToken_1, k_X0_hearToken_4, k_X0_hearToken_44, k_X0_hearToken_45, k_X0_hearToken_46, k_X0_hearToken_49, k_X0_hearToken_50, k_X0_hearToken_51, k_X0_hearToken_52, k_X0_hearToken_55, k_X0_hearToken_56, k_X0_hearToken_57, k_X0_hearToken_60, k_X0_hearToken_63, k_X0_hearToken_64, k_X0_hearToken_67, k_X0_hearToken_68, k_X0_hearToken_69, k_X0_hearToken_70, k_X0_hearToken_71, k_X0_hearToken_74, k_X0_hearToken_75, k_X0_hearToken_76, k_X0_hearToken_79, k_X0_hearToken_82, k_X0_hearToken_83, k_X0_hearToken_86, k_X0_hearToken_87, k_X0_hearToken_88, k_X0_hearToken_89, k_X0_hearToken_90, k_X0_hearToken_93, k_X0_hearToken_94, k_X0_hearToken_95, k_X0_hearToken_98, k_X0_hearToken_101, k_X0_hearToken_102, k_X0_hearToken_105, k_X0_hearToken_106, k_X0_hearToken_107, k_X0_hearToken_108, k_X0_hearToken_109, k_X0_hearToken_112, k_X0_hearToken_113, k_X0_hearToken_114, k_X0_hearToken_117, k_X0_hearToken_120, k_X0_hearToken_121, k_X0_hearToken_124, k_X0_hearToken_125, k_X0_hearToken_126, k_X0_hearToken_127, k_X0_hearToken_128, k_X0_hearToken_131, k_X0_hearToken_132, k_X0_hearToken_133, k_X0_hearToken_136, k_X0_hearToken_137, k_X0_hearToken_140, k_X0_hearToken_141, wp1, wp_s, cutIn, kont, Nat.reduceSub, Nat.reduceAdd, nth, o_const, o_lconst, o_ref, o_iload, o_lload, o_aload, o_istore, o_lstore, o_astore, o_iinc, o_bin, o_div, o_un, o_lbin, o_lsh, o_lcmp, o_i2l, o_l2i, o_if, o_icmp, o_goto, o_dup, o_dup2, o_pop, fav, o_getf, o_putI, o_putZ, o_putL, o_ald, o_ast, o_alen, popn, rst, o_callV, o_callT, o_callS, swx, o_sw, o_ret, o_iret, o_zret, o_cret, o_lret, o_aret, lg, lput, lput2, ls1, isL, entL, wsum, rdI1, rdI2, rdA1, rdA21, rdA22, rdL1, rdL22, rdL21, upN_at, rep, sh_0, F_0_0, F_0_1, F_0_2, F_0_3, F_0_4, F_0_5, F_0_6, F_0_7, F_0_8, sh_1, F_1_0, F_1_1, F_1_2, F_1_3, F_1_4, F_1_5, sh_3, F_3_0, F_3_1, F_3_2, F_3_3, F_3_4, F_3_5, sh_5, F_5_0, F_5_1, F_5_2, F_5_3, F_5_4, F_5_5, F_5_6, F_5_7, F_5_8, sh_12, F_12_0, F_12_1, F_12_2, F_12_3, F_12_4, F_12_5, sh_14, F_14_0, F_14_1, F_14_2, F_14_3, F_14_4, F_14_5, F_14_6, F_14_7, F_14_8, sh_21, F_21_0, F_21_1, F_21_2, F_21_3, F_21_4, F_21_5, F_21_6, F_21_7, F_21_8, sh_28, F_28_0, F_28_1, F_28_2, F_28_3, F_28_4, F_28_5, F_28_6, F_28_7, F_28_8, sh_35, F_35_0, sh_39, F_39_0, F_39_1, F_39_2, F_39_3, F_39_4, F_39_5, F_39_6, F_39_7, F_39_8, F_39_9, F_39_10, F_39_11, F_39_12, F_39_13, A_2, A_4, A_6, A_7, A_8, A_9, A_10, A_11, A_13, A_15, A_16, A_17, A_18, A_19, A_20, A_22, A_23, A_24, A_25, A_26, A_27, A_29, A_30, A_31, A_32, A_33, A_34, A_36, A_37, A_38, A_40, A_41, A_42, A_43, A_44, A_45, A_46, A_47]
        rw [if_neg (fun z2 => z ⟨nI_pos' (by omega), by rw [m13, ← e1]; exact z2.2⟩)] at hn
        exact ⟨fun _ => ⟨Or.inl rfl, hn rfl _ (frD_I (frD_I (frD_rf M) (by omega) _) (by omega) _)⟩, fun z => absurd rfl z⟩
    · rw [if_neg (fun z2 => e z2.1)] at hn
      exact hn rfl _ (frD_rf M)
  · -- which key
    have hq := hq rfl
    have hstp : stp 5 q d k v = if k = 2 ∧ v < d 3 ∧ d (18 + v.toNatClampNeg) = -4 then some (1, q, upd d (18 + v.toNatClampNeg) q) else none := rfl
    rw [hstp] at hn hs
    dsimp only [k_X0_hearToken_0, k_X0_hearToken_1, k_X0_hearToken_4, k_X0_hearToken_44, k_X0_hearToken_45, k_X0_hearToken_46, k_X0_hearToken_49, k_X0_hearToken_50, k_X0_hearToken_51, k_X0_hearToken_52, k_X0_hearToken_55, k_X0_hearToken_56, k_X0_hearToken_57, k_X0_hearToken_60, k_X0_hearToken_63, k_X0_hearToken_64, k_X0_hearToken_67, k_X0_hearToken_68, k_X0_hearToken_69, k_X0_hearToken_70, k_X0_hearToken_71, k_X0_hearToken_74, k_X0_hearToken_75, k_X0_hearToken_76, k_X0_hearToken_79, k_X0_hearToken_82, k_X0_hearToken_83, k_X0_hearToken_86, k_X0_hearToken_87, k_X0_hearToken_88, k_X0_hearToken_89, k_X0_hearToken_90, k_X0_hearToken_93, k_X0_hearToken_94, k_X0_hearToken_95, k_X0_hearToken_98, k_X0_hearToken_101, k_X0_hearToken_102, k_X0_hearToken_105, k_X0_hearToken_106, k_X0_hearToken_107, k_X0_hearToken_108, k_X0_hearToken_109, k_X0_hearToken_112, k_X0_hearToken_113, k_X0_hearToken_114, k_X0_hearToken_117, k_X0_hearToken_120, k_X0_hearToken_121, k_X0_hearToken_124, k_X0_hearToken_125, k_X0_hearToken_126, k_X0_hearToken_127, k_X0_hearToken_128, k_X0_hearToken_131, k_X0_hearToken_132, k_X0_hearToken_133, k_X0_hearToken_136, k_X0_hearToken_137, k_X0_hearToken_140, k_X0_hearToken_141, wp1, wp_s, cutIn, kont, Nat.reduceSub, Nat.reduceAdd, nth, o_const, o_lconst, o_ref, o_iload, o_lload, o_aload, o_istore, o_lstore, o_astore, o_iinc, o_bin, o_div, o_un, o_lbin, o_lsh, o_lcmp, o_i2l, o_l2i, o_if, o_icmp, o_goto, o_dup, o_dup2, o_pop, fav, o_getf, o_putI, o_putZ, o_putL, o_ald, o_ast, o_alen, popn, rst, o_callV, o_callT, o_callS, swx, o_sw, o_ret, o_iret, o_zret, o_cret, o_lret, o_aret, lg, lput, lput2, ls1, isL, entL, wsum, rdI1, rdI2, rdA1, rdA21, rdA22, rdL1, rdL22, rdL21, upN_at, rep, sh_0, F_0_0, F_0_1, F_0_2, F_0_3, F_0_4, F_0_5, F_0_6, F_0_7, F_0_8, sh_1, F_1_0, F_1_1, F_1_2, F_1_3, F_1_4, F_1_5, sh_3, F_3_0, F_3_1, F_3_2, F_3_3, F_3_4, F_3_5, sh_5, F_5_0, F_5_1, F_5_2, F_5_3, F_5_4, F_5_5, F_5_6, F_5_7, F_5_8, sh_12, F_12_0, F_12_1, F_12_2, F_12_3, F_12_4, F_12_5, sh_14, F_14_0, F_14_1, F_14_2, F_14_3, F_14_4, F_14_5, F_14_6, F_14_7, F_14_8, sh_21, F_21_0, F_21_1, F_21_2, F_21_3, F_21_4, F_21_5, F_21_6, F_21_7, F_21_8, sh_28, F_28_0, F_28_1, F_28_2, F_28_3, F_28_4, F_28_5, F_28_6, F_28_7, F_28_8, sh_35, F_35_0, sh_39, F_39_0, F_39_1, F_39_2, F_39_3, F_39_4, F_39_5, F_39_6, F_39_7, F_39_8, F_39_9, F_39_10, F_39_11, F_39_12, F_39_13, A_2, A_4, A_6, A_7, A_8, A_9, A_10, A_11, A_13, A_15, A_16, A_17, A_18, A_19, A_20, A_22, A_23, A_24, A_25, A_26, A_27, A_29, A_30, A_31, A_32, A_33, A_34, A_36, A_37, A_38, A_40, A_41, A_42, A_43, A_44, A_45, A_46, A_47]
    rw [hw]
    refine ⟨fun z => absurd z (by decide), fun _ => ⟨fun z => absurd z (by decide), fun _ => ⟨fun z => absurd z (by decide), fun _ => ⟨fun z => absurd z (by decide), fun _ => ⟨fun z => absurd z (by decide), fun _ => ⟨fun _ => ?_, fun z => absurd rfl z⟩⟩⟩⟩⟩⟩
    refine ⟨fun e => ?_, fun e => ⟨Or.inl rfl, ?_⟩⟩
    · obtain ⟨j, hj, rfl⟩ := hv e
      rw [nI_clamp (by omega)] at hn hs
      have l5 : nI j < d 3 ↔ j < n := by rw [e3]; exact nI_ltI (by omega) (by omega)
      refine ⟨j, n, rfl, hj, m16, hn8, fun z z2 => ?_, fun z => ?_⟩
      · dsimp only [k_X0_hearToken_0, k_X0_hearToken_1, k_X0_hearToken_4, k_X0_hearToken_44, k_X0_hearToken_45, k_X0_hearToken_46, k_X0_hearToken_49, k_X0_hearToken_50, k_X0_hearToken_51, k_X0_hearToken_52, k_X0_hearToken_55, k_X0_hearToken_56, k_X0_hearToken_57, k_X0_hearToken_60, k_X0_hearToken_63, k_X0_hearToken_64, k_X0_hearToken_67, k_X0_hearToken_68, k_X0_hearToken_69, k_X0_hearToken_70, k_X0_hearToken_71, k_X0_hearToken_74, k_X0_hearToken_75, k_X0_hearToken_76, k_X0_hearToken_79, k_X0_hearToken_82, k_X0_hearToken_83, k_X0_hearToken_86, k_X0_hearToken_87, k_X0_hearToken_88, k_X0_hearToken_89, k_X0_hearToken_90, k_X0_hearToken_93, k_X0_hearToken_94, k_X0_hearToken_95, k_X0_hearToken_98, k_X0_hearToken_101, k_X0_hearToken_102, k_X0_hearToken_105, k_X0_hearToken_106, k_X0_hearToken_107, k_X0_hearToken_108, k_X0_hearToken_109, k_X0_hearToken_112, k_X0_hearToken_113, k_X0_hearToken_114, k_X0_hearToken_117, k_X0_hearToken_120, k_X0_hearToken_121, k_X0_hearToken_124, k_X0_hearToken_125, k_X0_hearToken_126, k_X0_hearToken_127, k_X0_hearToken_128, k_X0_hearToken_131, k_X0_hearToken_132, k_X0_hearToken_133, k_X0_hearToken_136, k_X0_hearToken_137, k_X0_hearToken_140, k_X0_hearToken_141, wp1, wp_s, cutIn, kont, Nat.reduceSub, Nat.reduceAdd, nth, o_const, o_lconst, o_ref, o_iload, o_lload, o_aload, o_istore, o_lstore, o_astore, o_iinc, o_bin, o_div, o_un, o_lbin, o_lsh, o_lcmp, o_i2l, o_l2i, o_if, o_icmp, o_goto, o_dup, o_dup2, o_pop, fav, o_getf, o_putI, o_putZ, o_putL, o_ald, o_ast, o_alen, popn, rst, o_callV, o_callT, o_callS, swx, o_sw, o_ret, o_iret, o_zret, o_cret, o_lret, o_aret, lg, lput, lput2, ls1, isL, entL, wsum, rdI1, rdI2, rdA1, rdA21, rdA22, rdL1, rdL22, rdL21, upN_at, rep, sh_0, F_0_0, F_0_1, F_0_2, F_0_3, F_0_4, F_0_5, F_0_6, F_0_7, F_0_8, sh_1, F_1_0, F_1_1, F_1_2, F_1_3, F_1_4, F_1_5, sh_3, F_3_0, F_3_1, F_3_2, F_3_3, F_3_4, F_3_5, sh_5, F_5_0, F_5_1, F_5_2, F_5_3, F_5_4, F_5_5, F_5_6, F_5_7, F_5_8, sh_12, F_12_0, F_12_1, F_12_2, F_12_3, F_12_4, F_12_5, sh_14, F_14_0, F_14_1, F_14_2, F_14_3, F_14_4, F_14_5, F_14_6, F_14_7, F_14_8, sh_21, F_21_0, F_21_1, F_21_2, F_21_3, F_21_4, F_21_5, F_21_6, F_21_7, F_21_8, sh_28, F_28_0, F_28_1, F_28_2, F_28_3, F_28_4, F_28_5, F_28_6, F_28_7, F_28_8, sh_35, F_35_0, sh_39, F_39_0, F_39_1, F_39_2, F_39_3, F_39_4, F_39_5, F_39_6, F_39_7, F_39_8, F_39_9, F_39_10, F_39_11, F_39_12, F_39_13, A_2, A_4, A_6, A_7, A_8, A_9, A_10, A_11, A_13, A_15, A_16, A_17, A_18, A_19, A_20, A_22, A_23, A_24, A_25, A_26, A_27, A_29, A_30, A_31, A_32, A_33, A_34, A_36, A_37, A_38, A_40, A_41, A_42, A_43, A_44, A_45, A_46, A_47]
        rw [if_pos ⟨e, l5.mpr z, by rw [← (hk j z).2]; exact z2⟩] at hs
        refine ⟨fun q => absurd q (by decide), fun _ => ⟨Or.inr rfl, hs _ rfl _ (frD_A (frD_I (frD_rf M) (by omega) _) (by omega) _) ⟨c, p, n, hc, hp, hn8, ?_, ?_, ?_, m12, m13, m16, fun l hl2 => ?_, fun k2 hk2 => ?_, fun k2 hk2 hk3 => ?_⟩ rfl (fun z => by cases z) (Nat.le_of_ble_eq_true rfl)⟩⟩
        all_goals dsimp only
        · rw [upd_n _ _ (by omega)]; exact e0
        · rw [upd_n _ _ (by omega)]; exact e1
        · rw [upd_n _ _ (by omega)]; exact e3
        · rw [upd_n _ _ (by omega)]; exact hl l hl2
        · rw [upd_n _ _ (by omega)]
          show M.2.2 9 k2 = _ ∧ upd (M.2.2 10) j (M.1 15) k2 = _
          rw [hq]
          by_cases g : k2 = j
          · subst g
            rw [upd_s, upd_s]
            exact ⟨(hk _ hk2).1, rfl⟩
          · rw [upd_n _ _ g, upd_n _ _ (by omega)]
            exact hk k2 hk2
        · rw [upd_n _ _ (by omega)]; exact hz k2 hk2 hk3
      · dsimp only [k_X0_hearToken_0, k_X0_hearToken_1, k_X0_hearToken_4, k_X0_hearToken_44, k_X0_hearToken_45, k_X0_hearToken_46, k_X0_hearToken_49, k_X0_hearToken_50, k_X0_hearToken_51, k_X0_hearToken_52, k_X0_hearToken_55, k_X0_hearToken_56, k_X0_hearToken_57, k_X0_hearToken_60, k_X0_hearToken_63, k_X0_hearToken_64, k_X0_hearToken_67, k_X0_hearToken_68, k_X0_hearToken_69, k_X0_hearToken_70, k_X0_hearToken_71, k_X0_hearToken_74, k_X0_hearToken_75, k_X0_hearToken_76, k_X0_hearToken_79, k_X0_hearToken_82, k_X0_hearToken_83, k_X0_hearToken_86, k_X0_hearToken_87, k_X0_hearToken_88, k_X0_hearToken_89, k_X0_hearToken_90, k_X0_hearToken_93, k_X0_hearToken_94, k_X0_hearToken_95, k_X0_hearToken_98, k_X0_hearToken_101, k_X0_hearToken_102, k_X0_hearToken_105, k_X0_hearToken_106, k_X0_hearToken_107, k_X0_hearToken_108, k_X0_hearToken_109, k_X0_hearToken_112, k_X0_hearToken_113, k_X0_hearToken_114, k_X0_hearToken_117, k_X0_hearToken_120, k_X0_hearToken_121, k_X0_hearToken_124, k_X0_hearToken_125, k_X0_hearToken_126, k_X0_hearToken_127, k_X0_hearToken_128, k_X0_hearToken_131, k_X0_hearToken_132, k_X0_hearToken_133, k_X0_hearToken_136, k_X0_hearToken_137, k_X0_hearToken_140, k_X0_hearToken_141, wp1, wp_s, cutIn, kont, Nat.reduceSub, Nat.reduceAdd, nth, o_const, o_lconst, o_ref, o_iload, o_lload, o_aload, o_istore, o_lstore, o_astore, o_iinc, o_bin, o_div, o_un, o_lbin, o_lsh, o_lcmp, o_i2l, o_l2i, o_if, o_icmp, o_goto, o_dup, o_dup2, o_pop, fav, o_getf, o_putI, o_putZ, o_putL, o_ald, o_ast, o_alen, popn, rst, o_callV, o_callT, o_callS, swx, o_sw, o_ret, o_iret, o_zret, o_cret, o_lret, o_aret, lg, lput, lput2, ls1, isL, entL, wsum, rdI1, rdI2, rdA1, rdA21, rdA22, rdL1, rdL22, rdL21, upN_at, rep, sh_0, F_0_0, F_0_1, F_0_2, F_0_3, F_0_4, F_0_5, F_0_6, F_0_7, F_0_8, sh_1, F_1_0, F_1_1, F_1_2, F_1_3, F_1_4, F_1_5, sh_3, F_3_0, F_3_1, F_3_2, F_3_3, F_3_4, F_3_5, sh_5, F_5_0, F_5_1, F_5_2, F_5_3, F_5_4, F_5_5, F_5_6, F_5_7, F_5_8, sh_12, F_12_0, F_12_1, F_12_2, F_12_3, F_12_4, F_12_5, sh_14, F_14_0, F_14_1, F_14_2, F_14_3, F_14_4, F_14_5, F_14_6, F_14_7, F_14_8, sh_21, F_21_0, F_21_1, F_21_2, F_21_3, F_21_4, F_21_5, F_21_6, F_21_7, F_21_8, sh_28, F_28_0, F_28_1, F_28_2, F_28_3, F_28_4, F_28_5, F_28_6, F_28_7, F_28_8, sh_35, F_35_0, sh_39, F_39_0, F_39_1, F_39_2, F_39_3, F_39_4, F_39_5, F_39_6, F_39_7, F_39_8, F_39_9, F_39_10, F_39_11, F_39_12, F_39_13, A_2, A_4, A_6, A_7, A_8, A_9, A_10, A_11, A_13, A_15, A_16, A_17, A_18, A_19, A_20, A_22, A_23, A_24, A_25, A_26, A_27, A_29, A_30, A_31, A_32, A_33, A_34, A_36, A_37, A_38, A_40, A_41, A_42, A_43, A_44, A_45, A_46, A_47]
        rw [if_neg (fun z2 => z ⟨l5.mp z2.2.1, by rw [(hk j (l5.mp z2.2.1)).2]; exact z2.2.2⟩)] at hn
        exact ⟨fun _ => ⟨Or.inl rfl, hn rfl _ (frD_I (frD_rf M) (by omega) _)⟩, fun z => absurd rfl z⟩
    · rw [if_neg (fun z2 => e z2.1)] at hn
      exact hn rfl _ (frD_rf M)
theorem c_X0_hearToken : Ctr yX0_hearToken cX0_hearToken 3 (some .boolean) ({ frames := 2, cells := 0, slots := 0, locals := 42 } : Room) S_X0_hearToken := ctr_of (T := T_X0_hearToken) (by decide +kernel) (fun post C hr => t_X0_hearToken post C hr) v_X0_hearToken
