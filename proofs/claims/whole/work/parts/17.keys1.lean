/-! The class's helpers. -/
/-- the state at hand: n keys of rows r, who has them h; c locks of rows k; p people -/
def XW (M : AM) (n c p : Nat) (r : Nat → Nat) (h : Nat → Int32) (lk : Nat → Nat) : Prop :=
  M.1 9 = nI n ∧ n ≤ 8 ∧ M.1 5 = nI c ∧ c ≤ 6 ∧ M.1 6 = nI p ∧ p ≤ 4 ∧ (∀ k, k < n → M.2.2 2 k = nI (r k) ∧ r k < 512) ∧ (∀ k, k < n → M.2.2 3 k = h k) ∧ ∀ l, l < c → M.2.2 1 l = nI (lk l) ∧ lk l < 512
theorem XW_of {M M' : AM} {n c p : Nat} {r : Nat → Nat} {h : Nat → Int32} {lk : Nat → Nat} (hX : XW M n c p r h lk) (e9 : M'.1 9 = M.1 9) (e5 : M'.1 5 = M.1 5) (e6 : M'.1 6 = M.1 6) (a2 : M'.2.2 2 = M.2.2 2) (a3 : M'.2.2 3 = M.2.2 3) (a1 : M'.2.2 1 = M.2.2 1) : XW M' n c p r h lk := by
  unfold XW at hX ⊢
  rw [e9, e5, e6, a1, a2, a3]
  exact hX
theorem XW_27 {M : AM} {n c p : Nat} {r : Nat → Nat} {h : Nat → Int32} {lk : Nat → Nat} (hX : XW M n c p r h lk) (f : Nat → Int32) : XW (sA 27 f M) n c p r h lk := XW_of hX rfl rfl rfl rfl rfl rfl
theorem i_nat (x : Int32) : ∃ m : Nat, m < 2 ^ 32 ∧ x = nI m := ⟨x.toBitVec.toNat, x.toBitVec.isLt, i_eq (by rw [nI_bv, BitVec.ofNat_toNat, BitVec.setWidth_eq])⟩
theorem nI_inj {a b : Nat} (ha : a < 2 ^ 32) (hb : b < 2 ^ 32) (h : nI a = nI b) : a = b := by
  have h1 := congrArg (fun x : Int32 => x.toBitVec.toNat) h
  simp only [nI_bv, BitVec.toNat_ofNat] at h1
  rwa [Nat.mod_eq_of_lt ha, Nat.mod_eq_of_lt hb] at h1
/-- x is a set within a -/
def In (x : Int32) (a : Nat) : Prop := ∃ b : Nat, x = nI b ∧ b &&& a = b
theorem sub_iff {m a : Nat} (hm : m < 2 ^ 32) : m &&& (a ^^^ (2 ^ 32 - 1)) = 0 ↔ m &&& a = m := by
  constructor
  · intro h
    refine Nat.eq_of_testBit_eq fun k => ?_
    have h1 := congrArg (fun z => z.testBit k) h
    simp only [Nat.testBit_and, Nat.testBit_xor, Nat.testBit_two_pow_sub_one, Nat.zero_testBit] at h1
    rw [Nat.testBit_and]
    by_cases hk : k < 32
    · simp only [hk, decide_true] at h1
      revert h1
      cases m.testBit k <;> cases a.testBit k <;> simp
    · rw [Nat.testBit_lt_two_pow (Nat.lt_of_lt_of_le hm (Nat.pow_le_pow_right (by omega) (by omega)))]
      rfl
  · intro h
    refine Nat.eq_of_testBit_eq fun k => ?_
    have h1 := congrArg (fun z => z.testBit k) h
    simp only [Nat.testBit_and] at h1
    rw [Nat.testBit_and, Nat.testBit_xor, Nat.testBit_two_pow_sub_one, Nat.zero_testBit]
    by_cases hk : k < 32
    · simp only [hk, decide_true]
      revert h1
      cases m.testBit k <;> cases a.testBit k <;> simp
    · rw [Nat.testBit_lt_two_pow (Nat.lt_of_lt_of_le hm (Nat.pow_le_pow_right (by omega) (by omega)))]
      rfl
theorem and_lt {m a k : Nat} (hm : m < 2 ^ k) : m &&& a < 2 ^ k := Nat.lt_of_le_of_lt Nat.and_le_left hm
theorem In_iff (x : Int32) {a : Nat} : x &&& (nI a ^^^ -1) = 0 ↔ In x a := by
  obtain ⟨m, hm, rfl⟩ := i_nat x
  rw [show (-1 : Int32) = nI (2 ^ 32 - 1) from rfl, nI_xor, nI_and, show (0 : Int32) = nI 0 from rfl]
  constructor
  · intro h
    exact ⟨m, rfl, (sub_iff hm).mp (nI_inj (and_lt hm) (by omega) h)⟩
  · rintro ⟨b, hb, hba⟩
    have hb2 : m = b % 2 ^ 32 := by
      have h1 := congrArg (fun x : Int32 => x.toBitVec.toNat) hb
      simp only [nI_bv, BitVec.toNat_ofNat] at h1
      rwa [Nat.mod_eq_of_lt hm] at h1
    have h2 : m &&& a = m := by
      refine Nat.eq_of_testBit_eq fun k => ?_
      have h1 := congrArg (fun z => z.testBit k) hba
      simp only [Nat.testBit_and] at h1
      rw [Nat.testBit_and, hb2, Nat.testBit_mod_two_pow]
      revert h1
      cases b.testBit k <;> cases a.testBit k <;> simp
    rw [(sub_iff hm).mpr h2]
theorem In_nI {b a : Nat} (hb : b < 2 ^ 32) (ha : a < 2 ^ 32) : In (nI b) a ↔ b &&& a = b := by
  rw [← In_iff, show (-1 : Int32) = nI (2 ^ 32 - 1) from rfl, nI_xor, nI_and, show (0 : Int32) = nI 0 from rfl]
  constructor
  · intro h
    exact (sub_iff hb).mp (nI_inj (and_lt hb) (by omega) h)
  · intro h
    rw [(sub_iff hb).mpr h]
def S_X4_isRow : SP := fun as M post => ∃ x, as = [VI x] ∧ pz (0 ≤ x ∧ x < 512) post M
def S_X4_isEither : SP := fun as M post => ∃ x, as = [VI x] ∧ pz (x = 0 ∨ x = 1) post M
def S_X4_within : SP := fun as M post => ∃ x a, as = [VI x, VI (nI a)] ∧ pz (In x a) post M
def S_X4_imageAt : SP := fun as M post => ∃ x, as = [VR 0, VI x] ∧ (x = 0 → post (some (VR 21)) M) ∧ (¬ x = 0 → post (some (VR 28)) M)
/-- the set bits -/
def bits (T : Nat) (n : Nat) : List Nat := (List.range n).filter (fun k => T.testBit k)
def S_X4_bitAt : SP := fun as M post => ∃ T i, as = [VI (nI T), VI (nI i)] ∧ T < 2 ^ 31 ∧ i < 100 ∧ (∀ k, (bits T 9)[i]? = some k → post (some (VI (nI k))) M) ∧ ((bits T 9)[i]? = none → post (some (VI (-1))) M)
def S_X4_leastTerm : SP := fun as M post => ∃ a u v, as = [VI (nI a), VI (nI u), VI (nI v)] ∧ a < 2 ^ 31 ∧ u < 2 ^ 31 ∧ v < 2 ^ 31 ∧ 1 ≤ v ∧ post (some (VI (nI (a / Nat.gcd u v)))) M
theorem dX4_isRow_0 : decode cX4_isRow 0 = .ok (.iload_n 0, 1) := by decide +kernel
theorem dX4_isRow_1 : decode cX4_isRow 1 = .ok (.ifCond .lt 14, 3) := by decide +kernel
theorem dX4_isRow_4 : decode cX4_isRow 4 = .ok (.iload_n 0, 1) := by decide +kernel
theorem dX4_isRow_5 : decode cX4_isRow 5 = .ok (.sipush 512, 3) := by decide +kernel
theorem dX4_isRow_8 : decode cX4_isRow 8 = .ok (.if_icmp .ge 7, 3) := by decide +kernel
theorem dX4_isRow_11 : decode cX4_isRow 11 = .ok (.iconst 1, 1) := by decide +kernel
theorem dX4_isRow_12 : decode cX4_isRow 12 = .ok (.goto 4, 3) := by decide +kernel
theorem dX4_isRow_15 : decode cX4_isRow 15 = .ok (.iconst 0, 1) := by decide +kernel
theorem dX4_isRow_16 : decode cX4_isRow 16 = .ok (.ireturn, 1) := by decide +kernel
def T_X4_isRow (post : PO) : List (Nat × OP) := [(0, o_iload 0 1), (1, o_if (fun x => x < 0) 15 4), (4, o_iload 0 5), (5, o_const 512 8), (8, o_icmp (fun x y => y ≤ x) 15 11), (11, o_const 1 12), (12, o_goto 16), (15, o_const 0 16), (16, o_zret post)]
theorem k_X4_isRow_0 (post : PO) : lk (T_X4_isRow post) 0 = o_iload 0 1 := rfl
theorem k_X4_isRow_1 (post : PO) : lk (T_X4_isRow post) 1 = o_if (fun x => x < 0) 15 4 := rfl
theorem k_X4_isRow_4 (post : PO) : lk (T_X4_isRow post) 4 = o_iload 0 5 := rfl
theorem k_X4_isRow_5 (post : PO) : lk (T_X4_isRow post) 5 = o_const 512 8 := rfl
theorem k_X4_isRow_8 (post : PO) : lk (T_X4_isRow post) 8 = o_icmp (fun x y => y ≤ x) 15 11 := rfl
theorem k_X4_isRow_11 (post : PO) : lk (T_X4_isRow post) 11 = o_const 1 12 := rfl
theorem k_X4_isRow_12 (post : PO) : lk (T_X4_isRow post) 12 = o_goto 16 := rfl
theorem k_X4_isRow_15 (post : PO) : lk (T_X4_isRow post) 15 = o_const 0 16 := rfl
theorem k_X4_isRow_16 (post : PO) : lk (T_X4_isRow post) 16 = o_zret post := rfl
set_option maxRecDepth 100000 in
theorem t_X4_isRow {p : Program} {l : Launch} {e : Env} {s : State} {m : MethodId} {args : Array Value} {below : List Frame} {meth : Method} {c : Code} {D : va_G} {dA : Nat → ClassId} {ad : Nat → Nat} (post : PO) (C : CX p s m args meth c cX4_isRow 1 yX4_isRow.cls D dA ad (AA ad s.heap.size)) (hr : meth.sig.returnType = (some .boolean)) : SndL (WW p l e ({ frames := 0, cells := 0, slots := 0, locals := 0 } : Room) s m args below meth c 0 0 (MQ below (CQ D dA ad post (AA ad s.heap.size)) args s 0 0 (AA ad s.heap.size)) 1 D dA ad (AA ad s.heap.size)) (T_X4_isRow post) := by
  refine snd_c (s_iload_n C rfl dX4_isRow_0) ?_
  refine snd_c (s_if_lt C dX4_isRow_1 (by decide)) ?_
  refine snd_c (s_iload_n C rfl dX4_isRow_4) ?_
  refine snd_c (s_sipush C dX4_isRow_5 rfl) ?_
  refine snd_c (s_icmp_ge C dX4_isRow_8 (by decide)) ?_
  refine snd_c (s_iconst C dX4_isRow_11 rfl) ?_
  refine snd_c (s_goto C dX4_isRow_12 (by decide)) ?_
  refine snd_c (s_iconst C dX4_isRow_15 rfl) ?_
  refine snd_c (s_zret C hr ⟨rfl, rfl⟩ dX4_isRow_16) ?_
  exact trivial
theorem dX4_isEither_0 : decode cX4_isEither 0 = .ok (.iload_n 0, 1) := by decide +kernel
theorem dX4_isEither_1 : decode cX4_isEither 1 = .ok (.ifCond .eq 8, 3) := by decide +kernel
theorem dX4_isEither_4 : decode cX4_isEither 4 = .ok (.iload_n 0, 1) := by decide +kernel
theorem dX4_isEither_5 : decode cX4_isEither 5 = .ok (.iconst 1, 1) := by decide +kernel
theorem dX4_isEither_6 : decode cX4_isEither 6 = .ok (.if_icmp .ne 7, 3) := by decide +kernel
theorem dX4_isEither_9 : decode cX4_isEither 9 = .ok (.iconst 1, 1) := by decide +kernel
theorem dX4_isEither_10 : decode cX4_isEither 10 = .ok (.goto 4, 3) := by decide +kernel
theorem dX4_isEither_13 : decode cX4_isEither 13 = .ok (.iconst 0, 1) := by decide +kernel
theorem dX4_isEither_14 : decode cX4_isEither 14 = .ok (.ireturn, 1) := by decide +kernel
def T_X4_isEither (post : PO) : List (Nat × OP) := [(0, o_iload 0 1), (1, o_if (fun x => x = 0) 9 4), (4, o_iload 0 5), (5, o_const 1 6), (6, o_icmp (fun x y => x = y) 9 13), (9, o_const 1 10), (10, o_goto 14), (13, o_const 0 14), (14, o_zret post)]
theorem k_X4_isEither_0 (post : PO) : lk (T_X4_isEither post) 0 = o_iload 0 1 := rfl
theorem k_X4_isEither_1 (post : PO) : lk (T_X4_isEither post) 1 = o_if (fun x => x = 0) 9 4 := rfl
theorem k_X4_isEither_4 (post : PO) : lk (T_X4_isEither post) 4 = o_iload 0 5 := rfl
theorem k_X4_isEither_5 (post : PO) : lk (T_X4_isEither post) 5 = o_const 1 6 := rfl
theorem k_X4_isEither_6 (post : PO) : lk (T_X4_isEither post) 6 = o_icmp (fun x y => x = y) 9 13 := rfl
theorem k_X4_isEither_9 (post : PO) : lk (T_X4_isEither post) 9 = o_const 1 10 := rfl
theorem k_X4_isEither_10 (post : PO) : lk (T_X4_isEither post) 10 = o_goto 14 := rfl
theorem k_X4_isEither_13 (post : PO) : lk (T_X4_isEither post) 13 = o_const 0 14 := rfl
theorem k_X4_isEither_14 (post : PO) : lk (T_X4_isEither post) 14 = o_zret post := rfl
set_option maxRecDepth 100000 in
theorem t_X4_isEither {p : Program} {l : Launch} {e : Env} {s : State} {m : MethodId} {args : Array Value} {below : List Frame} {meth : Method} {c : Code} {D : va_G} {dA : Nat → ClassId} {ad : Nat → Nat} (post : PO) (C : CX p s m args meth c cX4_isEither 1 yX4_isEither.cls D dA ad (AA ad s.heap.size)) (hr : meth.sig.returnType = (some .boolean)) : SndL (WW p l e ({ frames := 0, cells := 0, slots := 0, locals := 0 } : Room) s m args below meth c 0 0 (MQ below (CQ D dA ad post (AA ad s.heap.size)) args s 0 0 (AA ad s.heap.size)) 1 D dA ad (AA ad s.heap.size)) (T_X4_isEither post) := by
  refine snd_c (s_iload_n C rfl dX4_isEither_0) ?_
  refine snd_c (s_if_eq C dX4_isEither_1 (by decide)) ?_
  refine snd_c (s_iload_n C rfl dX4_isEither_4) ?_
  refine snd_c (s_iconst C dX4_isEither_5 rfl) ?_
  refine snd_c (s_icmp_ne C dX4_isEither_6 (by decide)) ?_
  refine snd_c (s_iconst C dX4_isEither_9 rfl) ?_
  refine snd_c (s_goto C dX4_isEither_10 (by decide)) ?_
  refine snd_c (s_iconst C dX4_isEither_13 rfl) ?_
  refine snd_c (s_zret C hr ⟨rfl, rfl⟩ dX4_isEither_14) ?_
  exact trivial
theorem dX4_within_0 : decode cX4_within 0 = .ok (.iload_n 0, 1) := by decide +kernel
theorem dX4_within_1 : decode cX4_within 1 = .ok (.iload_n 1, 1) := by decide +kernel
theorem dX4_within_2 : decode cX4_within 2 = .ok (.iconst (-1), 1) := by decide +kernel
theorem dX4_within_3 : decode cX4_within 3 = .ok (.ixor, 1) := by decide +kernel
theorem dX4_within_4 : decode cX4_within 4 = .ok (.iand, 1) := by decide +kernel
theorem dX4_within_5 : decode cX4_within 5 = .ok (.ifCond .ne 7, 3) := by decide +kernel
theorem dX4_within_8 : decode cX4_within 8 = .ok (.iconst 1, 1) := by decide +kernel
theorem dX4_within_9 : decode cX4_within 9 = .ok (.goto 4, 3) := by decide +kernel
theorem dX4_within_12 : decode cX4_within 12 = .ok (.iconst 0, 1) := by decide +kernel
theorem dX4_within_13 : decode cX4_within 13 = .ok (.ireturn, 1) := by decide +kernel
def T_X4_within (post : PO) : List (Nat × OP) := [(0, o_iload 0 1), (1, o_iload 1 2), (2, o_const (-1) 3), (3, o_bin (fun x y => x ^^^ y) 4), (4, o_bin (fun x y => x &&& y) 5), (5, o_if (fun x => x = 0) 8 12), (8, o_const 1 9), (9, o_goto 13), (12, o_const 0 13), (13, o_zret post)]
theorem k_X4_within_0 (post : PO) : lk (T_X4_within post) 0 = o_iload 0 1 := rfl
theorem k_X4_within_1 (post : PO) : lk (T_X4_within post) 1 = o_iload 1 2 := rfl
theorem k_X4_within_2 (post : PO) : lk (T_X4_within post) 2 = o_const (-1) 3 := rfl
theorem k_X4_within_3 (post : PO) : lk (T_X4_within post) 3 = o_bin (fun x y => x ^^^ y) 4 := rfl
theorem k_X4_within_4 (post : PO) : lk (T_X4_within post) 4 = o_bin (fun x y => x &&& y) 5 := rfl
theorem k_X4_within_5 (post : PO) : lk (T_X4_within post) 5 = o_if (fun x => x = 0) 8 12 := rfl
theorem k_X4_within_8 (post : PO) : lk (T_X4_within post) 8 = o_const 1 9 := rfl
theorem k_X4_within_9 (post : PO) : lk (T_X4_within post) 9 = o_goto 13 := rfl
theorem k_X4_within_12 (post : PO) : lk (T_X4_within post) 12 = o_const 0 13 := rfl
theorem k_X4_within_13 (post : PO) : lk (T_X4_within post) 13 = o_zret post := rfl
set_option maxRecDepth 100000 in
theorem t_X4_within {p : Program} {l : Launch} {e : Env} {s : State} {m : MethodId} {args : Array Value} {below : List Frame} {meth : Method} {c : Code} {D : va_G} {dA : Nat → ClassId} {ad : Nat → Nat} (post : PO) (C : CX p s m args meth c cX4_within 2 yX4_within.cls D dA ad (AA ad s.heap.size)) (hr : meth.sig.returnType = (some .boolean)) : SndL (WW p l e ({ frames := 0, cells := 0, slots := 0, locals := 0 } : Room) s m args below meth c 0 0 (MQ below (CQ D dA ad post (AA ad s.heap.size)) args s 0 0 (AA ad s.heap.size)) 2 D dA ad (AA ad s.heap.size)) (T_X4_within post) := by
  refine snd_c (s_iload_n C rfl dX4_within_0) ?_
  refine snd_c (s_iload_n C rfl dX4_within_1) ?_
  refine snd_c (s_iconst C dX4_within_2 rfl) ?_
  refine snd_c (s_ixor C dX4_within_3) ?_
  refine snd_c (s_iand C dX4_within_4) ?_
  refine snd_c (s_if_ne C dX4_within_5 (by decide)) ?_
  refine snd_c (s_iconst C dX4_within_8 rfl) ?_
  refine snd_c (s_goto C dX4_within_9 (by decide)) ?_
  refine snd_c (s_iconst C dX4_within_12 rfl) ?_
  refine snd_c (s_zret C hr ⟨rfl, rfl⟩ dX4_within_13) ?_
  exact trivial
theorem fl_RX4_29 : Cond.fieldLink RX4 29 (TX4 3).1 (TX4 3).2.1 (TX4 3).2.2.1 ∈ tb := tb_of 188 (by decide +kernel) (by decide +kernel)
theorem fl_RX4_33 : Cond.fieldLink RX4 33 (TX4 4).1 (TX4 4).2.1 (TX4 4).2.2.1 ∈ tb := tb_of 189 (by decide +kernel) (by decide +kernel)
theorem dX4_imageAt_0 : decode cX4_imageAt 0 = .ok (.iload_n 1, 1) := by decide +kernel
theorem dX4_imageAt_1 : decode cX4_imageAt 1 = .ok (.ifCond .ne 10, 3) := by decide +kernel
theorem dX4_imageAt_4 : decode cX4_imageAt 4 = .ok (.aload_n 0, 1) := by decide +kernel
theorem dX4_imageAt_5 : decode cX4_imageAt 5 = .ok (.getfield 29, 3) := by decide +kernel
theorem dX4_imageAt_8 : decode cX4_imageAt 8 = .ok (.goto 7, 3) := by decide +kernel
theorem dX4_imageAt_11 : decode cX4_imageAt 11 = .ok (.aload_n 0, 1) := by decide +kernel
theorem dX4_imageAt_12 : decode cX4_imageAt 12 = .ok (.getfield 33, 3) := by decide +kernel
theorem dX4_imageAt_15 : decode cX4_imageAt 15 = .ok (.areturn, 1) := by decide +kernel
def T_X4_imageAt (post : PO) : List (Nat × OP) := [(0, o_iload 1 1), (1, o_if (fun x => x = 0) 4 11), (4, o_aload 0 5), (5, o_getf 4 3 8), (8, o_goto 15), (11, o_aload 0 12), (12, o_getf 4 4 15), (15, o_aret post)]
theorem k_X4_imageAt_0 (post : PO) : lk (T_X4_imageAt post) 0 = o_iload 1 1 := rfl
theorem k_X4_imageAt_1 (post : PO) : lk (T_X4_imageAt post) 1 = o_if (fun x => x = 0) 4 11 := rfl
theorem k_X4_imageAt_4 (post : PO) : lk (T_X4_imageAt post) 4 = o_aload 0 5 := rfl
theorem k_X4_imageAt_5 (post : PO) : lk (T_X4_imageAt post) 5 = o_getf 4 3 8 := rfl
theorem k_X4_imageAt_8 (post : PO) : lk (T_X4_imageAt post) 8 = o_goto 15 := rfl
theorem k_X4_imageAt_11 (post : PO) : lk (T_X4_imageAt post) 11 = o_aload 0 12 := rfl
theorem k_X4_imageAt_12 (post : PO) : lk (T_X4_imageAt post) 12 = o_getf 4 4 15 := rfl
theorem k_X4_imageAt_15 (post : PO) : lk (T_X4_imageAt post) 15 = o_aret post := rfl
set_option maxRecDepth 100000 in
theorem t_X4_imageAt {p : Program} {l : Launch} {e : Env} {s : State} {m : MethodId} {args : Array Value} {below : List Frame} {meth : Method} {c : Code} {D : va_G} {dA : Nat → ClassId} {ad : Nat → Nat} (post : PO) (C : CX p s m args meth c cX4_imageAt 2 yX4_imageAt.cls D dA ad (AA ad s.heap.size)) (hr : meth.sig.returnType = (some (.object "NotchKeys$Ring"))) : SndL (WW p l e ({ frames := 0, cells := 0, slots := 0, locals := 0 } : Room) s m args below meth c 0 0 (MQ below (CQ D dA ad post (AA ad s.heap.size)) args s 0 0 (AA ad s.heap.size)) 2 D dA ad (AA ad s.heap.size)) (T_X4_imageAt post) := by
  refine snd_c (s_iload_n C rfl dX4_imageAt_0) ?_
  refine snd_c (s_if_ne C dX4_imageAt_1 (by decide)) ?_
  refine snd_c (s_aload_n C rfl dX4_imageAt_4) ?_
  refine snd_c (s_getf C (ci := 4) (j := 3) (T := TX4) rfl inX4 (by decide) fl_RX4_29 dX4_imageAt_5) ?_
  refine snd_c (s_goto C dX4_imageAt_8 (by decide)) ?_
  refine snd_c (s_aload_n C rfl dX4_imageAt_11) ?_
  refine snd_c (s_getf C (ci := 4) (j := 4) (T := TX4) rfl inX4 (by decide) fl_RX4_33 dX4_imageAt_12) ?_
  refine snd_c (s_aret C hr ⟨_, rfl⟩ dX4_imageAt_15) ?_
  exact trivial
theorem dX4_bitAt_0 : decode cX4_bitAt 0 = .ok (.iconst 0, 1) := by decide +kernel
theorem dX4_bitAt_1 : decode cX4_bitAt 1 = .ok (.istore_n 2, 1) := by decide +kernel
theorem dX4_bitAt_2 : decode cX4_bitAt 2 = .ok (.iconst 0, 1) := by decide +kernel
theorem dX4_bitAt_3 : decode cX4_bitAt 3 = .ok (.istore_n 3, 1) := by decide +kernel
theorem dX4_bitAt_4 : decode cX4_bitAt 4 = .ok (.iload_n 3, 1) := by decide +kernel
theorem dX4_bitAt_5 : decode cX4_bitAt 5 = .ok (.bipush 9, 2) := by decide +kernel
theorem dX4_bitAt_7 : decode cX4_bitAt 7 = .ok (.if_icmp .ge 27, 3) := by decide +kernel
theorem dX4_bitAt_10 : decode cX4_bitAt 10 = .ok (.iload_n 0, 1) := by decide +kernel
theorem dX4_bitAt_11 : decode cX4_bitAt 11 = .ok (.iload_n 3, 1) := by decide +kernel
theorem dX4_bitAt_12 : decode cX4_bitAt 12 = .ok (.ishr, 1) := by decide +kernel
theorem dX4_bitAt_13 : decode cX4_bitAt 13 = .ok (.iconst 1, 1) := by decide +kernel
theorem dX4_bitAt_14 : decode cX4_bitAt 14 = .ok (.iand, 1) := by decide +kernel
theorem dX4_bitAt_15 : decode cX4_bitAt 15 = .ok (.ifCond .eq 13, 3) := by decide +kernel
theorem dX4_bitAt_18 : decode cX4_bitAt 18 = .ok (.iload_n 2, 1) := by decide +kernel
theorem dX4_bitAt_19 : decode cX4_bitAt 19 = .ok (.iload_n 1, 1) := by decide +kernel
theorem dX4_bitAt_20 : decode cX4_bitAt 20 = .ok (.if_icmp .ne 5, 3) := by decide +kernel
theorem dX4_bitAt_23 : decode cX4_bitAt 23 = .ok (.iload_n 3, 1) := by decide +kernel
theorem dX4_bitAt_24 : decode cX4_bitAt 24 = .ok (.ireturn, 1) := by decide +kernel
theorem dX4_bitAt_25 : decode cX4_bitAt 25 = .ok (.iinc 2 1, 3) := by decide +kernel
theorem dX4_bitAt_28 : decode cX4_bitAt 28 = .ok (.iinc 3 1, 3) := by decide +kernel
theorem dX4_bitAt_31 : decode cX4_bitAt 31 = .ok (.goto (-27), 3) := by decide +kernel
theorem dX4_bitAt_34 : decode cX4_bitAt 34 = .ok (.iconst (-1), 1) := by decide +kernel
theorem dX4_bitAt_35 : decode cX4_bitAt 35 = .ok (.ireturn, 1) := by decide +kernel
def T_X4_bitAt (post : PO) : List (Nat × OP) := [(0, o_const 0 1), (1, o_istore 2 2), (2, o_const 0 3), (3, o_istore 3 4), (4, o_iload 3 5), (5, o_const 9 7), (7, o_icmp (fun x y => y ≤ x) 34 10), (10, o_iload 0 11), (11, o_iload 3 12), (12, o_bin (fun x y => x >>> (y &&& 31)) 13), (13, o_const 1 14), (14, o_bin (fun x y => x &&& y) 15), (15, o_if (fun x => x = 0) 28 18), (18, o_iload 2 19), (19, o_iload 1 20), (20, o_icmp (fun x y => x = y) 23 25), (23, o_iload 3 24), (24, o_iret post), (25, o_iinc 2 1 28), (28, o_iinc 3 1 31), (31, o_goto 4), (34, o_const (-1) 35), (35, o_iret post)]
theorem k_X4_bitAt_0 (post : PO) : lk (T_X4_bitAt post) 0 = o_const 0 1 := rfl
theorem k_X4_bitAt_1 (post : PO) : lk (T_X4_bitAt post) 1 = o_istore 2 2 := rfl
theorem k_X4_bitAt_2 (post : PO) : lk (T_X4_bitAt post) 2 = o_const 0 3 := rfl
theorem k_X4_bitAt_3 (post : PO) : lk (T_X4_bitAt post) 3 = o_istore 3 4 := rfl
theorem k_X4_bitAt_4 (post : PO) : lk (T_X4_bitAt post) 4 = o_iload 3 5 := rfl
theorem k_X4_bitAt_5 (post : PO) : lk (T_X4_bitAt post) 5 = o_const 9 7 := rfl
theorem k_X4_bitAt_7 (post : PO) : lk (T_X4_bitAt post) 7 = o_icmp (fun x y => y ≤ x) 34 10 := rfl
theorem k_X4_bitAt_10 (post : PO) : lk (T_X4_bitAt post) 10 = o_iload 0 11 := rfl
theorem k_X4_bitAt_11 (post : PO) : lk (T_X4_bitAt post) 11 = o_iload 3 12 := rfl
theorem k_X4_bitAt_12 (post : PO) : lk (T_X4_bitAt post) 12 = o_bin (fun x y => x >>> (y &&& 31)) 13 := rfl
theorem k_X4_bitAt_13 (post : PO) : lk (T_X4_bitAt post) 13 = o_const 1 14 := rfl
theorem k_X4_bitAt_14 (post : PO) : lk (T_X4_bitAt post) 14 = o_bin (fun x y => x &&& y) 15 := rfl
theorem k_X4_bitAt_15 (post : PO) : lk (T_X4_bitAt post) 15 = o_if (fun x => x = 0) 28 18 := rfl
theorem k_X4_bitAt_18 (post : PO) : lk (T_X4_bitAt post) 18 = o_iload 2 19 := rfl
theorem k_X4_bitAt_19 (post : PO) : lk (T_X4_bitAt post) 19 = o_iload 1 20 := rfl
theorem k_X4_bitAt_20 (post : PO) : lk (T_X4_bitAt post) 20 = o_icmp (fun x y => x = y) 23 25 := rfl
theorem k_X4_bitAt_23 (post : PO) : lk (T_X4_bitAt post) 23 = o_iload 3 24 := rfl
theorem k_X4_bitAt_24 (post : PO) : lk (T_X4_bitAt post) 24 = o_iret post := rfl
theorem k_X4_bitAt_25 (post : PO) : lk (T_X4_bitAt post) 25 = o_iinc 2 1 28 := rfl
theorem k_X4_bitAt_28 (post : PO) : lk (T_X4_bitAt post) 28 = o_iinc 3 1 31 := rfl
theorem k_X4_bitAt_31 (post : PO) : lk (T_X4_bitAt post) 31 = o_goto 4 := rfl
theorem k_X4_bitAt_34 (post : PO) : lk (T_X4_bitAt post) 34 = o_const (-1) 35 := rfl
theorem k_X4_bitAt_35 (post : PO) : lk (T_X4_bitAt post) 35 = o_iret post := rfl
set_option maxRecDepth 100000 in
theorem t_X4_bitAt {p : Program} {l : Launch} {e : Env} {s : State} {m : MethodId} {args : Array Value} {below : List Frame} {meth : Method} {c : Code} {D : va_G} {dA : Nat → ClassId} {ad : Nat → Nat} (post : PO) (C : CX p s m args meth c cX4_bitAt 4 yX4_bitAt.cls D dA ad (AA ad s.heap.size)) (hr : meth.sig.returnType = (some .int)) : SndL (WW p l e ({ frames := 0, cells := 0, slots := 0, locals := 0 } : Room) s m args below meth c 0 0 (MQ below (CQ D dA ad post (AA ad s.heap.size)) args s 0 0 (AA ad s.heap.size)) 4 D dA ad (AA ad s.heap.size)) (T_X4_bitAt post) := by
  refine snd_c (s_iconst C dX4_bitAt_0 rfl) ?_
  refine snd_c (s_istore_n C rfl (by decide) dX4_bitAt_1) ?_
  refine snd_c (s_iconst C dX4_bitAt_2 rfl) ?_
  refine snd_c (s_istore_n C rfl (by decide) dX4_bitAt_3) ?_
  refine snd_c (s_iload_n C rfl dX4_bitAt_4) ?_
  refine snd_c (s_bipush C dX4_bitAt_5 rfl) ?_
  refine snd_c (s_icmp_ge C dX4_bitAt_7 (by decide)) ?_
  refine snd_c (s_iload_n C rfl dX4_bitAt_10) ?_
  refine snd_c (s_iload_n C rfl dX4_bitAt_11) ?_
  refine snd_c (s_ishr C dX4_bitAt_12) ?_
  refine snd_c (s_iconst C dX4_bitAt_13 rfl) ?_
  refine snd_c (s_iand C dX4_bitAt_14) ?_
  refine snd_c (s_if_eq C dX4_bitAt_15 (by decide)) ?_
  refine snd_c (s_iload_n C rfl dX4_bitAt_18) ?_
  refine snd_c (s_iload_n C rfl dX4_bitAt_19) ?_
  refine snd_c (s_icmp_ne C dX4_bitAt_20 (by decide)) ?_
  refine snd_c (s_iload_n C rfl dX4_bitAt_23) ?_
  refine snd_c (s_iret C hr dX4_bitAt_24) ?_
  refine snd_c (s_iinc C (by decide) rfl dX4_bitAt_25) ?_
  refine snd_c (s_iinc C (by decide) rfl dX4_bitAt_28) ?_
  refine snd_c (s_goto C dX4_bitAt_31 (by decide)) ?_
  refine snd_c (s_iconst C dX4_bitAt_34 rfl) ?_
  refine snd_c (s_iret C hr dX4_bitAt_35) ?_
  exact trivial
theorem dX4_leastTerm_0 : decode cX4_leastTerm 0 = .ok (.iload_n 2, 1) := by decide +kernel
theorem dX4_leastTerm_1 : decode cX4_leastTerm 1 = .ok (.istore_n 3, 1) := by decide +kernel
theorem dX4_leastTerm_2 : decode cX4_leastTerm 2 = .ok (.iload_n 3, 1) := by decide +kernel
theorem dX4_leastTerm_3 : decode cX4_leastTerm 3 = .ok (.iconst 1, 1) := by decide +kernel
theorem dX4_leastTerm_4 : decode cX4_leastTerm 4 = .ok (.if_icmp .le 25, 3) := by decide +kernel
theorem dX4_leastTerm_7 : decode cX4_leastTerm 7 = .ok (.iload_n 1, 1) := by decide +kernel
theorem dX4_leastTerm_8 : decode cX4_leastTerm 8 = .ok (.iload_n 3, 1) := by decide +kernel
theorem dX4_leastTerm_9 : decode cX4_leastTerm 9 = .ok (.irem, 1) := by decide +kernel
theorem dX4_leastTerm_10 : decode cX4_leastTerm 10 = .ok (.ifCond .ne 13, 3) := by decide +kernel
theorem dX4_leastTerm_13 : decode cX4_leastTerm 13 = .ok (.iload_n 2, 1) := by decide +kernel
theorem dX4_leastTerm_14 : decode cX4_leastTerm 14 = .ok (.iload_n 3, 1) := by decide +kernel
theorem dX4_leastTerm_15 : decode cX4_leastTerm 15 = .ok (.irem, 1) := by decide +kernel
theorem dX4_leastTerm_16 : decode cX4_leastTerm 16 = .ok (.ifCond .ne 7, 3) := by decide +kernel
theorem dX4_leastTerm_19 : decode cX4_leastTerm 19 = .ok (.iload_n 0, 1) := by decide +kernel
theorem dX4_leastTerm_20 : decode cX4_leastTerm 20 = .ok (.iload_n 3, 1) := by decide +kernel
theorem dX4_leastTerm_21 : decode cX4_leastTerm 21 = .ok (.idiv, 1) := by decide +kernel
theorem dX4_leastTerm_22 : decode cX4_leastTerm 22 = .ok (.ireturn, 1) := by decide +kernel
theorem dX4_leastTerm_23 : decode cX4_leastTerm 23 = .ok (.iinc 3 (-1), 3) := by decide +kernel
theorem dX4_leastTerm_26 : decode cX4_leastTerm 26 = .ok (.goto (-24), 3) := by decide +kernel
theorem dX4_leastTerm_29 : decode cX4_leastTerm 29 = .ok (.iload_n 0, 1) := by decide +kernel
theorem dX4_leastTerm_30 : decode cX4_leastTerm 30 = .ok (.ireturn, 1) := by decide +kernel
def T_X4_leastTerm (post : PO) : List (Nat × OP) := [(0, o_iload 2 1), (1, o_istore 3 2), (2, o_iload 3 3), (3, o_const 1 4), (4, o_icmp (fun x y => x ≤ y) 29 7), (7, o_iload 1 8), (8, o_iload 3 9), (9, o_div (fun x y => x - x / y * y) 10), (10, o_if (fun x => x = 0) 13 23), (13, o_iload 2 14), (14, o_iload 3 15), (15, o_div (fun x y => x - x / y * y) 16), (16, o_if (fun x => x = 0) 19 23), (19, o_iload 0 20), (20, o_iload 3 21), (21, o_div (fun x y => x / y) 22), (22, o_iret post), (23, o_iinc 3 (-1) 26), (26, o_goto 2), (29, o_iload 0 30), (30, o_iret post)]
theorem k_X4_leastTerm_0 (post : PO) : lk (T_X4_leastTerm post) 0 = o_iload 2 1 := rfl
theorem k_X4_leastTerm_1 (post : PO) : lk (T_X4_leastTerm post) 1 = o_istore 3 2 := rfl
theorem k_X4_leastTerm_2 (post : PO) : lk (T_X4_leastTerm post) 2 = o_iload 3 3 := rfl
theorem k_X4_leastTerm_3 (post : PO) : lk (T_X4_leastTerm post) 3 = o_const 1 4 := rfl
theorem k_X4_leastTerm_4 (post : PO) : lk (T_X4_leastTerm post) 4 = o_icmp (fun x y => x ≤ y) 29 7 := rfl
theorem k_X4_leastTerm_7 (post : PO) : lk (T_X4_leastTerm post) 7 = o_iload 1 8 := rfl
theorem k_X4_leastTerm_8 (post : PO) : lk (T_X4_leastTerm post) 8 = o_iload 3 9 := rfl
theorem k_X4_leastTerm_9 (post : PO) : lk (T_X4_leastTerm post) 9 = o_div (fun x y => x - x / y * y) 10 := rfl
theorem k_X4_leastTerm_10 (post : PO) : lk (T_X4_leastTerm post) 10 = o_if (fun x => x = 0) 13 23 := rfl
theorem k_X4_leastTerm_13 (post : PO) : lk (T_X4_leastTerm post) 13 = o_iload 2 14 := rfl
theorem k_X4_leastTerm_14 (post : PO) : lk (T_X4_leastTerm post) 14 = o_iload 3 15 := rfl
theorem k_X4_leastTerm_15 (post : PO) : lk (T_X4_leastTerm post) 15 = o_div (fun x y => x - x / y * y) 16 := rfl
theorem k_X4_leastTerm_16 (post : PO) : lk (T_X4_leastTerm post) 16 = o_if (fun x => x = 0) 19 23 := rfl
theorem k_X4_leastTerm_19 (post : PO) : lk (T_X4_leastTerm post) 19 = o_iload 0 20 := rfl
theorem k_X4_leastTerm_20 (post : PO) : lk (T_X4_leastTerm post) 20 = o_iload 3 21 := rfl
theorem k_X4_leastTerm_21 (post : PO) : lk (T_X4_leastTerm post) 21 = o_div (fun x y => x / y) 22 := rfl
theorem k_X4_leastTerm_22 (post : PO) : lk (T_X4_leastTerm post) 22 = o_iret post := rfl
theorem k_X4_leastTerm_23 (post : PO) : lk (T_X4_leastTerm post) 23 = o_iinc 3 (-1) 26 := rfl
theorem k_X4_leastTerm_26 (post : PO) : lk (T_X4_leastTerm post) 26 = o_goto 2 := rfl
theorem k_X4_leastTerm_29 (post : PO) : lk (T_X4_leastTerm post) 29 = o_iload 0 30 := rfl
theorem k_X4_leastTerm_30 (post : PO) : lk (T_X4_leastTerm post) 30 = o_iret post := rfl
set_option maxRecDepth 100000 in
theorem t_X4_leastTerm {p : Program} {l : Launch} {e : Env} {s : State} {m : MethodId} {args : Array Value} {below : List Frame} {meth : Method} {c : Code} {D : va_G} {dA : Nat → ClassId} {ad : Nat → Nat} (post : PO) (C : CX p s m args meth c cX4_leastTerm 4 yX4_leastTerm.cls D dA ad (AA ad s.heap.size)) (hr : meth.sig.returnType = (some .int)) : SndL (WW p l e ({ frames := 0, cells := 0, slots := 0, locals := 0 } : Room) s m args below meth c 0 0 (MQ below (CQ D dA ad post (AA ad s.heap.size)) args s 0 0 (AA ad s.heap.size)) 4 D dA ad (AA ad s.heap.size)) (T_X4_leastTerm post) := by
  refine snd_c (s_iload_n C rfl dX4_leastTerm_0) ?_
  refine snd_c (s_istore_n C rfl (by decide) dX4_leastTerm_1) ?_
  refine snd_c (s_iload_n C rfl dX4_leastTerm_2) ?_
  refine snd_c (s_iconst C dX4_leastTerm_3 rfl) ?_
  refine snd_c (s_icmp_le C dX4_leastTerm_4 (by decide)) ?_
  refine snd_c (s_iload_n C rfl dX4_leastTerm_7) ?_
  refine snd_c (s_iload_n C rfl dX4_leastTerm_8) ?_
  refine snd_c (s_irem C dX4_leastTerm_9) ?_
  refine snd_c (s_if_ne C dX4_leastTerm_10 (by decide)) ?_
  refine snd_c (s_iload_n C rfl dX4_leastTerm_13) ?_
  refine snd_c (s_iload_n C rfl dX4_leastTerm_14) ?_
  refine snd_c (s_irem C dX4_leastTerm_15) ?_
  refine snd_c (s_if_ne C dX4_leastTerm_16 (by decide)) ?_
  refine snd_c (s_iload_n C rfl dX4_leastTerm_19) ?_
  refine snd_c (s_iload_n C rfl dX4_leastTerm_20) ?_
  refine snd_c (s_idiv C dX4_leastTerm_21) ?_
  refine snd_c (s_iret C hr dX4_leastTerm_22) ?_
  refine snd_c (s_iinc C (by decide) rfl dX4_leastTerm_23) ?_
  refine snd_c (s_goto C dX4_leastTerm_26 (by decide)) ?_
  refine snd_c (s_iload_n C rfl dX4_leastTerm_29) ?_
  refine snd_c (s_iret C hr dX4_leastTerm_30) ?_
  exact trivial
set_option maxRecDepth 100000 in
theorem v_X4_isRow : ∀ as M post, S_X4_isRow as M post → wsum as ≤ 1 ∧ RUN (T_X4_isRow post) 0 (entL 1 as) [] M := by
  rintro as M post ⟨x, rfl, h⟩
  refine ⟨Nat.le_refl 1, run_wp 40 ?_⟩
  dsimp only [k_X4_isRow_0, k_X4_isRow_1, k_X4_isRow_4, k_X4_isRow_5, k_X4_isRow_8, k_X4_isRow_11, k_X4_isRow_12, k_X4_isRow_15, k_X4_isRow_16, wp1, wp_s, cutIn, kont, Nat.reduceSub, Nat.reduceAdd, nth, o_const, o_lconst, o_ref, o_iload, o_lload, o_aload, o_istore, o_lstore, o_astore, o_iinc, o_bin, o_div, o_un, o_lbin, o_lsh, o_lcmp, o_i2l, o_l2i, o_if, o_icmp, o_goto, o_dup, o_dup2, o_pop, fav, o_getf, o_putI, o_putZ, o_putL, o_ald, o_ast, o_alen, popn, rst, o_callV, o_callT, o_callS, swx, o_sw, o_ret, o_iret, o_zret, o_cret, o_lret, o_aret, lg, lput, lput2, ls1, isL, entL, wsum, rdI1, rdI2, rdA1, rdA21, rdA22, rdL1, rdL22, rdL21, upN_at, rep, sh_0, F_0_0, F_0_1, F_0_2, F_0_3, F_0_4, F_0_5, F_0_6, F_0_7, F_0_8, sh_1, F_1_0, F_1_1, F_1_2, F_1_3, F_1_4, F_1_5, sh_3, F_3_0, F_3_1, F_3_2, F_3_3, F_3_4, F_3_5, sh_5, F_5_0, F_5_1, F_5_2, F_5_3, F_5_4, F_5_5, F_5_6, F_5_7, F_5_8, sh_12, F_12_0, F_12_1, F_12_2, F_12_3, F_12_4, F_12_5, sh_14, F_14_0, F_14_1, F_14_2, F_14_3, F_14_4, F_14_5, F_14_6, F_14_7, F_14_8, sh_21, F_21_0, F_21_1, F_21_2, F_21_3, F_21_4, F_21_5, F_21_6, F_21_7, F_21_8, sh_28, F_28_0, F_28_1, F_28_2, F_28_3, F_28_4, F_28_5, F_28_6, F_28_7, F_28_8, sh_35, F_35_0, sh_39, F_39_0, F_39_1, F_39_2, F_39_3, F_39_4, F_39_5, F_39_6, F_39_7, F_39_8, F_39_9, F_39_10, F_39_11, F_39_12, F_39_13, A_2, A_4, A_6, A_7, A_8, A_9, A_10, A_11, A_13, A_15, A_16, A_17, A_18, A_19, A_20, A_22, A_23, A_24, A_25, A_26, A_27, A_29, A_30, A_31, A_32, A_33, A_34, A_36, A_37, A_38, A_40, A_41, A_42, A_43, A_44, A_45, A_46, A_47]
  simp only [pz, Int32.lt_iff_toInt_lt, Int32.le_iff_toInt_le, true_or, or_true, true_and] at h ⊢
  exact ⟨fun h1 => h.2 (by omega), fun h1 => ⟨fun h2 => h.2 (by omega), fun h2 => h.1 (by omega)⟩⟩
set_option maxRecDepth 100000 in
theorem v_X4_isEither : ∀ as M post, S_X4_isEither as M post → wsum as ≤ 1 ∧ RUN (T_X4_isEither post) 0 (entL 1 as) [] M := by
  rintro as M post ⟨x, rfl, h⟩
  refine ⟨Nat.le_refl 1, run_wp 40 ?_⟩
  dsimp only [k_X4_isEither_0, k_X4_isEither_1, k_X4_isEither_4, k_X4_isEither_5, k_X4_isEither_6, k_X4_isEither_9, k_X4_isEither_10, k_X4_isEither_13, k_X4_isEither_14, wp1, wp_s, cutIn, kont, Nat.reduceSub, Nat.reduceAdd, nth, o_const, o_lconst, o_ref, o_iload, o_lload, o_aload, o_istore, o_lstore, o_astore, o_iinc, o_bin, o_div, o_un, o_lbin, o_lsh, o_lcmp, o_i2l, o_l2i, o_if, o_icmp, o_goto, o_dup, o_dup2, o_pop, fav, o_getf, o_putI, o_putZ, o_putL, o_ald, o_ast, o_alen, popn, rst, o_callV, o_callT, o_callS, swx, o_sw, o_ret, o_iret, o_zret, o_cret, o_lret, o_aret, lg, lput, lput2, ls1, isL, entL, wsum, rdI1, rdI2, rdA1, rdA21, rdA22, rdL1, rdL22, rdL21, upN_at, rep, sh_0, F_0_0, F_0_1, F_0_2, F_0_3, F_0_4, F_0_5, F_0_6, F_0_7, F_0_8, sh_1, F_1_0, F_1_1, F_1_2, F_1_3, F_1_4, F_1_5, sh_3, F_3_0, F_3_1, F_3_2, F_3_3, F_3_4, F_3_5, sh_5, F_5_0, F_5_1, F_5_2, F_5_3, F_5_4, F_5_5, F_5_6, F_5_7, F_5_8, sh_12, F_12_0, F_12_1, F_12_2, F_12_3, F_12_4, F_12_5, sh_14, F_14_0, F_14_1, F_14_2, F_14_3, F_14_4, F_14_5, F_14_6, F_14_7, F_14_8, sh_21, F_21_0, F_21_1, F_21_2, F_21_3, F_21_4, F_21_5, F_21_6, F_21_7, F_21_8, sh_28, F_28_0, F_28_1, F_28_2, F_28_3, F_28_4, F_28_5, F_28_6, F_28_7, F_28_8, sh_35, F_35_0, sh_39, F_39_0, F_39_1, F_39_2, F_39_3, F_39_4, F_39_5, F_39_6, F_39_7, F_39_8, F_39_9, F_39_10, F_39_11, F_39_12, F_39_13, A_2, A_4, A_6, A_7, A_8, A_9, A_10, A_11, A_13, A_15, A_16, A_17, A_18, A_19, A_20, A_22, A_23, A_24, A_25, A_26, A_27, A_29, A_30, A_31, A_32, A_33, A_34, A_36, A_37, A_38, A_40, A_41, A_42, A_43, A_44, A_45, A_46, A_47]
  exact ⟨fun z => ⟨Or.inr rfl, h.1 (Or.inl z)⟩, fun z => ⟨fun z2 => ⟨Or.inr rfl, h.1 (Or.inr z2)⟩, fun z2 => ⟨Or.inl rfl, h.2 fun z3 => z3.elim z z2⟩⟩⟩
set_option maxRecDepth 100000 in
theorem v_X4_within : ∀ as M post, S_X4_within as M post → wsum as ≤ 2 ∧ RUN (T_X4_within post) 0 (entL 2 as) [] M := by
  rintro as M post ⟨x, a, rfl, h⟩
  refine ⟨Nat.le_refl 2, run_wp 40 ?_⟩
  dsimp only [k_X4_within_0, k_X4_within_1, k_X4_within_2, k_X4_within_3, k_X4_within_4, k_X4_within_5, k_X4_within_8, k_X4_within_9, k_X4_within_12, k_X4_within_13, wp1, wp_s, cutIn, kont, Nat.reduceSub, Nat.reduceAdd, nth, o_const, o_lconst, o_ref, o_iload, o_lload, o_aload, o_istore, o_lstore, o_astore, o_iinc, o_bin, o_div, o_un, o_lbin, o_lsh, o_lcmp, o_i2l, o_l2i, o_if, o_icmp, o_goto, o_dup, o_dup2, o_pop, fav, o_getf, o_putI, o_putZ, o_putL, o_ald, o_ast, o_alen, popn, rst, o_callV, o_callT, o_callS, swx, o_sw, o_ret, o_iret, o_zret, o_cret, o_lret, o_aret, lg, lput, lput2, ls1, isL, entL, wsum, rdI1, rdI2, rdA1, rdA21, rdA22, rdL1, rdL22, rdL21, upN_at, rep, sh_0, F_0_0, F_0_1, F_0_2, F_0_3, F_0_4, F_0_5, F_0_6, F_0_7, F_0_8, sh_1, F_1_0, F_1_1, F_1_2, F_1_3, F_1_4, F_1_5, sh_3, F_3_0, F_3_1, F_3_2, F_3_3, F_3_4, F_3_5, sh_5, F_5_0, F_5_1, F_5_2, F_5_3, F_5_4, F_5_5, F_5_6, F_5_7, F_5_8, sh_12, F_12_0, F_12_1, F_12_2, F_12_3, F_12_4, F_12_5, sh_14, F_14_0, F_14_1, F_14_2, F_14_3, F_14_4, F_14_5, F_14_6, F_14_7, F_14_8, sh_21, F_21_0, F_21_1, F_21_2, F_21_3, F_21_4, F_21_5, F_21_6, F_21_7, F_21_8, sh_28, F_28_0, F_28_1, F_28_2, F_28_3, F_28_4, F_28_5, F_28_6, F_28_7, F_28_8, sh_35, F_35_0, sh_39, F_39_0, F_39_1, F_39_2, F_39_3, F_39_4, F_39_5, F_39_6, F_39_7, F_39_8, F_39_9, F_39_10, F_39_11, F_39_12, F_39_13, A_2, A_4, A_6, A_7, A_8, A_9, A_10, A_11, A_13, A_15, A_16, A_17, A_18, A_19, A_20, A_22, A_23, A_24, A_25, A_26, A_27, A_29, A_30, A_31, A_32, A_33, A_34, A_36, A_37, A_38, A_40, A_41, A_42, A_43, A_44, A_45, A_46, A_47]
  rw [In_iff]
  exact ⟨fun z => ⟨Or.inr rfl, h.1 z⟩, fun z => ⟨Or.inl rfl, h.2 z⟩⟩
set_option maxRecDepth 100000 in
theorem v_X4_imageAt : ∀ as M post, S_X4_imageAt as M post → wsum as ≤ 2 ∧ RUN (T_X4_imageAt post) 0 (entL 2 as) [] M := by
  rintro as M post ⟨x, rfl, h1, h2⟩
  refine ⟨Nat.le_refl 2, run_wp 40 ?_⟩
  dsimp only [k_X4_imageAt_0, k_X4_imageAt_1, k_X4_imageAt_4, k_X4_imageAt_5, k_X4_imageAt_8, k_X4_imageAt_11, k_X4_imageAt_12, k_X4_imageAt_15, wp1, wp_s, cutIn, kont, Nat.reduceSub, Nat.reduceAdd, nth, o_const, o_lconst, o_ref, o_iload, o_lload, o_aload, o_istore, o_lstore, o_astore, o_iinc, o_bin, o_div, o_un, o_lbin, o_lsh, o_lcmp, o_i2l, o_l2i, o_if, o_icmp, o_goto, o_dup, o_dup2, o_pop, fav, o_getf, o_putI, o_putZ, o_putL, o_ald, o_ast, o_alen, popn, rst, o_callV, o_callT, o_callS, swx, o_sw, o_ret, o_iret, o_zret, o_cret, o_lret, o_aret, lg, lput, lput2, ls1, isL, entL, wsum, rdI1, rdI2, rdA1, rdA21, rdA22, rdL1, rdL22, rdL21, upN_at, rep, sh_0, F_0_0, F_0_1, F_0_2, F_0_3, F_0_4, F_0_5, F_0_6, F_0_7, F_0_8, sh_1, F_1_0, F_1_1, F_1_2, F_1_3, F_1_4, F_1_5, sh_3, F_3_0, F_3_1, F_3_2, F_3_3, F_3_4, F_3_5, sh_5, F_5_0, F_5_1, F_5_2, F_5_3, F_5_4, F_5_5, F_5_6, F_5_7, F_5_8, sh_12, F_12_0, F_12_1, F_12_2, F_12_3, F_12_4, F_12_5, sh_14, F_14_0, F_14_1, F_14_2, F_14_3, F_14_4, F_14_5, F_14_6, F_14_7, F_14_8, sh_21, F_21_0, F_21_1, F_21_2, F_21_3, F_21_4, F_21_5, F_21_6, F_21_7, F_21_8, sh_28, F_28_0, F_28_1, F_28_2, F_28_3, F_28_4, F_28_5, F_28_6, F_28_7, F_28_8, sh_35, F_35_0, sh_39, F_39_0, F_39_1, F_39_2, F_39_3, F_39_4, F_39_5, F_39_6, F_39_7, F_39_8, F_39_9, F_39_10, F_39_11, F_39_12, F_39_13, A_2, A_4, A_6, A_7, A_8, A_9, A_10, A_11, A_13, A_15, A_16, A_17, A_18, A_19, A_20, A_22, A_23, A_24, A_25, A_26, A_27, A_29, A_30, A_31, A_32, A_33, A_34, A_36, A_37, A_38, A_40, A_41, A_42, A_43, A_44, A_45, A_46, A_47]
  exact ⟨fun z => h1 z, fun z => h2 z⟩
theorem bits_s (T n : Nat) : bits T (n + 1) = if T.testBit n = true then bits T n ++ [n] else bits T n := by
  unfold bits
  rw [List.range_succ, List.filter_append]
  split
  · rename_i h; simp [h]
  · rename_i h; simp [h]
theorem bits_pre (T : Nat) : ∀ (n m i k : Nat), n ≤ m → (bits T n)[i]? = some k → (bits T m)[i]? = some k := by
  intro n m i k hnm h
  obtain ⟨d, rfl⟩ := Nat.exists_eq_add_of_le hnm
  clear hnm
  induction d with
  | zero => exact h
  | succ d ih =>
    rw [show n + (d + 1) = (n + d) + 1 by omega, bits_s]
    split
    · rw [List.getElem?_append_left (List.getElem?_eq_some_iff.mp ih).1]; exact ih
    · exact ih
theorem bits_le (T n : Nat) : (bits T n).length ≤ n := by
  unfold bits
  exact Nat.le_trans (List.length_filter_le _ _) (by simp)
set_option maxRecDepth 100000 in
theorem v_X4_bitAt : ∀ as M post, S_X4_bitAt as M post → wsum as ≤ 4 ∧ RUN (T_X4_bitAt post) 0 (entL 4 as) [] M := by
  rintro as M post ⟨T, i, rfl, hT, hi, h1, h2⟩
  refine ⟨by show 2 ≤ 4; omega, run_of [4] (fun μ pc lv st M' => pc = 4 ∧ st = [] ∧ M' = M ∧ ∃ n, n ≤ 9 ∧ (bits T n).length ≤ i ∧ 20 - n = μ ∧ lv = [some (VI (nI T)), some (VI (nI i)), some (VI (nI (bits T n).length)), some (VI (nI n))]) 40 30 ?_ ?_⟩
  · rintro μ pc lv st M' ⟨rfl, rfl, rfl, n, hn, hl, rfl, rfl⟩
    dsimp only [k_X4_bitAt_0, k_X4_bitAt_1, k_X4_bitAt_2, k_X4_bitAt_3, k_X4_bitAt_4, k_X4_bitAt_5, k_X4_bitAt_7, k_X4_bitAt_10, k_X4_bitAt_11, k_X4_bitAt_12, k_X4_bitAt_13, k_X4_bitAt_14, k_X4_bitAt_15, k_X4_bitAt_18, k_X4_bitAt_19, k_X4_bitAt_20, k_X4_bitAt_23, k_X4_bitAt_24, k_X4_bitAt_25, k_X4_bitAt_28, k_X4_bitAt_31, k_X4_bitAt_34, k_X4_bitAt_35, wp1, wp_s, cutIn, kont, Nat.reduceSub, Nat.reduceAdd, nth, o_const, o_lconst, o_ref, o_iload, o_lload, o_aload, o_istore, o_lstore, o_astore, o_iinc, o_bin, o_div, o_un, o_lbin, o_lsh, o_lcmp, o_i2l, o_l2i, o_if, o_icmp, o_goto, o_dup, o_dup2, o_pop, fav, o_getf, o_putI, o_putZ, o_putL, o_ald, o_ast, o_alen, popn, rst, o_callV, o_callT, o_callS, swx, o_sw, o_ret, o_iret, o_zret, o_cret, o_lret, o_aret, lg, lput, lput2, ls1, isL, entL, wsum, rdI1, rdI2, rdA1, rdA21, rdA22, rdL1, rdL22, rdL21, upN_at, rep, sh_0, F_0_0, F_0_1, F_0_2, F_0_3, F_0_4, F_0_5, F_0_6, F_0_7, F_0_8, sh_1, F_1_0, F_1_1, F_1_2, F_1_3, F_1_4, F_1_5, sh_3, F_3_0, F_3_1, F_3_2, F_3_3, F_3_4, F_3_5, sh_5, F_5_0, F_5_1, F_5_2, F_5_3, F_5_4, F_5_5, F_5_6, F_5_7, F_5_8, sh_12, F_12_0, F_12_1, F_12_2, F_12_3, F_12_4, F_12_5, sh_14, F_14_0, F_14_1, F_14_2, F_14_3, F_14_4, F_14_5, F_14_6, F_14_7, F_14_8, sh_21, F_21_0, F_21_1, F_21_2, F_21_3, F_21_4, F_21_5, F_21_6, F_21_7, F_21_8, sh_28, F_28_0, F_28_1, F_28_2, F_28_3, F_28_4, F_28_5, F_28_6, F_28_7, F_28_8, sh_35, F_35_0, sh_39, F_39_0, F_39_1, F_39_2, F_39_3, F_39_4, F_39_5, F_39_6, F_39_7, F_39_8, F_39_9, F_39_10, F_39_11, F_39_12, F_39_13, A_2, A_4, A_6, A_7, A_8, A_9, A_10, A_11, A_13, A_15, A_16, A_17, A_18, A_19, A_20, A_22, A_23, A_24, A_25, A_26, A_27, A_29, A_30, A_31, A_32, A_33, A_34, A_36, A_37, A_38, A_40, A_41, A_42, A_43, A_44, A_45, A_46, A_47]
    rw [show (9 : Int32) = nI 9 from rfl]
    have hbl := bits_le T n
    simp (disch := omega) only [nI_leI, nI_ltI, nI_eq, nI_1, nI_add, one_shl, nI_or, nI_xor, nI_and, bit_0, bit_1, true_or, or_true, true_and, and_true, eq_self, not_true_eq_false, not_false_eq_true, forall_const]
    refine ⟨fun z => ?_, fun z => ⟨fun z2 => cut _ _ ⟨rfl, rfl, rfl, n + 1, by omega, ?_, rfl, rfl⟩ (by omega) ⟨rfl, rfl, vi_eq ?_, rfl, trivial⟩, fun z2 => ⟨fun z3 => ?_, fun z3 => cut _ _ ⟨rfl, rfl, rfl, n + 1, by omega, ?_, rfl, rfl⟩ (by omega) ⟨rfl, rfl, vi_eq ?_, rfl, trivial⟩⟩⟩⟩
    · refine h2 ?_
      rw [show 9 = n by omega]
      exact List.getElem?_eq_none hl
    · rw [bits_s, if_neg (by rw [z2]; decide)]; exact hl
    · rw [bits_s, if_neg (by rw [z2]; decide)]
    · refine h1 n (bits_pre T (n + 1) 9 i n (by omega) ?_)
      rw [bits_s, if_pos (by simpa using z2), ← z3, List.getElem?_append_right (Nat.le_refl _)]
      simp
    · rw [bits_s, if_pos (by simpa using z2), List.length_append, List.length_singleton]; omega
    · rw [bits_s, if_pos (by simpa using z2), List.length_append, List.length_singleton]
  · dsimp only [k_X4_bitAt_0, k_X4_bitAt_1, k_X4_bitAt_2, k_X4_bitAt_3, k_X4_bitAt_4, k_X4_bitAt_5, k_X4_bitAt_7, k_X4_bitAt_10, k_X4_bitAt_11, k_X4_bitAt_12, k_X4_bitAt_13, k_X4_bitAt_14, k_X4_bitAt_15, k_X4_bitAt_18, k_X4_bitAt_19, k_X4_bitAt_20, k_X4_bitAt_23, k_X4_bitAt_24, k_X4_bitAt_25, k_X4_bitAt_28, k_X4_bitAt_31, k_X4_bitAt_34, k_X4_bitAt_35, wp1, wp_s, cutIn, kont, Nat.reduceSub, Nat.reduceAdd, nth, o_const, o_lconst, o_ref, o_iload, o_lload, o_aload, o_istore, o_lstore, o_astore, o_iinc, o_bin, o_div, o_un, o_lbin, o_lsh, o_lcmp, o_i2l, o_l2i, o_if, o_icmp, o_goto, o_dup, o_dup2, o_pop, fav, o_getf, o_putI, o_putZ, o_putL, o_ald, o_ast, o_alen, popn, rst, o_callV, o_callT, o_callS, swx, o_sw, o_ret, o_iret, o_zret, o_cret, o_lret, o_aret, lg, lput, lput2, ls1, isL, entL, wsum, rdI1, rdI2, rdA1, rdA21, rdA22, rdL1, rdL22, rdL21, upN_at, rep, sh_0, F_0_0, F_0_1, F_0_2, F_0_3, F_0_4, F_0_5, F_0_6, F_0_7, F_0_8, sh_1, F_1_0, F_1_1, F_1_2, F_1_3, F_1_4, F_1_5, sh_3, F_3_0, F_3_1, F_3_2, F_3_3, F_3_4, F_3_5, sh_5, F_5_0, F_5_1, F_5_2, F_5_3, F_5_4, F_5_5, F_5_6, F_5_7, F_5_8, sh_12, F_12_0, F_12_1, F_12_2, F_12_3, F_12_4, F_12_5, sh_14, F_14_0, F_14_1, F_14_2, F_14_3, F_14_4, F_14_5, F_14_6, F_14_7, F_14_8, sh_21, F_21_0, F_21_1, F_21_2, F_21_3, F_21_4, F_21_5, F_21_6, F_21_7, F_21_8, sh_28, F_28_0, F_28_1, F_28_2, F_28_3, F_28_4, F_28_5, F_28_6, F_28_7, F_28_8, sh_35, F_35_0, sh_39, F_39_0, F_39_1, F_39_2, F_39_3, F_39_4, F_39_5, F_39_6, F_39_7, F_39_8, F_39_9, F_39_10, F_39_11, F_39_12, F_39_13, A_2, A_4, A_6, A_7, A_8, A_9, A_10, A_11, A_13, A_15, A_16, A_17, A_18, A_19, A_20, A_22, A_23, A_24, A_25, A_26, A_27, A_29, A_30, A_31, A_32, A_33, A_34, A_36, A_37, A_38, A_40, A_41, A_42, A_43, A_44, A_45, A_46, A_47]
    exact cut _ _ ⟨rfl, rfl, rfl, 0, by omega, Nat.zero_le _, rfl, rfl⟩ (by omega) ⟨rfl, rfl, rfl, rfl, trivial⟩
set_option maxRecDepth 100000 in
theorem v_X4_leastTerm : ∀ as M post, S_X4_leastTerm as M post → wsum as ≤ 4 ∧ RUN (T_X4_leastTerm post) 0 (entL 4 as) [] M := by
  rintro as M post ⟨a, u, v, rfl, ha, hu, hv, hv1, h⟩
  have hg0 : 0 < Nat.gcd u v := Nat.gcd_pos_of_pos_right u hv1
  refine ⟨by show 3 ≤ 4; omega, run_of [2] (fun μ pc lv st M' => pc = 2 ∧ st = [] ∧ M' = M ∧ ∃ d, Nat.gcd u v ≤ d ∧ d ≤ v ∧ d = μ ∧ lv = [some (VI (nI a)), some (VI (nI u)), some (VI (nI v)), some (VI (nI d))]) 40 (v + 1) ?_ ?_⟩
  · rintro μ pc lv st M' ⟨rfl, rfl, rfl, d, hd, hdv, rfl, rfl⟩
    dsimp only [k_X4_leastTerm_0, k_X4_leastTerm_1, k_X4_leastTerm_2, k_X4_leastTerm_3, k_X4_leastTerm_4, k_X4_leastTerm_7, k_X4_leastTerm_8, k_X4_leastTerm_9, k_X4_leastTerm_10, k_X4_leastTerm_13, k_X4_leastTerm_14, k_X4_leastTerm_15, k_X4_leastTerm_16, k_X4_leastTerm_19, k_X4_leastTerm_20, k_X4_leastTerm_21, k_X4_leastTerm_22, k_X4_leastTerm_23, k_X4_leastTerm_26, k_X4_leastTerm_29, k_X4_leastTerm_30, wp1, wp_s, cutIn, kont, Nat.reduceSub, Nat.reduceAdd, nth, o_const, o_lconst, o_ref, o_iload, o_lload, o_aload, o_istore, o_lstore, o_astore, o_iinc, o_bin, o_div, o_un, o_lbin, o_lsh, o_lcmp, o_i2l, o_l2i, o_if, o_icmp, o_goto, o_dup, o_dup2, o_pop, fav, o_getf, o_putI, o_putZ, o_putL, o_ald, o_ast, o_alen, popn, rst, o_callV, o_callT, o_callS, swx, o_sw, o_ret, o_iret, o_zret, o_cret, o_lret, o_aret, lg, lput, lput2, ls1, isL, entL, wsum, rdI1, rdI2, rdA1, rdA21, rdA22, rdL1, rdL22, rdL21, upN_at, rep, sh_0, F_0_0, F_0_1, F_0_2, F_0_3, F_0_4, F_0_5, F_0_6, F_0_7, F_0_8, sh_1, F_1_0, F_1_1, F_1_2, F_1_3, F_1_4, F_1_5, sh_3, F_3_0, F_3_1, F_3_2, F_3_3, F_3_4, F_3_5, sh_5, F_5_0, F_5_1, F_5_2, F_5_3, F_5_4, F_5_5, F_5_6, F_5_7, F_5_8, sh_12, F_12_0, F_12_1, F_12_2, F_12_3, F_12_4, F_12_5, sh_14, F_14_0, F_14_1, F_14_2, F_14_3, F_14_4, F_14_5, F_14_6, F_14_7, F_14_8, sh_21, F_21_0, F_21_1, F_21_2, F_21_3, F_21_4, F_21_5, F_21_6, F_21_7, F_21_8, sh_28, F_28_0, F_28_1, F_28_2, F_28_3, F_28_4, F_28_5, F_28_6, F_28_7, F_28_8, sh_35, F_35_0, sh_39, F_39_0, F_39_1, F_39_2, F_39_3, F_39_4, F_39_5, F_39_6, F_39_7, F_39_8, F_39_9, F_39_10, F_39_11, F_39_12, F_39_13, A_2, A_4, A_6, A_7, A_8, A_9, A_10, A_11, A_13, A_15, A_16, A_17, A_18, A_19, A_20, A_22, A_23, A_24, A_25, A_26, A_27, A_29, A_30, A_31, A_32, A_33, A_34, A_36, A_37, A_38, A_40, A_41, A_42, A_43, A_44, A_45, A_46, A_47]
    rw [show (1 : Int32) = nI 1 from rfl, show (0 : Int32) = nI 0 from rfl]
    simp (disch := omega) only [nI_leI, nI_ltI, nI_eq, nI_1, nI_add, one_shl, nI_or, nI_xor, nI_and, bit_0, bit_1, true_or, or_true, true_and, and_true, eq_self, not_true_eq_false, not_false_eq_true, forall_const]
    refine ⟨fun z => ?_, fun z => ⟨by omega, ?_⟩⟩
    · rw [show Nat.gcd u v = 1 by omega, Nat.div_one] at h; exact h
    · rw [pk_rem hu (by omega) (by omega), pk_rem hv (by omega) (by omega), pk_div ha (by omega) (by omega)]
      have m1u := Nat.mod_lt u (show 0 < d by omega)
      have m1v := Nat.mod_lt v (show 0 < d by omega)
      simp (disch := omega) only [nI_leI, nI_ltI, nI_eq, nI_1, nI_add, one_shl, nI_or, nI_xor, nI_and, bit_0, bit_1, true_or, or_true, true_and, and_true, eq_self, not_true_eq_false, not_false_eq_true, forall_const]
      obtain ⟨d', rfl⟩ : ∃ d', d = d' + 1 := ⟨d - 1, by omega⟩
      refine ⟨fun e1 => ⟨by omega, fun e2 => ⟨by omega, ?_⟩, fun e2 => cut _ _ ⟨rfl, rfl, rfl, d', ?_, by omega, rfl, rfl⟩ (by omega) ⟨rfl, rfl, rfl, vi_eq (pk_m1 _), trivial⟩⟩, fun e1 => cut _ _ ⟨rfl, rfl, rfl, d', ?_, by omega, rfl, rfl⟩ (by omega) ⟨rfl, rfl, rfl, vi_eq (pk_m1 _), trivial⟩⟩
      · have hdd : d' + 1 ∣ Nat.gcd u v := Nat.dvd_gcd (Nat.dvd_of_mod_eq_zero e1) (Nat.dvd_of_mod_eq_zero e2)
        have := Nat.le_of_dvd hg0 hdd
        rw [show Nat.gcd u v = d' + 1 by omega] at h
        exact h
      · rcases Nat.lt_or_ge d' (Nat.gcd u v) with g | g
        · have e : Nat.gcd u v = d' + 1 := by omega
          exact absurd (Nat.mod_eq_zero_of_dvd (e ▸ Nat.gcd_dvd_right u v)) e2
        · exact g
      · rcases Nat.lt_or_ge d' (Nat.gcd u v) with g | g
        · have e : Nat.gcd u v = d' + 1 := by omega
          exact absurd (Nat.mod_eq_zero_of_dvd (e ▸ Nat.gcd_dvd_left u v)) e1
        · exact g
  · dsimp only [k_X4_leastTerm_0, k_X4_leastTerm_1, k_X4_leastTerm_2, k_X4_leastTerm_3, k_X4_leastTerm_4, k_X4_leastTerm_7, k_X4_leastTerm_8, k_X4_leastTerm_9, k_X4_leastTerm_10, k_X4_leastTerm_13, k_X4_leastTerm_14, k_X4_leastTerm_15, k_X4_leastTerm_16, k_X4_leastTerm_19, k_X4_leastTerm_20, k_X4_leastTerm_21, k_X4_leastTerm_22, k_X4_leastTerm_23, k_X4_leastTerm_26, k_X4_leastTerm_29, k_X4_leastTerm_30, wp1, wp_s, cutIn, kont, Nat.reduceSub, Nat.reduceAdd, nth, o_const, o_lconst, o_ref, o_iload, o_lload, o_aload, o_istore, o_lstore, o_astore, o_iinc, o_bin, o_div, o_un, o_lbin, o_lsh, o_lcmp, o_i2l, o_l2i, o_if, o_icmp, o_goto, o_dup, o_dup2, o_pop, fav, o_getf, o_putI, o_putZ, o_putL, o_ald, o_ast, o_alen, popn, rst, o_callV, o_callT, o_callS, swx, o_sw, o_ret, o_iret, o_zret, o_cret, o_lret, o_aret, lg, lput, lput2, ls1, isL, entL, wsum, rdI1, rdI2, rdA1, rdA21, rdA22, rdL1, rdL22, rdL21, upN_at, rep, sh_0, F_0_0, F_0_1, F_0_2, F_0_3, F_0_4, F_0_5, F_0_6, F_0_7, F_0_8, sh_1, F_1_0, F_1_1, F_1_2, F_1_3, F_1_4, F_1_5, sh_3, F_3_0, F_3_1, F_3_2, F_3_3, F_3_4, F_3_5, sh_5, F_5_0, F_5_1, F_5_2, F_5_3, F_5_4, F_5_5, F_5_6, F_5_7, F_5_8, sh_12, F_12_0, F_12_1, F_12_2, F_12_3, F_12_4, F_12_5, sh_14, F_14_0, F_14_1, F_14_2, F_14_3, F_14_4, F_14_5, F_14_6, F_14_7, F_14_8, sh_21, F_21_0, F_21_1, F_21_2, F_21_3, F_21_4, F_21_5, F_21_6, F_21_7, F_21_8, sh_28, F_28_0, F_28_1, F_28_2, F_28_3, F_28_4, F_28_5, F_28_6, F_28_7, F_28_8, sh_35, F_35_0, sh_39, F_39_0, F_39_1, F_39_2, F_39_3, F_39_4, F_39_5, F_39_6, F_39_7, F_39_8, F_39_9, F_39_10, F_39_11, F_39_12, F_39_13, A_2, A_4, A_6, A_7, A_8, A_9, A_10, A_11, A_13, A_15, A_16, A_17, A_18, A_19, A_20, A_22, A_23, A_24, A_25, A_26, A_27, A_29, A_30, A_31, A_32, A_33, A_34, A_36, A_37, A_38, A_40, A_41, A_42, A_43, A_44, A_45, A_46, A_47]
    exact cut _ _ ⟨rfl, rfl, rfl, v, Nat.le_of_dvd hv1 (Nat.gcd_dvd_right u v), Nat.le_refl _, rfl, rfl⟩ (by omega) ⟨rfl, rfl, rfl, rfl, trivial⟩
theorem c_X4_isRow : Ctr yX4_isRow cX4_isRow 1 (some .boolean) ({ frames := 0, cells := 0, slots := 0, locals := 0 } : Room) S_X4_isRow := ctr_of (T := T_X4_isRow) (by decide +kernel) (fun post C hr => t_X4_isRow post C hr) v_X4_isRow
theorem c_X4_isEither : Ctr yX4_isEither cX4_isEither 1 (some .boolean) ({ frames := 0, cells := 0, slots := 0, locals := 0 } : Room) S_X4_isEither := ctr_of (T := T_X4_isEither) (by decide +kernel) (fun post C hr => t_X4_isEither post C hr) v_X4_isEither
theorem c_X4_within : Ctr yX4_within cX4_within 2 (some .boolean) ({ frames := 0, cells := 0, slots := 0, locals := 0 } : Room) S_X4_within := ctr_of (T := T_X4_within) (by decide +kernel) (fun post C hr => t_X4_within post C hr) v_X4_within
theorem c_X4_imageAt : Ctr yX4_imageAt cX4_imageAt 2 (some (.object "NotchKeys$Ring")) ({ frames := 0, cells := 0, slots := 0, locals := 0 } : Room) S_X4_imageAt := ctr_of (T := T_X4_imageAt) (by decide +kernel) (fun post C hr => t_X4_imageAt post C hr) v_X4_imageAt
theorem c_X4_bitAt : Ctr yX4_bitAt cX4_bitAt 4 (some .int) ({ frames := 0, cells := 0, slots := 0, locals := 0 } : Room) S_X4_bitAt := ctr_of (T := T_X4_bitAt) (by decide +kernel) (fun post C hr => t_X4_bitAt post C hr) v_X4_bitAt
theorem c_X4_leastTerm : Ctr yX4_leastTerm cX4_leastTerm 4 (some .int) ({ frames := 0, cells := 0, slots := 0, locals := 0 } : Room) S_X4_leastTerm := ctr_of (T := T_X4_leastTerm) (by decide +kernel) (fun post C hr => t_X4_leastTerm post C hr) v_X4_leastTerm
