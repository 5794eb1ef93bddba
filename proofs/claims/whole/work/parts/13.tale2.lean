/-! The class's text: the token at hand. -/
theorem isD_iff {c : Nat} (hc : c < 256) : (48 ≤ nI c ∧ nI c ≤ 57) ↔ isD c = true := by
  rw [show (48 : Int32) = nI 48 from rfl, show (57 : Int32) = nI 57 from rfl, nI_leI (by omega) (by omega), nI_leI (by omega) (by omega)]
  simp [isD]
theorem isW_iff {c : Nat} (hc : c < 256) : (97 ≤ nI c ∧ nI c ≤ 122) ↔ isW c = true := by
  rw [show (97 : Int32) = nI 97 from rfl, show (122 : Int32) = nI 122 from rfl, nI_leI (by omega) (by omega), nI_leI (by omega) (by omega)]
  simp [isW]
theorem bAt_in {t : Nat → Nat} {L i : Nat} (h : i < L) : bAt t L i = nI (t i) := by unfold bAt; rw [if_pos h]
/-- a number's kind and value -/
def nmK (t : Nat → Nat) (s p : Nat) : Int32 := if p - s = 1 then 2 else if p - s = 2 ∧ t s ≠ 48 then 2 else 4
def nmV (t : Nat → Nat) (s p : Nat) (v : Int32) : Int32 := if p - s = 1 then nI (t s - 48) else if p - s = 2 ∧ t s ≠ 48 then nI (10 * (t s - 48) + (t (s + 1) - 48)) else v
/-- a word's -/
def wdK (t : Nat → Nat) (s p : Nat) : Int32 := if WQ t s p 0 then 5 else if WQ t s p 1 then 6 else if WQ t s p 2 then 7 else if WQ t s p 3 then 8 else if RQ t s p then 3 else 4
def wdV (t : Nat → Nat) (s p : Nat) (v : Int32) : Int32 := if WQ t s p 0 then v else if WQ t s p 1 then v else if WQ t s p 2 then v else if WQ t s p 3 then v else if RQ t s p then nI (mk (fun n => t (s + n) == 120) 9) else -1
def S_X3_readNumber : SP := fun as M post => ∃ L t s, as = [VR 1] ∧ TX M L t ∧ M.1 1 = nI s ∧ M.1 2 = nI s ∧ s < L ∧ isD (t s) = true ∧ post none (sI 4 (nmV t s (sk isD t (L - s) s) (M.1 4)) (sI 3 (nmK t s (sk isD t (L - s) s)) (sI 1 (nI (sk isD t (L - s) s)) M)))
def S_X3_readWord : SP := fun as M post => ∃ L t s, as = [VR 1] ∧ TX M L t ∧ M.1 1 = nI s ∧ M.1 2 = nI s ∧ s < L ∧ isW (t s) = true ∧ post none (sI 4 (wdV t s (sk isW t (L - s) s) (M.1 4)) (sI 3 (wdK t s (sk isW t (L - s) s)) (sI 1 (nI (sk isW t (L - s) s)) M)))
theorem cw_RX3_35 : ∀ w ∈ ([.methodLink RX3 35 yX3_isDigit, .static yX3_isDigit, .initialized yX3_isDigit.cls, .code yX3_isDigit cX3_isDigit 1 (some .boolean)] : List Cond), w ∈ tb := tb_all [250, 251, 55, 252] (by decide +kernel) (by decide +kernel)
theorem fl_RX3_32 : Cond.fieldLink RX3 32 (TX3 4).1 (TX3 4).2.1 (TX3 4).2.2.1 ∈ tb := tb_of 85 (by decide +kernel) (by decide +kernel)
theorem fl_RX3_48 : Cond.fieldLink RX3 48 (TX3 5).1 (TX3 5).2.1 (TX3 5).2.2.1 ∈ tb := tb_of 88 (by decide +kernel) (by decide +kernel)
theorem dX3_readNumber_0 : decode cX3_readNumber 0 = .ok (.aload_n 0, 1) := by decide +kernel
theorem dX3_readNumber_1 : decode cX3_readNumber 1 = .ok (.getfield 19, 3) := by decide +kernel
theorem dX3_readNumber_4 : decode cX3_readNumber 4 = .ok (.aload_n 0, 1) := by decide +kernel
theorem dX3_readNumber_5 : decode cX3_readNumber 5 = .ok (.getfield 15, 3) := by decide +kernel
theorem dX3_readNumber_8 : decode cX3_readNumber 8 = .ok (.if_icmp .ge 30, 3) := by decide +kernel
theorem dX3_readNumber_11 : decode cX3_readNumber 11 = .ok (.aload_n 0, 1) := by decide +kernel
theorem dX3_readNumber_12 : decode cX3_readNumber 12 = .ok (.aload_n 0, 1) := by decide +kernel
theorem dX3_readNumber_13 : decode cX3_readNumber 13 = .ok (.getfield 19, 3) := by decide +kernel
theorem dX3_readNumber_16 : decode cX3_readNumber 16 = .ok (.invokevirtual 25, 3) := by decide +kernel
theorem dX3_readNumber_19 : decode cX3_readNumber 19 = .ok (.invokestatic 35, 3) := by decide +kernel
theorem dX3_readNumber_22 : decode cX3_readNumber 22 = .ok (.ifCond .eq 16, 3) := by decide +kernel
theorem dX3_readNumber_25 : decode cX3_readNumber 25 = .ok (.aload_n 0, 1) := by decide +kernel
theorem dX3_readNumber_26 : decode cX3_readNumber 26 = .ok (.dup, 1) := by decide +kernel
theorem dX3_readNumber_27 : decode cX3_readNumber 27 = .ok (.getfield 19, 3) := by decide +kernel
theorem dX3_readNumber_30 : decode cX3_readNumber 30 = .ok (.iconst 1, 1) := by decide +kernel
theorem dX3_readNumber_31 : decode cX3_readNumber 31 = .ok (.iadd, 1) := by decide +kernel
theorem dX3_readNumber_32 : decode cX3_readNumber 32 = .ok (.putfield 19, 3) := by decide +kernel
theorem dX3_readNumber_35 : decode cX3_readNumber 35 = .ok (.goto (-35), 3) := by decide +kernel
theorem dX3_readNumber_38 : decode cX3_readNumber 38 = .ok (.aload_n 0, 1) := by decide +kernel
theorem dX3_readNumber_39 : decode cX3_readNumber 39 = .ok (.aload_n 0, 1) := by decide +kernel
theorem dX3_readNumber_40 : decode cX3_readNumber 40 = .ok (.getfield 29, 3) := by decide +kernel
theorem dX3_readNumber_43 : decode cX3_readNumber 43 = .ok (.invokevirtual 25, 3) := by decide +kernel
theorem dX3_readNumber_46 : decode cX3_readNumber 46 = .ok (.bipush 48, 2) := by decide +kernel
theorem dX3_readNumber_48 : decode cX3_readNumber 48 = .ok (.isub, 1) := by decide +kernel
theorem dX3_readNumber_49 : decode cX3_readNumber 49 = .ok (.istore_n 1, 1) := by decide +kernel
theorem dX3_readNumber_50 : decode cX3_readNumber 50 = .ok (.aload_n 0, 1) := by decide +kernel
theorem dX3_readNumber_51 : decode cX3_readNumber 51 = .ok (.getfield 19, 3) := by decide +kernel
theorem dX3_readNumber_54 : decode cX3_readNumber 54 = .ok (.aload_n 0, 1) := by decide +kernel
theorem dX3_readNumber_55 : decode cX3_readNumber 55 = .ok (.getfield 29, 3) := by decide +kernel
theorem dX3_readNumber_58 : decode cX3_readNumber 58 = .ok (.isub, 1) := by decide +kernel
theorem dX3_readNumber_59 : decode cX3_readNumber 59 = .ok (.istore_n 2, 1) := by decide +kernel
theorem dX3_readNumber_60 : decode cX3_readNumber 60 = .ok (.iload_n 2, 1) := by decide +kernel
theorem dX3_readNumber_61 : decode cX3_readNumber 61 = .ok (.iconst 1, 1) := by decide +kernel
theorem dX3_readNumber_62 : decode cX3_readNumber 62 = .ok (.if_icmp .ne 16, 3) := by decide +kernel
theorem dX3_readNumber_65 : decode cX3_readNumber 65 = .ok (.aload_n 0, 1) := by decide +kernel
theorem dX3_readNumber_66 : decode cX3_readNumber 66 = .ok (.iconst 2, 1) := by decide +kernel
theorem dX3_readNumber_67 : decode cX3_readNumber 67 = .ok (.putfield 32, 3) := by decide +kernel
theorem dX3_readNumber_70 : decode cX3_readNumber 70 = .ok (.aload_n 0, 1) := by decide +kernel
theorem dX3_readNumber_71 : decode cX3_readNumber 71 = .ok (.iload_n 1, 1) := by decide +kernel
theorem dX3_readNumber_72 : decode cX3_readNumber 72 = .ok (.putfield 48, 3) := by decide +kernel
theorem dX3_readNumber_75 : decode cX3_readNumber 75 = .ok (.goto 47, 3) := by decide +kernel
theorem dX3_readNumber_78 : decode cX3_readNumber 78 = .ok (.iload_n 2, 1) := by decide +kernel
theorem dX3_readNumber_79 : decode cX3_readNumber 79 = .ok (.iconst 2, 1) := by decide +kernel
theorem dX3_readNumber_80 : decode cX3_readNumber 80 = .ok (.if_icmp .ne 37, 3) := by decide +kernel
theorem dX3_readNumber_83 : decode cX3_readNumber 83 = .ok (.iload_n 1, 1) := by decide +kernel
theorem dX3_readNumber_84 : decode cX3_readNumber 84 = .ok (.ifCond .eq 33, 3) := by decide +kernel
theorem dX3_readNumber_87 : decode cX3_readNumber 87 = .ok (.aload_n 0, 1) := by decide +kernel
theorem dX3_readNumber_88 : decode cX3_readNumber 88 = .ok (.iconst 2, 1) := by decide +kernel
theorem dX3_readNumber_89 : decode cX3_readNumber 89 = .ok (.putfield 32, 3) := by decide +kernel
theorem dX3_readNumber_92 : decode cX3_readNumber 92 = .ok (.aload_n 0, 1) := by decide +kernel
theorem dX3_readNumber_93 : decode cX3_readNumber 93 = .ok (.bipush 10, 2) := by decide +kernel
theorem dX3_readNumber_95 : decode cX3_readNumber 95 = .ok (.iload_n 1, 1) := by decide +kernel
theorem dX3_readNumber_96 : decode cX3_readNumber 96 = .ok (.imul, 1) := by decide +kernel
theorem dX3_readNumber_97 : decode cX3_readNumber 97 = .ok (.aload_n 0, 1) := by decide +kernel
theorem dX3_readNumber_98 : decode cX3_readNumber 98 = .ok (.aload_n 0, 1) := by decide +kernel
theorem dX3_readNumber_99 : decode cX3_readNumber 99 = .ok (.getfield 29, 3) := by decide +kernel
theorem dX3_readNumber_102 : decode cX3_readNumber 102 = .ok (.iconst 1, 1) := by decide +kernel
theorem dX3_readNumber_103 : decode cX3_readNumber 103 = .ok (.iadd, 1) := by decide +kernel
theorem dX3_readNumber_104 : decode cX3_readNumber 104 = .ok (.invokevirtual 25, 3) := by decide +kernel
theorem dX3_readNumber_107 : decode cX3_readNumber 107 = .ok (.iadd, 1) := by decide +kernel
theorem dX3_readNumber_108 : decode cX3_readNumber 108 = .ok (.bipush 48, 2) := by decide +kernel
theorem dX3_readNumber_110 : decode cX3_readNumber 110 = .ok (.isub, 1) := by decide +kernel
theorem dX3_readNumber_111 : decode cX3_readNumber 111 = .ok (.putfield 48, 3) := by decide +kernel
theorem dX3_readNumber_114 : decode cX3_readNumber 114 = .ok (.goto 8, 3) := by decide +kernel
theorem dX3_readNumber_117 : decode cX3_readNumber 117 = .ok (.aload_n 0, 1) := by decide +kernel
theorem dX3_readNumber_118 : decode cX3_readNumber 118 = .ok (.iconst 4, 1) := by decide +kernel
theorem dX3_readNumber_119 : decode cX3_readNumber 119 = .ok (.putfield 32, 3) := by decide +kernel
theorem dX3_readNumber_122 : decode cX3_readNumber 122 = .ok (.return_, 1) := by decide +kernel
def T_X3_readNumber (post : PO) : List (Nat × OP) := [(0, o_aload 0 1), (1, o_getf 3 2 4), (4, o_aload 0 5), (5, o_getf 3 1 8), (8, o_icmp (fun x y => y ≤ x) 38 11), (11, o_aload 0 12), (12, o_aload 0 13), (13, o_getf 3 2 16), (16, o_callV 3 S_X3_byteAt 1 19), (19, o_callS S_X3_isDigit 1 22), (22, o_if (fun x => x = 0) 38 25), (25, o_aload 0 26), (26, o_dup 27), (27, o_getf 3 2 30), (30, o_const 1 31), (31, o_bin (fun x y => x + y) 32), (32, o_putI 3 2 35), (35, o_goto 0), (38, o_aload 0 39), (39, o_aload 0 40), (40, o_getf 3 3 43), (43, o_callV 3 S_X3_byteAt 1 46), (46, o_const 48 48), (48, o_bin (fun x y => x - y) 49), (49, o_istore 1 50), (50, o_aload 0 51), (51, o_getf 3 2 54), (54, o_aload 0 55), (55, o_getf 3 3 58), (58, o_bin (fun x y => x - y) 59), (59, o_istore 2 60), (60, o_iload 2 61), (61, o_const 1 62), (62, o_icmp (fun x y => x = y) 65 78), (65, o_aload 0 66), (66, o_const 2 67), (67, o_putI 3 4 70), (70, o_aload 0 71), (71, o_iload 1 72), (72, o_putI 3 5 75), (75, o_goto 122), (78, o_iload 2 79), (79, o_const 2 80), (80, o_icmp (fun x y => x = y) 83 117), (83, o_iload 1 84), (84, o_if (fun x => x = 0) 117 87), (87, o_aload 0 88), (88, o_const 2 89), (89, o_putI 3 4 92), (92, o_aload 0 93), (93, o_const 10 95), (95, o_iload 1 96), (96, o_bin (fun x y => x * y) 97), (97, o_aload 0 98), (98, o_aload 0 99), (99, o_getf 3 3 102), (102, o_const 1 103), (103, o_bin (fun x y => x + y) 104), (104, o_callV 3 S_X3_byteAt 1 107), (107, o_bin (fun x y => x + y) 108), (108, o_const 48 110), (110, o_bin (fun x y => x - y) 111), (111, o_putI 3 5 114), (114, o_goto 122), (117, o_aload 0 118), (118, o_const 4 119), (119, o_putI 3 4 122), (122, o_ret post)]
theorem k_X3_readNumber_0 (post : PO) : lk (T_X3_readNumber post) 0 = o_aload 0 1 := rfl
theorem k_X3_readNumber_1 (post : PO) : lk (T_X3_readNumber post) 1 = o_getf 3 2 4 := rfl
theorem k_X3_readNumber_4 (post : PO) : lk (T_X3_readNumber post) 4 = o_aload 0 5 := rfl
theorem k_X3_readNumber_5 (post : PO) : lk (T_X3_readNumber post) 5 = o_getf 3 1 8 := rfl
theorem k_X3_readNumber_8 (post : PO) : lk (T_X3_readNumber post) 8 = o_icmp (fun x y => y ≤ x) 38 11 := rfl
theorem k_X3_readNumber_11 (post : PO) : lk (T_X3_readNumber post) 11 = o_aload 0 12 := rfl
theorem k_X3_readNumber_12 (post : PO) : lk (T_X3_readNumber post) 12 = o_aload 0 13 := rfl
theorem k_X3_readNumber_13 (post : PO) : lk (T_X3_readNumber post) 13 = o_getf 3 2 16 := rfl
theorem k_X3_readNumber_16 (post : PO) : lk (T_X3_readNumber post) 16 = o_callV 3 S_X3_byteAt 1 19 := rfl
theorem k_X3_readNumber_19 (post : PO) : lk (T_X3_readNumber post) 19 = o_callS S_X3_isDigit 1 22 := rfl
theorem k_X3_readNumber_22 (post : PO) : lk (T_X3_readNumber post) 22 = o_if (fun x => x = 0) 38 25 := rfl
theorem k_X3_readNumber_25 (post : PO) : lk (T_X3_readNumber post) 25 = o_aload 0 26 := rfl
theorem k_X3_readNumber_26 (post : PO) : lk (T_X3_readNumber post) 26 = o_dup 27 := rfl
theorem k_X3_readNumber_27 (post : PO) : lk (T_X3_readNumber post) 27 = o_getf 3 2 30 := rfl
theorem k_X3_readNumber_30 (post : PO) : lk (T_X3_readNumber post) 30 = o_const 1 31 := rfl
theorem k_X3_readNumber_31 (post : PO) : lk (T_X3_readNumber post) 31 = o_bin (fun x y => x + y) 32 := rfl
theorem k_X3_readNumber_32 (post : PO) : lk (T_X3_readNumber post) 32 = o_putI 3 2 35 := rfl
theorem k_X3_readNumber_35 (post : PO) : lk (T_X3_readNumber post) 35 = o_goto 0 := rfl
theorem k_X3_readNumber_38 (post : PO) : lk (T_X3_readNumber post) 38 = o_aload 0 39 := rfl
theorem k_X3_readNumber_39 (post : PO) : lk (T_X3_readNumber post) 39 = o_aload 0 40 := rfl
theorem k_X3_readNumber_40 (post : PO) : lk (T_X3_readNumber post) 40 = o_getf 3 3 43 := rfl
theorem k_X3_readNumber_43 (post : PO) : lk (T_X3_readNumber post) 43 = o_callV 3 S_X3_byteAt 1 46 := rfl
theorem k_X3_readNumber_46 (post : PO) : lk (T_X3_readNumber post) 46 = o_const 48 48 := rfl
theorem k_X3_readNumber_48 (post : PO) : lk (T_X3_readNumber post) 48 = o_bin (fun x y => x - y) 49 := rfl
theorem k_X3_readNumber_49 (post : PO) : lk (T_X3_readNumber post) 49 = o_istore 1 50 := rfl
theorem k_X3_readNumber_50 (post : PO) : lk (T_X3_readNumber post) 50 = o_aload 0 51 := rfl
theorem k_X3_readNumber_51 (post : PO) : lk (T_X3_readNumber post) 51 = o_getf 3 2 54 := rfl
theorem k_X3_readNumber_54 (post : PO) : lk (T_X3_readNumber post) 54 = o_aload 0 55 := rfl
theorem k_X3_readNumber_55 (post : PO) : lk (T_X3_readNumber post) 55 = o_getf 3 3 58 := rfl
theorem k_X3_readNumber_58 (post : PO) : lk (T_X3_readNumber post) 58 = o_bin (fun x y => x - y) 59 := rfl
theorem k_X3_readNumber_59 (post : PO) : lk (T_X3_readNumber post) 59 = o_istore 2 60 := rfl
theorem k_X3_readNumber_60 (post : PO) : lk (T_X3_readNumber post) 60 = o_iload 2 61 := rfl
theorem k_X3_readNumber_61 (post : PO) : lk (T_X3_readNumber post) 61 = o_const 1 62 := rfl
theorem k_X3_readNumber_62 (post : PO) : lk (T_X3_readNumber post) 62 = o_icmp (fun x y => x = y) 65 78 := rfl
theorem k_X3_readNumber_65 (post : PO) : lk (T_X3_readNumber post) 65 = o_aload 0 66 := rfl
theorem k_X3_readNumber_66 (post : PO) : lk (T_X3_readNumber post) 66 = o_const 2 67 := rfl
theorem k_X3_readNumber_67 (post : PO) : lk (T_X3_readNumber post) 67 = o_putI 3 4 70 := rfl
theorem k_X3_readNumber_70 (post : PO) : lk (T_X3_readNumber post) 70 = o_aload 0 71 := rfl
theorem k_X3_readNumber_71 (post : PO) : lk (T_X3_readNumber post) 71 = o_iload 1 72 := rfl
theorem k_X3_readNumber_72 (post : PO) : lk (T_X3_readNumber post) 72 = o_putI 3 5 75 := rfl
theorem k_X3_readNumber_75 (post : PO) : lk (T_X3_readNumber post) 75 = o_goto 122 := rfl
theorem k_X3_readNumber_78 (post : PO) : lk (T_X3_readNumber post) 78 = o_iload 2 79 := rfl
theorem k_X3_readNumber_79 (post : PO) : lk (T_X3_readNumber post) 79 = o_const 2 80 := rfl
theorem k_X3_readNumber_80 (post : PO) : lk (T_X3_readNumber post) 80 = o_icmp (fun x y => x = y) 83 117 := rfl
theorem k_X3_readNumber_83 (post : PO) : lk (T_X3_readNumber post) 83 = o_iload 1 84 := rfl
theorem k_X3_readNumber_84 (post : PO) : lk (T_X3_readNumber post) 84 = o_if (fun x => x = 0) 117 87 := rfl
theorem k_X3_readNumber_87 (post : PO) : lk (T_X3_readNumber post) 87 = o_aload 0 88 := rfl
theorem k_X3_readNumber_88 (post : PO) : lk (T_X3_readNumber post) 88 = o_const 2 89 := rfl
theorem k_X3_readNumber_89 (post : PO) : lk (T_X3_readNumber post) 89 = o_putI 3 4 92 := rfl
theorem k_X3_readNumber_92 (post : PO) : lk (T_X3_readNumber post) 92 = o_aload 0 93 := rfl
theorem k_X3_readNumber_93 (post : PO) : lk (T_X3_readNumber post) 93 = o_const 10 95 := rfl
theorem k_X3_readNumber_95 (post : PO) : lk (T_X3_readNumber post) 95 = o_iload 1 96 := rfl
theorem k_X3_readNumber_96 (post : PO) : lk (T_X3_readNumber post) 96 = o_bin (fun x y => x * y) 97 := rfl
theorem k_X3_readNumber_97 (post : PO) : lk (T_X3_readNumber post) 97 = o_aload 0 98 := rfl
theorem k_X3_readNumber_98 (post : PO) : lk (T_X3_readNumber post) 98 = o_aload 0 99 := rfl
theorem k_X3_readNumber_99 (post : PO) : lk (T_X3_readNumber post) 99 = o_getf 3 3 102 := rfl
theorem k_X3_readNumber_102 (post : PO) : lk (T_X3_readNumber post) 102 = o_const 1 103 := rfl
theorem k_X3_readNumber_103 (post : PO) : lk (T_X3_readNumber post) 103 = o_bin (fun x y => x + y) 104 := rfl
theorem k_X3_readNumber_104 (post : PO) : lk (T_X3_readNumber post) 104 = o_callV 3 S_X3_byteAt 1 107 := rfl
theorem k_X3_readNumber_107 (post : PO) : lk (T_X3_readNumber post) 107 = o_bin (fun x y => x + y) 108 := rfl
theorem k_X3_readNumber_108 (post : PO) : lk (T_X3_readNumber post) 108 = o_const 48 110 := rfl
theorem k_X3_readNumber_110 (post : PO) : lk (T_X3_readNumber post) 110 = o_bin (fun x y => x - y) 111 := rfl
theorem k_X3_readNumber_111 (post : PO) : lk (T_X3_readNumber post) 111 = o_putI 3 5 114 := rfl
theorem k_X3_readNumber_114 (post : PO) : lk (T_X3_readNumber post) 114 = o_goto 122 := rfl
theorem k_X3_readNumber_117 (post : PO) : lk (T_X3_readNumber post) 117 = o_aload 0 118 := rfl
theorem k_X3_readNumber_118 (post : PO) : lk (T_X3_readNumber post) 118 = o_const 4 119 := rfl
theorem k_X3_readNumber_119 (post : PO) : lk (T_X3_readNumber post) 119 = o_putI 3 4 122 := rfl
theorem k_X3_readNumber_122 (post : PO) : lk (T_X3_readNumber post) 122 = o_ret post := rfl
set_option maxRecDepth 100000 in
theorem t_X3_readNumber {p : Program} {l : Launch} {e : Env} {s : State} {m : MethodId} {args : Array Value} {below : List Frame} {meth : Method} {c : Code} {D : va_G} {dA : Nat → ClassId} {ad : Nat → Nat} (post : PO) (C : CX p s m args meth c cX3_readNumber 3 yX3_readNumber.cls D dA ad (AA ad s.heap.size)) (hr : meth.sig.returnType = none) : SndL (WW p l e ({ frames := 1, cells := 0, slots := 0, locals := 21 } : Room) s m args below meth c 0 0 (MQ below (CQ D dA ad post (AA ad s.heap.size)) args s 0 0 (AA ad s.heap.size)) 3 D dA ad (AA ad s.heap.size)) (T_X3_readNumber post) := by
  refine snd_c (s_aload_n C rfl dX3_readNumber_0) ?_
  refine snd_c (s_getf C (ci := 3) (j := 2) (T := TX3) rfl inX3 (by decide) fl_RX3_19 dX3_readNumber_1) ?_
  refine snd_c (s_aload_n C rfl dX3_readNumber_4) ?_
  refine snd_c (s_getf C (ci := 3) (j := 1) (T := TX3) rfl inX3 (by decide) fl_RX3_15 dX3_readNumber_5) ?_
  refine snd_c (s_icmp_ge C dX3_readNumber_8 (by decide)) ?_
  refine snd_c (s_aload_n C rfl dX3_readNumber_11) ?_
  refine snd_c (s_aload_n C rfl dX3_readNumber_12) ?_
  refine snd_c (s_getf C (ci := 3) (j := 2) (T := TX3) rfl inX3 (by decide) fl_RX3_19 dX3_readNumber_13) ?_
  refine snd_c (s_callV C (ci := 3) c_X3_byteAt rfl cw_RX3_25 ⟨rfl, rfl⟩ ⟨by decide +kernel, by decide +kernel, by decide +kernel⟩ ⟨by decide, by decide⟩ ⟨Nat.zero_le _, Nat.zero_le _⟩ dX3_readNumber_16) ?_
  refine snd_c (s_callS C c_X3_isDigit cw_RX3_35 ⟨rfl, rfl⟩ ⟨by decide +kernel, by decide +kernel, by decide +kernel⟩ ⟨by decide, by decide⟩ ⟨Nat.zero_le _, Nat.zero_le _⟩ dX3_readNumber_19) ?_
  refine snd_c (s_if_eq C dX3_readNumber_22 (by decide)) ?_
  refine snd_c (s_aload_n C rfl dX3_readNumber_25) ?_
  refine snd_c (s_dup C dX3_readNumber_26) ?_
  refine snd_c (s_getf C (ci := 3) (j := 2) (T := TX3) rfl inX3 (by decide) fl_RX3_19 dX3_readNumber_27) ?_
  refine snd_c (s_iconst C dX3_readNumber_30 rfl) ?_
  refine snd_c (s_iadd C dX3_readNumber_31) ?_
  refine snd_c (s_putI C (ci := 3) (j := 2) (T := TX3) tyX3 tyX3_ok nmX3 rfl inX3 (by decide) rfl rfl fl_RX3_19 dX3_readNumber_32) ?_
  refine snd_c (s_goto C dX3_readNumber_35 (by decide)) ?_
  refine snd_c (s_aload_n C rfl dX3_readNumber_38) ?_
  refine snd_c (s_aload_n C rfl dX3_readNumber_39) ?_
  refine snd_c (s_getf C (ci := 3) (j := 3) (T := TX3) rfl inX3 (by decide) fl_RX3_29 dX3_readNumber_40) ?_
  refine snd_c (s_callV C (ci := 3) c_X3_byteAt rfl cw_RX3_25 ⟨rfl, rfl⟩ ⟨by decide +kernel, by decide +kernel, by decide +kernel⟩ ⟨by decide, by decide⟩ ⟨Nat.zero_le _, Nat.zero_le _⟩ dX3_readNumber_43) ?_
  refine snd_c (s_bipush C dX3_readNumber_46 rfl) ?_
  refine snd_c (s_isub C dX3_readNumber_48) ?_
  refine snd_c (s_istore_n C rfl (by decide) dX3_readNumber_49) ?_
  refine snd_c (s_aload_n C rfl dX3_readNumber_50) ?_
  refine snd_c (s_getf C (ci := 3) (j := 2) (T := TX3) rfl inX3 (by decide) fl_RX3_19 dX3_readNumber_51) ?_
  refine snd_c (s_aload_n C rfl dX3_readNumber_54) ?_
  refine snd_c (s_getf C (ci := 3) (j := 3) (T := TX3) rfl inX3 (by decide) fl_RX3_29 dX3_readNumber_55) ?_
  refine snd_c (s_isub C dX3_readNumber_58) ?_
  refine snd_c (s_istore_n C rfl (by decide) dX3_readNumber_59) ?_
  refine snd_c (s_iload_n C rfl dX3_readNumber_60) ?_
  refine snd_c (s_iconst C dX3_readNumber_61 rfl) ?_
  refine snd_c (s_icmp_ne C dX3_readNumber_62 (by decide)) ?_
  refine snd_c (s_aload_n C rfl dX3_readNumber_65) ?_
  refine snd_c (s_iconst C dX3_readNumber_66 rfl) ?_
  refine snd_c (s_putI C (ci := 3) (j := 4) (T := TX3) tyX3 tyX3_ok nmX3 rfl inX3 (by decide) rfl rfl fl_RX3_32 dX3_readNumber_67) ?_
  refine snd_c (s_aload_n C rfl dX3_readNumber_70) ?_
  refine snd_c (s_iload_n C rfl dX3_readNumber_71) ?_
  refine snd_c (s_putI C (ci := 3) (j := 5) (T := TX3) tyX3 tyX3_ok nmX3 rfl inX3 (by decide) rfl rfl fl_RX3_48 dX3_readNumber_72) ?_
  refine snd_c (s_goto C dX3_readNumber_75 (by decide)) ?_
  refine snd_c (s_iload_n C rfl dX3_readNumber_78) ?_
  refine snd_c (s_iconst C dX3_readNumber_79 rfl) ?_
  refine snd_c (s_icmp_ne C dX3_readNumber_80 (by decide)) ?_
  refine snd_c (s_iload_n C rfl dX3_readNumber_83) ?_
  refine snd_c (s_if_eq C dX3_readNumber_84 (by decide)) ?_
  refine snd_c (s_aload_n C rfl dX3_readNumber_87) ?_
  refine snd_c (s_iconst C dX3_readNumber_88 rfl) ?_
  refine snd_c (s_putI C (ci := 3) (j := 4) (T := TX3) tyX3 tyX3_ok nmX3 rfl inX3 (by decide) rfl rfl fl_RX3_32 dX3_readNumber_89) ?_
  refine snd_c (s_aload_n C rfl dX3_readNumber_92) ?_
  refine snd_c (s_bipush C dX3_readNumber_93 rfl) ?_
  refine snd_c (s_iload_n C rfl dX3_readNumber_95) ?_
  refine snd_c (s_imul C dX3_readNumber_96) ?_
  refine snd_c (s_aload_n C rfl dX3_readNumber_97) ?_
  refine snd_c (s_aload_n C rfl dX3_readNumber_98) ?_
  refine snd_c (s_getf C (ci := 3) (j := 3) (T := TX3) rfl inX3 (by decide) fl_RX3_29 dX3_readNumber_99) ?_
  refine snd_c (s_iconst C dX3_readNumber_102 rfl) ?_
  refine snd_c (s_iadd C dX3_readNumber_103) ?_
  refine snd_c (s_callV C (ci := 3) c_X3_byteAt rfl cw_RX3_25 ⟨rfl, rfl⟩ ⟨by decide +kernel, by decide +kernel, by decide +kernel⟩ ⟨by decide, by decide⟩ ⟨Nat.zero_le _, Nat.zero_le _⟩ dX3_readNumber_104) ?_
  refine snd_c (s_iadd C dX3_readNumber_107) ?_
  refine snd_c (s_bipush C dX3_readNumber_108 rfl) ?_
  refine snd_c (s_isub C dX3_readNumber_110) ?_
  refine snd_c (s_putI C (ci := 3) (j := 5) (T := TX3) tyX3 tyX3_ok nmX3 rfl inX3 (by decide) rfl rfl fl_RX3_48 dX3_readNumber_111) ?_
  refine snd_c (s_goto C dX3_readNumber_114 (by decide)) ?_
  refine snd_c (s_aload_n C rfl dX3_readNumber_117) ?_
  refine snd_c (s_iconst C dX3_readNumber_118 rfl) ?_
  refine snd_c (s_putI C (ci := 3) (j := 4) (T := TX3) tyX3 tyX3_ok nmX3 rfl inX3 (by decide) rfl rfl fl_RX3_32 dX3_readNumber_119) ?_
  refine snd_c (s_ret C hr dX3_readNumber_122) ?_
  exact trivial
theorem cw_RX3_42 : ∀ w ∈ ([.methodLink RX3 42 yX3_isLetter, .static yX3_isLetter, .initialized yX3_isLetter.cls, .code yX3_isLetter cX3_isLetter 1 (some .boolean)] : List Cond), w ∈ tb := tb_all [257, 258, 55, 259] (by decide +kernel) (by decide +kernel)
theorem cw_RX3_53 : ∀ w ∈ ([.methodLink RX3 53 yX3_isWord, .instanceMethod yX3_isWord, .selects yX3_isWord.cls yX3_isWord yX3_isWord, .initialized yX3_isWord.cls, .code yX3_isWord cX3_isWord 3 (some .boolean)] : List Cond), w ∈ tb := tb_all [265, 267, 3, 55, 268] (by decide +kernel) (by decide +kernel)
theorem cw_RX3_63 : ∀ w ∈ ([.methodLink RX3 63 yX3_rowAtHand, .instanceMethod yX3_rowAtHand, .selects yX3_rowAtHand.cls yX3_rowAtHand yX3_rowAtHand, .initialized yX3_rowAtHand.cls, .code yX3_rowAtHand cX3_rowAtHand 4 (some .int)] : List Cond), w ∈ tb := tb_all [320, 322, 4, 55, 323] (by decide +kernel) (by decide +kernel)
theorem dX3_readWord_0 : decode cX3_readWord 0 = .ok (.aload_n 0, 1) := by decide +kernel
theorem dX3_readWord_1 : decode cX3_readWord 1 = .ok (.getfield 19, 3) := by decide +kernel
theorem dX3_readWord_4 : decode cX3_readWord 4 = .ok (.aload_n 0, 1) := by decide +kernel
theorem dX3_readWord_5 : decode cX3_readWord 5 = .ok (.getfield 15, 3) := by decide +kernel
theorem dX3_readWord_8 : decode cX3_readWord 8 = .ok (.if_icmp .ge 30, 3) := by decide +kernel
theorem dX3_readWord_11 : decode cX3_readWord 11 = .ok (.aload_n 0, 1) := by decide +kernel
theorem dX3_readWord_12 : decode cX3_readWord 12 = .ok (.aload_n 0, 1) := by decide +kernel
theorem dX3_readWord_13 : decode cX3_readWord 13 = .ok (.getfield 19, 3) := by decide +kernel
theorem dX3_readWord_16 : decode cX3_readWord 16 = .ok (.invokevirtual 25, 3) := by decide +kernel
theorem dX3_readWord_19 : decode cX3_readWord 19 = .ok (.invokestatic 42, 3) := by decide +kernel
theorem dX3_readWord_22 : decode cX3_readWord 22 = .ok (.ifCond .eq 16, 3) := by decide +kernel
theorem dX3_readWord_25 : decode cX3_readWord 25 = .ok (.aload_n 0, 1) := by decide +kernel
theorem dX3_readWord_26 : decode cX3_readWord 26 = .ok (.dup, 1) := by decide +kernel
theorem dX3_readWord_27 : decode cX3_readWord 27 = .ok (.getfield 19, 3) := by decide +kernel
theorem dX3_readWord_30 : decode cX3_readWord 30 = .ok (.iconst 1, 1) := by decide +kernel
theorem dX3_readWord_31 : decode cX3_readWord 31 = .ok (.iadd, 1) := by decide +kernel
theorem dX3_readWord_32 : decode cX3_readWord 32 = .ok (.putfield 19, 3) := by decide +kernel
theorem dX3_readWord_35 : decode cX3_readWord 35 = .ok (.goto (-35), 3) := by decide +kernel
theorem dX3_readWord_38 : decode cX3_readWord 38 = .ok (.aload_n 0, 1) := by decide +kernel
theorem dX3_readWord_39 : decode cX3_readWord 39 = .ok (.ldc 51, 2) := by decide +kernel
theorem dX3_readWord_41 : decode cX3_readWord 41 = .ok (.invokevirtual 53, 3) := by decide +kernel
theorem dX3_readWord_44 : decode cX3_readWord 44 = .ok (.ifCond .eq 11, 3) := by decide +kernel
theorem dX3_readWord_47 : decode cX3_readWord 47 = .ok (.aload_n 0, 1) := by decide +kernel
theorem dX3_readWord_48 : decode cX3_readWord 48 = .ok (.iconst 5, 1) := by decide +kernel
theorem dX3_readWord_49 : decode cX3_readWord 49 = .ok (.putfield 32, 3) := by decide +kernel
theorem dX3_readWord_52 : decode cX3_readWord 52 = .ok (.goto 81, 3) := by decide +kernel
theorem dX3_readWord_55 : decode cX3_readWord 55 = .ok (.aload_n 0, 1) := by decide +kernel
theorem dX3_readWord_56 : decode cX3_readWord 56 = .ok (.ldc 57, 2) := by decide +kernel
theorem dX3_readWord_58 : decode cX3_readWord 58 = .ok (.invokevirtual 53, 3) := by decide +kernel
theorem dX3_readWord_61 : decode cX3_readWord 61 = .ok (.ifCond .eq 12, 3) := by decide +kernel
theorem dX3_readWord_64 : decode cX3_readWord 64 = .ok (.aload_n 0, 1) := by decide +kernel
theorem dX3_readWord_65 : decode cX3_readWord 65 = .ok (.bipush 6, 2) := by decide +kernel
theorem dX3_readWord_67 : decode cX3_readWord 67 = .ok (.putfield 32, 3) := by decide +kernel
theorem dX3_readWord_70 : decode cX3_readWord 70 = .ok (.goto 63, 3) := by decide +kernel
theorem dX3_readWord_73 : decode cX3_readWord 73 = .ok (.aload_n 0, 1) := by decide +kernel
theorem dX3_readWord_74 : decode cX3_readWord 74 = .ok (.ldc 59, 2) := by decide +kernel
theorem dX3_readWord_76 : decode cX3_readWord 76 = .ok (.invokevirtual 53, 3) := by decide +kernel
theorem dX3_readWord_79 : decode cX3_readWord 79 = .ok (.ifCond .eq 12, 3) := by decide +kernel
theorem dX3_readWord_82 : decode cX3_readWord 82 = .ok (.aload_n 0, 1) := by decide +kernel
theorem dX3_readWord_83 : decode cX3_readWord 83 = .ok (.bipush 7, 2) := by decide +kernel
theorem dX3_readWord_85 : decode cX3_readWord 85 = .ok (.putfield 32, 3) := by decide +kernel
theorem dX3_readWord_88 : decode cX3_readWord 88 = .ok (.goto 45, 3) := by decide +kernel
theorem dX3_readWord_91 : decode cX3_readWord 91 = .ok (.aload_n 0, 1) := by decide +kernel
theorem dX3_readWord_92 : decode cX3_readWord 92 = .ok (.ldc 61, 2) := by decide +kernel
theorem dX3_readWord_94 : decode cX3_readWord 94 = .ok (.invokevirtual 53, 3) := by decide +kernel
theorem dX3_readWord_97 : decode cX3_readWord 97 = .ok (.ifCond .eq 12, 3) := by decide +kernel
theorem dX3_readWord_100 : decode cX3_readWord 100 = .ok (.aload_n 0, 1) := by decide +kernel
theorem dX3_readWord_101 : decode cX3_readWord 101 = .ok (.bipush 8, 2) := by decide +kernel
theorem dX3_readWord_103 : decode cX3_readWord 103 = .ok (.putfield 32, 3) := by decide +kernel
theorem dX3_readWord_106 : decode cX3_readWord 106 = .ok (.goto 27, 3) := by decide +kernel
theorem dX3_readWord_109 : decode cX3_readWord 109 = .ok (.aload_n 0, 1) := by decide +kernel
theorem dX3_readWord_110 : decode cX3_readWord 110 = .ok (.aload_n 0, 1) := by decide +kernel
theorem dX3_readWord_111 : decode cX3_readWord 111 = .ok (.invokevirtual 63, 3) := by decide +kernel
theorem dX3_readWord_114 : decode cX3_readWord 114 = .ok (.putfield 48, 3) := by decide +kernel
theorem dX3_readWord_117 : decode cX3_readWord 117 = .ok (.aload_n 0, 1) := by decide +kernel
theorem dX3_readWord_118 : decode cX3_readWord 118 = .ok (.aload_n 0, 1) := by decide +kernel
theorem dX3_readWord_119 : decode cX3_readWord 119 = .ok (.getfield 48, 3) := by decide +kernel
theorem dX3_readWord_122 : decode cX3_readWord 122 = .ok (.ifCond .ge 7, 3) := by decide +kernel
theorem dX3_readWord_125 : decode cX3_readWord 125 = .ok (.iconst 4, 1) := by decide +kernel
theorem dX3_readWord_126 : decode cX3_readWord 126 = .ok (.goto 4, 3) := by decide +kernel
theorem dX3_readWord_129 : decode cX3_readWord 129 = .ok (.iconst 3, 1) := by decide +kernel
theorem dX3_readWord_130 : decode cX3_readWord 130 = .ok (.putfield 32, 3) := by decide +kernel
theorem dX3_readWord_133 : decode cX3_readWord 133 = .ok (.return_, 1) := by decide +kernel
def T_X3_readWord (post : PO) : List (Nat × OP) := [(0, o_aload 0 1), (1, o_getf 3 2 4), (4, o_aload 0 5), (5, o_getf 3 1 8), (8, o_icmp (fun x y => y ≤ x) 38 11), (11, o_aload 0 12), (12, o_aload 0 13), (13, o_getf 3 2 16), (16, o_callV 3 S_X3_byteAt 1 19), (19, o_callS S_X3_isLetter 1 22), (22, o_if (fun x => x = 0) 38 25), (25, o_aload 0 26), (26, o_dup 27), (27, o_getf 3 2 30), (30, o_const 1 31), (31, o_bin (fun x y => x + y) 32), (32, o_putI 3 2 35), (35, o_goto 0), (38, o_aload 0 39), (39, o_ref 100 41), (41, o_callV 3 S_X3_isWord 1 44), (44, o_if (fun x => x = 0) 55 47), (47, o_aload 0 48), (48, o_const 5 49), (49, o_putI 3 4 52), (52, o_goto 133), (55, o_aload 0 56), (56, o_ref 101 58), (58, o_callV 3 S_X3_isWord 1 61), (61, o_if (fun x => x = 0) 73 64), (64, o_aload 0 65), (65, o_const 6 67), (67, o_putI 3 4 70), (70, o_goto 133), (73, o_aload 0 74), (74, o_ref 102 76), (76, o_callV 3 S_X3_isWord 1 79), (79, o_if (fun x => x = 0) 91 82), (82, o_aload 0 83), (83, o_const 7 85), (85, o_putI 3 4 88), (88, o_goto 133), (91, o_aload 0 92), (92, o_ref 103 94), (94, o_callV 3 S_X3_isWord 1 97), (97, o_if (fun x => x = 0) 109 100), (100, o_aload 0 101), (101, o_const 8 103), (103, o_putI 3 4 106), (106, o_goto 133), (109, o_aload 0 110), (110, o_aload 0 111), (111, o_callV 3 S_X3_rowAtHand 0 114), (114, o_putI 3 5 117), (117, o_aload 0 118), (118, o_aload 0 119), (119, o_getf 3 5 122), (122, o_if (fun x => 0 ≤ x) 129 125), (125, o_const 4 126), (126, o_goto 130), (129, o_const 3 130), (130, o_putI 3 4 133), (133, o_ret post)]
theorem k_X3_readWord_0 (post : PO) : lk (T_X3_readWord post) 0 = o_aload 0 1 := rfl
theorem k_X3_readWord_1 (post : PO) : lk (T_X3_readWord post) 1 = o_getf 3 2 4 := rfl
theorem k_X3_readWord_4 (post : PO) : lk (T_X3_readWord post) 4 = o_aload 0 5 := rfl
theorem k_X3_readWord_5 (post : PO) : lk (T_X3_readWord post) 5 = o_getf 3 1 8 := rfl
theorem k_X3_readWord_8 (post : PO) : lk (T_X3_readWord post) 8 = o_icmp (fun x y => y ≤ x) 38 11 := rfl
theorem k_X3_readWord_11 (post : PO) : lk (T_X3_readWord post) 11 = o_aload 0 12 := rfl
theorem k_X3_readWord_12 (post : PO) : lk (T_X3_readWord post) 12 = o_aload 0 13 := rfl
theorem k_X3_readWord_13 (post : PO) : lk (T_X3_readWord post) 13 = o_getf 3 2 16 := rfl
theorem k_X3_readWord_16 (post : PO) : lk (T_X3_readWord post) 16 = o_callV 3 S_X3_byteAt 1 19 := rfl
theorem k_X3_readWord_19 (post : PO) : lk (T_X3_readWord post) 19 = o_callS S_X3_isLetter 1 22 := rfl
theorem k_X3_readWord_22 (post : PO) : lk (T_X3_readWord post) 22 = o_if (fun x => x = 0) 38 25 := rfl
theorem k_X3_readWord_25 (post : PO) : lk (T_X3_readWord post) 25 = o_aload 0 26 := rfl
theorem k_X3_readWord_26 (post : PO) : lk (T_X3_readWord post) 26 = o_dup 27 := rfl
theorem k_X3_readWord_27 (post : PO) : lk (T_X3_readWord post) 27 = o_getf 3 2 30 := rfl
theorem k_X3_readWord_30 (post : PO) : lk (T_X3_readWord post) 30 = o_const 1 31 := rfl
theorem k_X3_readWord_31 (post : PO) : lk (T_X3_readWord post) 31 = o_bin (fun x y => x + y) 32 := rfl
theorem k_X3_readWord_32 (post : PO) : lk (T_X3_readWord post) 32 = o_putI 3 2 35 := rfl
theorem k_X3_readWord_35 (post : PO) : lk (T_X3_readWord post) 35 = o_goto 0 := rfl
theorem k_X3_readWord_38 (post : PO) : lk (T_X3_readWord post) 38 = o_aload 0 39 := rfl
theorem k_X3_readWord_39 (post : PO) : lk (T_X3_readWord post) 39 = o_ref 100 41 := rfl
theorem k_X3_readWord_41 (post : PO) : lk (T_X3_readWord post) 41 = o_callV 3 S_X3_isWord 1 44 := rfl
theorem k_X3_readWord_44 (post : PO) : lk (T_X3_readWord post) 44 = o_if (fun x => x = 0) 55 47 := rfl
theorem k_X3_readWord_47 (post : PO) : lk (T_X3_readWord post) 47 = o_aload 0 48 := rfl
theorem k_X3_readWord_48 (post : PO) : lk (T_X3_readWord post) 48 = o_const 5 49 := rfl
theorem k_X3_readWord_49 (post : PO) : lk (T_X3_readWord post) 49 = o_putI 3 4 52 := rfl
theorem k_X3_readWord_52 (post : PO) : lk (T_X3_readWord post) 52 = o_goto 133 := rfl
theorem k_X3_readWord_55 (post : PO) : lk (T_X3_readWord post) 55 = o_aload 0 56 := rfl
theorem k_X3_readWord_56 (post : PO) : lk (T_X3_readWord post) 56 = o_ref 101 58 := rfl
theorem k_X3_readWord_58 (post : PO) : lk (T_X3_readWord post) 58 = o_callV 3 S_X3_isWord 1 61 := rfl
theorem k_X3_readWord_61 (post : PO) : lk (T_X3_readWord post) 61 = o_if (fun x => x = 0) 73 64 := rfl
theorem k_X3_readWord_64 (post : PO) : lk (T_X3_readWord post) 64 = o_aload 0 65 := rfl
theorem k_X3_readWord_65 (post : PO) : lk (T_X3_readWord post) 65 = o_const 6 67 := rfl
theorem k_X3_readWord_67 (post : PO) : lk (T_X3_readWord post) 67 = o_putI 3 4 70 := rfl
theorem k_X3_readWord_70 (post : PO) : lk (T_X3_readWord post) 70 = o_goto 133 := rfl
theorem k_X3_readWord_73 (post : PO) : lk (T_X3_readWord post) 73 = o_aload 0 74 := rfl
theorem k_X3_readWord_74 (post : PO) : lk (T_X3_readWord post) 74 = o_ref 102 76 := rfl
theorem k_X3_readWord_76 (post : PO) : lk (T_X3_readWord post) 76 = o_callV 3 S_X3_isWord 1 79 := rfl
theorem k_X3_readWord_79 (post : PO) : lk (T_X3_readWord post) 79 = o_if (fun x => x = 0) 91 82 := rfl
theorem k_X3_readWord_82 (post : PO) : lk (T_X3_readWord post) 82 = o_aload 0 83 := rfl
theorem k_X3_readWord_83 (post : PO) : lk (T_X3_readWord post) 83 = o_const 7 85 := rfl
theorem k_X3_readWord_85 (post : PO) : lk (T_X3_readWord post) 85 = o_putI 3 4 88 := rfl
theorem k_X3_readWord_88 (post : PO) : lk (T_X3_readWord post) 88 = o_goto 133 := rfl
theorem k_X3_readWord_91 (post : PO) : lk (T_X3_readWord post) 91 = o_aload 0 92 := rfl
theorem k_X3_readWord_92 (post : PO) : lk (T_X3_readWord post) 92 = o_ref 103 94 := rfl
theorem k_X3_readWord_94 (post : PO) : lk (T_X3_readWord post) 94 = o_callV 3 S_X3_isWord 1 97 := rfl
theorem k_X3_readWord_97 (post : PO) : lk (T_X3_readWord post) 97 = o_if (fun x => x = 0) 109 100 := rfl
theorem k_X3_readWord_100 (post : PO) : lk (T_X3_readWord post) 100 = o_aload 0 101 := rfl
theorem k_X3_readWord_101 (post : PO) : lk (T_X3_readWord post) 101 = o_const 8 103 := rfl
theorem k_X3_readWord_103 (post : PO) : lk (T_X3_readWord post) 103 = o_putI 3 4 106 := rfl
theorem k_X3_readWord_106 (post : PO) : lk (T_X3_readWord post) 106 = o_goto 133 := rfl
theorem k_X3_readWord_109 (post : PO) : lk (T_X3_readWord post) 109 = o_aload 0 110 := rfl
theorem k_X3_readWord_110 (post : PO) : lk (T_X3_readWord post) 110 = o_aload 0 111 := rfl
theorem k_X3_readWord_111 (post : PO) : lk (T_X3_readWord post) 111 = o_callV 3 S_X3_rowAtHand 0 114 := rfl
theorem k_X3_readWord_114 (post : PO) : lk (T_X3_readWord post) 114 = o_putI 3 5 117 := rfl
theorem k_X3_readWord_117 (post : PO) : lk (T_X3_readWord post) 117 = o_aload 0 118 := rfl
theorem k_X3_readWord_118 (post : PO) : lk (T_X3_readWord post) 118 = o_aload 0 119 := rfl
theorem k_X3_readWord_119 (post : PO) : lk (T_X3_readWord post) 119 = o_getf 3 5 122 := rfl
theorem k_X3_readWord_122 (post : PO) : lk (T_X3_readWord post) 122 = o_if (fun x => 0 ≤ x) 129 125 := rfl
theorem k_X3_readWord_125 (post : PO) : lk (T_X3_readWord post) 125 = o_const 4 126 := rfl
theorem k_X3_readWord_126 (post : PO) : lk (T_X3_readWord post) 126 = o_goto 130 := rfl
theorem k_X3_readWord_129 (post : PO) : lk (T_X3_readWord post) 129 = o_const 3 130 := rfl
theorem k_X3_readWord_130 (post : PO) : lk (T_X3_readWord post) 130 = o_putI 3 4 133 := rfl
theorem k_X3_readWord_133 (post : PO) : lk (T_X3_readWord post) 133 = o_ret post := rfl
set_option maxRecDepth 100000 in
theorem t_X3_readWord {p : Program} {l : Launch} {e : Env} {s : State} {m : MethodId} {args : Array Value} {below : List Frame} {meth : Method} {c : Code} {D : va_G} {dA : Nat → ClassId} {ad : Nat → Nat} (post : PO) (C : CX p s m args meth c cX3_readWord 1 yX3_readWord.cls D dA ad (AA ad s.heap.size)) (hr : meth.sig.returnType = none) : SndL (WW p l e ({ frames := 5, cells := 0, slots := 0, locals := 107 } : Room) s m args below meth c 0 0 (MQ below (CQ D dA ad post (AA ad s.heap.size)) args s 0 0 (AA ad s.heap.size)) 1 D dA ad (AA ad s.heap.size)) (T_X3_readWord post) := by
  refine snd_c (s_aload_n C rfl dX3_readWord_0) ?_
  refine snd_c (s_getf C (ci := 3) (j := 2) (T := TX3) rfl inX3 (by decide) fl_RX3_19 dX3_readWord_1) ?_
  refine snd_c (s_aload_n C rfl dX3_readWord_4) ?_
  refine snd_c (s_getf C (ci := 3) (j := 1) (T := TX3) rfl inX3 (by decide) fl_RX3_15 dX3_readWord_5) ?_
  refine snd_c (s_icmp_ge C dX3_readWord_8 (by decide)) ?_
  refine snd_c (s_aload_n C rfl dX3_readWord_11) ?_
  refine snd_c (s_aload_n C rfl dX3_readWord_12) ?_
  refine snd_c (s_getf C (ci := 3) (j := 2) (T := TX3) rfl inX3 (by decide) fl_RX3_19 dX3_readWord_13) ?_
  refine snd_c (s_callV C (ci := 3) c_X3_byteAt rfl cw_RX3_25 ⟨rfl, rfl⟩ ⟨by decide +kernel, by decide +kernel, by decide +kernel⟩ ⟨by decide, by decide⟩ ⟨Nat.zero_le _, Nat.zero_le _⟩ dX3_readWord_16) ?_
  refine snd_c (s_callS C c_X3_isLetter cw_RX3_42 ⟨rfl, rfl⟩ ⟨by decide +kernel, by decide +kernel, by decide +kernel⟩ ⟨by decide, by decide⟩ ⟨Nat.zero_le _, Nat.zero_le _⟩ dX3_readWord_19) ?_
  refine snd_c (s_if_eq C dX3_readWord_22 (by decide)) ?_
  refine snd_c (s_aload_n C rfl dX3_readWord_25) ?_
  refine snd_c (s_dup C dX3_readWord_26) ?_
  refine snd_c (s_getf C (ci := 3) (j := 2) (T := TX3) rfl inX3 (by decide) fl_RX3_19 dX3_readWord_27) ?_
  refine snd_c (s_iconst C dX3_readWord_30 rfl) ?_
  refine snd_c (s_iadd C dX3_readWord_31) ?_
  refine snd_c (s_putI C (ci := 3) (j := 2) (T := TX3) tyX3 tyX3_ok nmX3 rfl inX3 (by decide) rfl rfl fl_RX3_19 dX3_readWord_32) ?_
  refine snd_c (s_goto C dX3_readWord_35 (by decide)) ?_
  refine snd_c (s_aload_n C rfl dX3_readWord_38) ?_
  refine snd_c (s_ldcS C (tx := "key") (by decide) (fun h => h.2.1.1) dX3_readWord_39) ?_
  refine snd_c (s_callV C (ci := 3) c_X3_isWord rfl cw_RX3_53 ⟨rfl, rfl⟩ ⟨by decide +kernel, by decide +kernel, by decide +kernel⟩ ⟨by decide, by decide⟩ ⟨Nat.zero_le _, Nat.zero_le _⟩ dX3_readWord_41) ?_
  refine snd_c (s_if_eq C dX3_readWord_44 (by decide)) ?_
  refine snd_c (s_aload_n C rfl dX3_readWord_47) ?_
  refine snd_c (s_iconst C dX3_readWord_48 rfl) ?_
  refine snd_c (s_putI C (ci := 3) (j := 4) (T := TX3) tyX3 tyX3_ok nmX3 rfl inX3 (by decide) rfl rfl fl_RX3_32 dX3_readWord_49) ?_
  refine snd_c (s_goto C dX3_readWord_52 (by decide)) ?_
  refine snd_c (s_aload_n C rfl dX3_readWord_55) ?_
  refine snd_c (s_ldcS C (tx := "lock") (by decide) (fun h => h.2.1.2.1) dX3_readWord_56) ?_
  refine snd_c (s_callV C (ci := 3) c_X3_isWord rfl cw_RX3_53 ⟨rfl, rfl⟩ ⟨by decide +kernel, by decide +kernel, by decide +kernel⟩ ⟨by decide, by decide⟩ ⟨Nat.zero_le _, Nat.zero_le _⟩ dX3_readWord_58) ?_
  refine snd_c (s_if_eq C dX3_readWord_61 (by decide)) ?_
  refine snd_c (s_aload_n C rfl dX3_readWord_64) ?_
  refine snd_c (s_bipush C dX3_readWord_65 rfl) ?_
  refine snd_c (s_putI C (ci := 3) (j := 4) (T := TX3) tyX3 tyX3_ok nmX3 rfl inX3 (by decide) rfl rfl fl_RX3_32 dX3_readWord_67) ?_
  refine snd_c (s_goto C dX3_readWord_70 (by decide)) ?_
  refine snd_c (s_aload_n C rfl dX3_readWord_73) ?_
  refine snd_c (s_ldcS C (tx := "person") (by decide) (fun h => h.2.1.2.2.1) dX3_readWord_74) ?_
  refine snd_c (s_callV C (ci := 3) c_X3_isWord rfl cw_RX3_53 ⟨rfl, rfl⟩ ⟨by decide +kernel, by decide +kernel, by decide +kernel⟩ ⟨by decide, by decide⟩ ⟨Nat.zero_le _, Nat.zero_le _⟩ dX3_readWord_76) ?_
  refine snd_c (s_if_eq C dX3_readWord_79 (by decide)) ?_
  refine snd_c (s_aload_n C rfl dX3_readWord_82) ?_
  refine snd_c (s_bipush C dX3_readWord_83 rfl) ?_
  refine snd_c (s_putI C (ci := 3) (j := 4) (T := TX3) tyX3 tyX3_ok nmX3 rfl inX3 (by decide) rfl rfl fl_RX3_32 dX3_readWord_85) ?_
  refine snd_c (s_goto C dX3_readWord_88 (by decide)) ?_
  refine snd_c (s_aload_n C rfl dX3_readWord_91) ?_
  refine snd_c (s_ldcS C (tx := "holds") (by decide) (fun h => h.2.1.2.2.2) dX3_readWord_92) ?_
  refine snd_c (s_callV C (ci := 3) c_X3_isWord rfl cw_RX3_53 ⟨rfl, rfl⟩ ⟨by decide +kernel, by decide +kernel, by decide +kernel⟩ ⟨by decide, by decide⟩ ⟨Nat.zero_le _, Nat.zero_le _⟩ dX3_readWord_94) ?_
  refine snd_c (s_if_eq C dX3_readWord_97 (by decide)) ?_
  refine snd_c (s_aload_n C rfl dX3_readWord_100) ?_
  refine snd_c (s_bipush C dX3_readWord_101 rfl) ?_
  refine snd_c (s_putI C (ci := 3) (j := 4) (T := TX3) tyX3 tyX3_ok nmX3 rfl inX3 (by decide) rfl rfl fl_RX3_32 dX3_readWord_103) ?_
  refine snd_c (s_goto C dX3_readWord_106 (by decide)) ?_
  refine snd_c (s_aload_n C rfl dX3_readWord_109) ?_
  refine snd_c (s_aload_n C rfl dX3_readWord_110) ?_
  refine snd_c (s_callV C (ci := 3) c_X3_rowAtHand rfl cw_RX3_63 ⟨rfl, rfl⟩ ⟨by decide +kernel, by decide +kernel, by decide +kernel⟩ ⟨by decide, by decide⟩ ⟨Nat.zero_le _, Nat.zero_le _⟩ dX3_readWord_111) ?_
  refine snd_c (s_putI C (ci := 3) (j := 5) (T := TX3) tyX3 tyX3_ok nmX3 rfl inX3 (by decide) rfl rfl fl_RX3_48 dX3_readWord_114) ?_
  refine snd_c (s_aload_n C rfl dX3_readWord_117) ?_
  refine snd_c (s_aload_n C rfl dX3_readWord_118) ?_
  refine snd_c (s_getf C (ci := 3) (j := 5) (T := TX3) rfl inX3 (by decide) fl_RX3_48 dX3_readWord_119) ?_
  refine snd_c (s_if_ge C dX3_readWord_122 (by decide)) ?_
  refine snd_c (s_iconst C dX3_readWord_125 rfl) ?_
  refine snd_c (s_goto C dX3_readWord_126 (by decide)) ?_
  refine snd_c (s_iconst C dX3_readWord_129 rfl) ?_
  refine snd_c (s_putI C (ci := 3) (j := 4) (T := TX3) tyX3 tyX3_ok nmX3 rfl inX3 (by decide) rfl rfl fl_RX3_32 dX3_readWord_130) ?_
  refine snd_c (s_ret C hr dX3_readWord_133) ?_
  exact trivial
theorem sI_z {i : Nat} {x y : Int32} {M : AM} (h : x = y) : sI i x M = sI i y M := by rw [h]
set_option maxRecDepth 100000 in
theorem v_X3_readNumber : ∀ as M post, S_X3_readNumber as M post → wsum as ≤ 3 ∧ RUN (T_X3_readNumber post) 0 (entL 3 as) [] M := by
  rintro as M post ⟨L, t, s, rfl, hT, hp, hs, hsL, hd, h⟩
  have hT2 := hT.2.1
  have hge := sk_ge isD t (L - s) s
  refine ⟨by show 1 ≤ 3; omega, run_cut [0, 38] (fun μ pc lv st M' => st = [] ∧ ((pc = 0 ∧ ∃ i, s ≤ i ∧ i ≤ L ∧ sk isD t (L - i) i = sk isD t (L - s) s ∧ M' = sI 1 (nI i) M ∧ μ = 1000 - i ∧ lv = [some (VR 1), none, none]) ∨ (pc = 38 ∧ M' = sI 1 (nI (sk isD t (L - s) s)) M ∧ μ = 10 ∧ lv = [some (VR 1), none, none]))) 60 ?_ (1000 - s) 0 _ _ _ ⟨rfl, Or.inl ⟨rfl, s, Nat.le_refl s, by omega, rfl, (sI_id hp).symm, rfl, rfl⟩⟩⟩
  rintro μ pc lv st M' ⟨rfl, ⟨rfl, i, hi, hiL, he, rfl, rfl, rfl⟩ | ⟨rfl, rfl, rfl, rfl⟩⟩
  · dsimp only [k_X3_readNumber_0, k_X3_readNumber_1, k_X3_readNumber_4, k_X3_readNumber_5, k_X3_readNumber_8, k_X3_readNumber_11, k_X3_readNumber_12, k_X3_readNumber_13, k_X3_readNumber_16, k_X3_readNumber_19, k_X3_readNumber_22, k_X3_readNumber_25, k_X3_readNumber_26, k_X3_readNumber_27, k_X3_readNumber_30, k_X3_readNumber_31, k_X3_readNumber_32, k_X3_readNumber_35, k_X3_readNumber_38, k_X3_readNumber_39, k_X3_readNumber_40, k_X3_readNumber_43, k_X3_readNumber_46, k_X3_readNumber_48, k_X3_readNumber_49, k_X3_readNumber_50, k_X3_readNumber_51, k_X3_readNumber_54, k_X3_readNumber_55, k_X3_readNumber_58, k_X3_readNumber_59, k_X3_readNumber_60, k_X3_readNumber_61, k_X3_readNumber_62, k_X3_readNumber_65, k_X3_readNumber_66, k_X3_readNumber_67, k_X3_readNumber_70, k_X3_readNumber_71, k_X3_readNumber_72, k_X3_readNumber_75, k_X3_readNumber_78, k_X3_readNumber_79, k_X3_readNumber_80, k_X3_readNumber_83, k_X3_readNumber_84, k_X3_readNumber_87, k_X3_readNumber_88, k_X3_readNumber_89, k_X3_readNumber_92, k_X3_readNumber_93, k_X3_readNumber_95, k_X3_readNumber_96, k_X3_readNumber_97, k_X3_readNumber_98, k_X3_readNumber_99, k_X3_readNumber_102, k_X3_readNumber_103, k_X3_readNumber_104, k_X3_readNumber_107, k_X3_readNumber_108, k_X3_readNumber_110, k_X3_readNumber_111, k_X3_readNumber_114, k_X3_readNumber_117, k_X3_readNumber_118, k_X3_readNumber_119, k_X3_readNumber_122, wp1, wp_s, cutIn, kont, Nat.reduceSub, Nat.reduceAdd, nth, o_const, o_lconst, o_ref, o_iload, o_lload, o_aload, o_istore, o_lstore, o_astore, o_iinc, o_bin, o_div, o_un, o_lbin, o_lsh, o_lcmp, o_i2l, o_l2i, o_if, o_icmp, o_goto, o_dup, o_dup2, o_pop, fav, o_getf, o_putI, o_putZ, o_putL, o_ald, o_ast, o_alen, popn, rst, o_callV, o_callT, o_callS, swx, o_sw, o_ret, o_iret, o_zret, o_cret, o_lret, o_aret, lg, lput, lput2, ls1, isL, entL, wsum, rdI1, rdI2, rdA1, rdA21, rdA22, rdL1, rdL22, rdL21, upN_at, rep, sh_0, F_0_0, F_0_1, F_0_2, F_0_3, F_0_4, F_0_5, F_0_6, F_0_7, F_0_8, sh_1, F_1_0, F_1_1, F_1_2, F_1_3, F_1_4, F_1_5, sh_3, F_3_0, F_3_1, F_3_2, F_3_3, F_3_4, F_3_5, sh_5, F_5_0, F_5_1, F_5_2, F_5_3, F_5_4, F_5_5, F_5_6, F_5_7, F_5_8, sh_12, F_12_0, F_12_1, F_12_2, F_12_3, F_12_4, F_12_5, sh_14, F_14_0, F_14_1, F_14_2, F_14_3, F_14_4, F_14_5, F_14_6, F_14_7, F_14_8, sh_21, F_21_0, F_21_1, F_21_2, F_21_3, F_21_4, F_21_5, F_21_6, F_21_7, F_21_8, sh_28, F_28_0, F_28_1, F_28_2, F_28_3, F_28_4, F_28_5, F_28_6, F_28_7, F_28_8, sh_35, F_35_0, sh_39, F_39_0, F_39_1, F_39_2, F_39_3, F_39_4, F_39_5, F_39_6, F_39_7, F_39_8, F_39_9, F_39_10, F_39_11, F_39_12, F_39_13, A_2, A_4, A_6, A_7, A_8, A_9, A_10, A_11, A_13, A_15, A_16, A_17, A_18, A_19, A_20, A_22, A_23, A_24, A_25, A_26, A_27, A_29, A_30, A_31, A_32, A_33, A_34, A_36, A_37, A_38, A_40, A_41, A_42, A_43, A_44, A_45, A_46, A_47]
    rw [hT.1]
    simp (disch := omega) only [nI_leI, nI_ltI, nI_eq, nI_1, nI_add, one_shl, nI_or, nI_xor, nI_and, bit_0, bit_1, true_or, or_true, true_and, and_true, eq_self, not_true_eq_false, not_false_eq_true, forall_const]
    refine ⟨fun z => cut _ _ ⟨rfl, Or.inr ⟨rfl, ?_, rfl, rfl⟩⟩ (by omega) ⟨rfl, trivial⟩, fun z => ⟨L, t, i, rfl, hT, by omega, ?_⟩⟩
    · rw [← he, sk_e (fun q => absurd q (by omega))]
    · rw [bAt_in (by omega)]
      have ht := (hT.2.2 i (by omega)).2
      dsimp only [k_X3_readNumber_0, k_X3_readNumber_1, k_X3_readNumber_4, k_X3_readNumber_5, k_X3_readNumber_8, k_X3_readNumber_11, k_X3_readNumber_12, k_X3_readNumber_13, k_X3_readNumber_16, k_X3_readNumber_19, k_X3_readNumber_22, k_X3_readNumber_25, k_X3_readNumber_26, k_X3_readNumber_27, k_X3_readNumber_30, k_X3_readNumber_31, k_X3_readNumber_32, k_X3_readNumber_35, k_X3_readNumber_38, k_X3_readNumber_39, k_X3_readNumber_40, k_X3_readNumber_43, k_X3_readNumber_46, k_X3_readNumber_48, k_X3_readNumber_49, k_X3_readNumber_50, k_X3_readNumber_51, k_X3_readNumber_54, k_X3_readNumber_55, k_X3_readNumber_58, k_X3_readNumber_59, k_X3_readNumber_60, k_X3_readNumber_61, k_X3_readNumber_62, k_X3_readNumber_65, k_X3_readNumber_66, k_X3_readNumber_67, k_X3_readNumber_70, k_X3_readNumber_71, k_X3_readNumber_72, k_X3_readNumber_75, k_X3_readNumber_78, k_X3_readNumber_79, k_X3_readNumber_80, k_X3_readNumber_83, k_X3_readNumber_84, k_X3_readNumber_87, k_X3_readNumber_88, k_X3_readNumber_89, k_X3_readNumber_92, k_X3_readNumber_93, k_X3_readNumber_95, k_X3_readNumber_96, k_X3_readNumber_97, k_X3_readNumber_98, k_X3_readNumber_99, k_X3_readNumber_102, k_X3_readNumber_103, k_X3_readNumber_104, k_X3_readNumber_107, k_X3_readNumber_108, k_X3_readNumber_110, k_X3_readNumber_111, k_X3_readNumber_114, k_X3_readNumber_117, k_X3_readNumber_118, k_X3_readNumber_119, k_X3_readNumber_122, wp1, wp_s, cutIn, kont, Nat.reduceSub, Nat.reduceAdd, nth, o_const, o_lconst, o_ref, o_iload, o_lload, o_aload, o_istore, o_lstore, o_astore, o_iinc, o_bin, o_div, o_un, o_lbin, o_lsh, o_lcmp, o_i2l, o_l2i, o_if, o_icmp, o_goto, o_dup, o_dup2, o_pop, fav, o_getf, o_putI, o_putZ, o_putL, o_ald, o_ast, o_alen, popn, rst, o_callV, o_callT, o_callS, swx, o_sw, o_ret, o_iret, o_zret, o_cret, o_lret, o_aret, lg, lput, lput2, ls1, isL, entL, wsum, rdI1, rdI2, rdA1, rdA21, rdA22, rdL1, rdL22, rdL21, upN_at, rep, sh_0, F_0_0, F_0_1, F_0_2, F_0_3, F_0_4, F_0_5, F_0_6, F_0_7, F_0_8, sh_1, F_1_0, F_1_1, F_1_2, F_1_3, F_1_4, F_1_5, sh_3, F_3_0, F_3_1, F_3_2, F_3_3, F_3_4, F_3_5, sh_5, F_5_0, F_5_1, F_5_2, F_5_3, F_5_4, F_5_5, F_5_6, F_5_7, F_5_8, sh_12, F_12_0, F_12_1, F_12_2, F_12_3, F_12_4, F_12_5, sh_14, F_14_0, F_14_1, F_14_2, F_14_3, F_14_4, F_14_5, F_14_6, F_14_7, F_14_8, sh_21, F_21_0, F_21_1, F_21_2, F_21_3, F_21_4, F_21_5, F_21_6, F_21_7, F_21_8, sh_28, F_28_0, F_28_1, F_28_2, F_28_3, F_28_4, F_28_5, F_28_6, F_28_7, F_28_8, sh_35, F_35_0, sh_39, F_39_0, F_39_1, F_39_2, F_39_3, F_39_4, F_39_5, F_39_6, F_39_7, F_39_8, F_39_9, F_39_10, F_39_11, F_39_12, F_39_13, A_2, A_4, A_6, A_7, A_8, A_9, A_10, A_11, A_13, A_15, A_16, A_17, A_18, A_19, A_20, A_22, A_23, A_24, A_25, A_26, A_27, A_29, A_30, A_31, A_32, A_33, A_34, A_36, A_37, A_38, A_40, A_41, A_42, A_43, A_44, A_45, A_46, A_47]
      refine ⟨_, rfl, fun hq => ?_, fun hq => ?_⟩
      · dsimp only [k_X3_readNumber_0, k_X3_readNumber_1, k_X3_readNumber_4, k_X3_readNumber_5, k_X3_readNumber_8, k_X3_readNumber_11, k_X3_readNumber_12, k_X3_readNumber_13, k_X3_readNumber_16, k_X3_readNumber_19, k_X3_readNumber_22, k_X3_readNumber_25, k_X3_readNumber_26, k_X3_readNumber_27, k_X3_readNumber_30, k_X3_readNumber_31, k_X3_readNumber_32, k_X3_readNumber_35, k_X3_readNumber_38, k_X3_readNumber_39, k_X3_readNumber_40, k_X3_readNumber_43, k_X3_readNumber_46, k_X3_readNumber_48, k_X3_readNumber_49, k_X3_readNumber_50, k_X3_readNumber_51, k_X3_readNumber_54, k_X3_readNumber_55, k_X3_readNumber_58, k_X3_readNumber_59, k_X3_readNumber_60, k_X3_readNumber_61, k_X3_readNumber_62, k_X3_readNumber_65, k_X3_readNumber_66, k_X3_readNumber_67, k_X3_readNumber_70, k_X3_readNumber_71, k_X3_readNumber_72, k_X3_readNumber_75, k_X3_readNumber_78, k_X3_readNumber_79, k_X3_readNumber_80, k_X3_readNumber_83, k_X3_readNumber_84, k_X3_readNumber_87, k_X3_readNumber_88, k_X3_readNumber_89, k_X3_readNumber_92, k_X3_readNumber_93, k_X3_readNumber_95, k_X3_readNumber_96, k_X3_readNumber_97, k_X3_readNumber_98, k_X3_readNumber_99, k_X3_readNumber_102, k_X3_readNumber_103, k_X3_readNumber_104, k_X3_readNumber_107, k_X3_readNumber_108, k_X3_readNumber_110, k_X3_readNumber_111, k_X3_readNumber_114, k_X3_readNumber_117, k_X3_readNumber_118, k_X3_readNumber_119, k_X3_readNumber_122, wp1, wp_s, cutIn, kont, Nat.reduceSub, Nat.reduceAdd, nth, o_const, o_lconst, o_ref, o_iload, o_lload, o_aload, o_istore, o_lstore, o_astore, o_iinc, o_bin, o_div, o_un, o_lbin, o_lsh, o_lcmp, o_i2l, o_l2i, o_if, o_icmp, o_goto, o_dup, o_dup2, o_pop, fav, o_getf, o_putI, o_putZ, o_putL, o_ald, o_ast, o_alen, popn, rst, o_callV, o_callT, o_callS, swx, o_sw, o_ret, o_iret, o_zret, o_cret, o_lret, o_aret, lg, lput, lput2, ls1, isL, entL, wsum, rdI1, rdI2, rdA1, rdA21, rdA22, rdL1, rdL22, rdL21, upN_at, rep, sh_0, F_0_0, F_0_1, F_0_2, F_0_3, F_0_4, F_0_5, F_0_6, F_0_7, F_0_8, sh_1, F_1_0, F_1_1, F_1_2, F_1_3, F_1_4, F_1_5, sh_3, F_3_0, F_3_1, F_3_2, F_3_3, F_3_4, F_3_5, sh_5, F_5_0, F_5_1, F_5_2, F_5_3, F_5_4, F_5_5, F_5_6, F_5_7, F_5_8, sh_12, F_12_0, F_12_1, F_12_2, F_12_3, F_12_4, F_12_5, sh_14, F_14_0, F_14_1, F_14_2, F_14_3, F_14_4, F_14_5, F_14_6, F_14_7, F_14_8, sh_21, F_21_0, F_21_1, F_21_2, F_21_3, F_21_4, F_21_5, F_21_6, F_21_7, F_21_8, sh_28, F_28_0, F_28_1, F_28_2, F_28_3, F_28_4, F_28_5, F_28_6, F_28_7, F_28_8, sh_35, F_35_0, sh_39, F_39_0, F_39_1, F_39_2, F_39_3, F_39_4, F_39_5, F_39_6, F_39_7, F_39_8, F_39_9, F_39_10, F_39_11, F_39_12, F_39_13, A_2, A_4, A_6, A_7, A_8, A_9, A_10, A_11, A_13, A_15, A_16, A_17, A_18, A_19, A_20, A_22, A_23, A_24, A_25, A_26, A_27, A_29, A_30, A_31, A_32, A_33, A_34, A_36, A_37, A_38, A_40, A_41, A_42, A_43, A_44, A_45, A_46, A_47]
        refine ⟨fun q => absurd q (by decide), fun _ => cut _ _ ⟨rfl, Or.inl ⟨rfl, i + 1, by omega, by omega, ?_, ?_, rfl, rfl⟩⟩ (by omega) ⟨rfl, trivial⟩⟩
        · rw [← he, sk_s (by omega) ((isD_iff ht).mp hq)]
        · rw [sI_sI, nI_1]
      · dsimp only [k_X3_readNumber_0, k_X3_readNumber_1, k_X3_readNumber_4, k_X3_readNumber_5, k_X3_readNumber_8, k_X3_readNumber_11, k_X3_readNumber_12, k_X3_readNumber_13, k_X3_readNumber_16, k_X3_readNumber_19, k_X3_readNumber_22, k_X3_readNumber_25, k_X3_readNumber_26, k_X3_readNumber_27, k_X3_readNumber_30, k_X3_readNumber_31, k_X3_readNumber_32, k_X3_readNumber_35, k_X3_readNumber_38, k_X3_readNumber_39, k_X3_readNumber_40, k_X3_readNumber_43, k_X3_readNumber_46, k_X3_readNumber_48, k_X3_readNumber_49, k_X3_readNumber_50, k_X3_readNumber_51, k_X3_readNumber_54, k_X3_readNumber_55, k_X3_readNumber_58, k_X3_readNumber_59, k_X3_readNumber_60, k_X3_readNumber_61, k_X3_readNumber_62, k_X3_readNumber_65, k_X3_readNumber_66, k_X3_readNumber_67, k_X3_readNumber_70, k_X3_readNumber_71, k_X3_readNumber_72, k_X3_readNumber_75, k_X3_readNumber_78, k_X3_readNumber_79, k_X3_readNumber_80, k_X3_readNumber_83, k_X3_readNumber_84, k_X3_readNumber_87, k_X3_readNumber_88, k_X3_readNumber_89, k_X3_readNumber_92, k_X3_readNumber_93, k_X3_readNumber_95, k_X3_readNumber_96, k_X3_readNumber_97, k_X3_readNumber_98, k_X3_readNumber_99, k_X3_readNumber_102, k_X3_readNumber_103, k_X3_readNumber_104, k_X3_readNumber_107, k_X3_readNumber_108, k_X3_readNumber_110, k_X3_readNumber_111, k_X3_readNumber_114, k_X3_readNumber_117, k_X3_readNumber_118, k_X3_readNumber_119, k_X3_readNumber_122, wp1, wp_s, cutIn, kont, Nat.reduceSub, Nat.reduceAdd, nth, o_const, o_lconst, o_ref, o_iload, o_lload, o_aload, o_istore, o_lstore, o_astore, o_iinc, o_bin, o_div, o_un, o_lbin, o_lsh, o_lcmp, o_i2l, o_l2i, o_if, o_icmp, o_goto, o_dup, o_dup2, o_pop, fav, o_getf, o_putI, o_putZ, o_putL, o_ald, o_ast, o_alen, popn, rst, o_callV, o_callT, o_callS, swx, o_sw, o_ret, o_iret, o_zret, o_cret, o_lret, o_aret, lg, lput, lput2, ls1, isL, entL, wsum, rdI1, rdI2, rdA1, rdA21, rdA22, rdL1, rdL22, rdL21, upN_at, rep, sh_0, F_0_0, F_0_1, F_0_2, F_0_3, F_0_4, F_0_5, F_0_6, F_0_7, F_0_8, sh_1, F_1_0, F_1_1, F_1_2, F_1_3, F_1_4, F_1_5, sh_3, F_3_0, F_3_1, F_3_2, F_3_3, F_3_4, F_3_5, sh_5, F_5_0, F_5_1, F_5_2, F_5_3, F_5_4, F_5_5, F_5_6, F_5_7, F_5_8, sh_12, F_12_0, F_12_1, F_12_2, F_12_3, F_12_4, F_12_5, sh_14, F_14_0, F_14_1, F_14_2, F_14_3, F_14_4, F_14_5, F_14_6, F_14_7, F_14_8, sh_21, F_21_0, F_21_1, F_21_2, F_21_3, F_21_4, F_21_5, F_21_6, F_21_7, F_21_8, sh_28, F_28_0, F_28_1, F_28_2, F_28_3, F_28_4, F_28_5, F_28_6, F_28_7, F_28_8, sh_35, F_35_0, sh_39, F_39_0, F_39_1, F_39_2, F_39_3, F_39_4, F_39_5, F_39_6, F_39_7, F_39_8, F_39_9, F_39_10, F_39_11, F_39_12, F_39_13, A_2, A_4, A_6, A_7, A_8, A_9, A_10, A_11, A_13, A_15, A_16, A_17, A_18, A_19, A_20, A_22, A_23, A_24, A_25, A_26, A_27, A_29, A_30, A_31, A_32, A_33, A_34, A_36, A_37, A_38, A_40, A_41, A_42, A_43, A_44, A_45, A_46, A_47]
        refine ⟨fun _ => cut _ _ ⟨rfl, Or.inr ⟨rfl, ?_, rfl, rfl⟩⟩ (by omega) ⟨rfl, trivial⟩, fun q => absurd rfl q⟩
        rw [← he, sk_e]
        intro _
        exact Bool.eq_false_iff.mpr fun z2 => hq ((isD_iff ht).mpr z2)
  · dsimp only [k_X3_readNumber_0, k_X3_readNumber_1, k_X3_readNumber_4, k_X3_readNumber_5, k_X3_readNumber_8, k_X3_readNumber_11, k_X3_readNumber_12, k_X3_readNumber_13, k_X3_readNumber_16, k_X3_readNumber_19, k_X3_readNumber_22, k_X3_readNumber_25, k_X3_readNumber_26, k_X3_readNumber_27, k_X3_readNumber_30, k_X3_readNumber_31, k_X3_readNumber_32, k_X3_readNumber_35, k_X3_readNumber_38, k_X3_readNumber_39, k_X3_readNumber_40, k_X3_readNumber_43, k_X3_readNumber_46, k_X3_readNumber_48, k_X3_readNumber_49, k_X3_readNumber_50, k_X3_readNumber_51, k_X3_readNumber_54, k_X3_readNumber_55, k_X3_readNumber_58, k_X3_readNumber_59, k_X3_readNumber_60, k_X3_readNumber_61, k_X3_readNumber_62, k_X3_readNumber_65, k_X3_readNumber_66, k_X3_readNumber_67, k_X3_readNumber_70, k_X3_readNumber_71, k_X3_readNumber_72, k_X3_readNumber_75, k_X3_readNumber_78, k_X3_readNumber_79, k_X3_readNumber_80, k_X3_readNumber_83, k_X3_readNumber_84, k_X3_readNumber_87, k_X3_readNumber_88, k_X3_readNumber_89, k_X3_readNumber_92, k_X3_readNumber_93, k_X3_readNumber_95, k_X3_readNumber_96, k_X3_readNumber_97, k_X3_readNumber_98, k_X3_readNumber_99, k_X3_readNumber_102, k_X3_readNumber_103, k_X3_readNumber_104, k_X3_readNumber_107, k_X3_readNumber_108, k_X3_readNumber_110, k_X3_readNumber_111, k_X3_readNumber_114, k_X3_readNumber_117, k_X3_readNumber_118, k_X3_readNumber_119, k_X3_readNumber_122, wp1, wp_s, cutIn, kont, Nat.reduceSub, Nat.reduceAdd, nth, o_const, o_lconst, o_ref, o_iload, o_lload, o_aload, o_istore, o_lstore, o_astore, o_iinc, o_bin, o_div, o_un, o_lbin, o_lsh, o_lcmp, o_i2l, o_l2i, o_if, o_icmp, o_goto, o_dup, o_dup2, o_pop, fav, o_getf, o_putI, o_putZ, o_putL, o_ald, o_ast, o_alen, popn, rst, o_callV, o_callT, o_callS, swx, o_sw, o_ret, o_iret, o_zret, o_cret, o_lret, o_aret, lg, lput, lput2, ls1, isL, entL, wsum, rdI1, rdI2, rdA1, rdA21, rdA22, rdL1, rdL22, rdL21, upN_at, rep, sh_0, F_0_0, F_0_1, F_0_2, F_0_3, F_0_4, F_0_5, F_0_6, F_0_7, F_0_8, sh_1, F_1_0, F_1_1, F_1_2, F_1_3, F_1_4, F_1_5, sh_3, F_3_0, F_3_1, F_3_2, F_3_3, F_3_4, F_3_5, sh_5, F_5_0, F_5_1, F_5_2, F_5_3, F_5_4, F_5_5, F_5_6, F_5_7, F_5_8, sh_12, F_12_0, F_12_1, F_12_2, F_12_3, F_12_4, F_12_5, sh_14, F_14_0, F_14_1, F_14_2, F_14_3, F_14_4, F_14_5, F_14_6, F_14_7, F_14_8, sh_21, F_21_0, F_21_1, F_21_2, F_21_3, F_21_4, F_21_5, F_21_6, F_21_7, F_21_8, sh_28, F_28_0, F_28_1, F_28_2, F_28_3, F_28_4, F_28_5, F_28_6, F_28_7, F_28_8, sh_35, F_35_0, sh_39, F_39_0, F_39_1, F_39_2, F_39_3, F_39_4, F_39_5, F_39_6, F_39_7, F_39_8, F_39_9, F_39_10, F_39_11, F_39_12, F_39_13, A_2, A_4, A_6, A_7, A_8, A_9, A_10, A_11, A_13, A_15, A_16, A_17, A_18, A_19, A_20, A_22, A_23, A_24, A_25, A_26, A_27, A_29, A_30, A_31, A_32, A_33, A_34, A_36, A_37, A_38, A_40, A_41, A_42, A_43, A_44, A_45, A_46, A_47]
    simp only [hs]
    have ht := (hT.2.2 s hsL).2
    have h48 : 48 ≤ t s := by
      have := (isD_iff ht).mpr hd
      rw [show (48 : Int32) = nI 48 from rfl, nI_leI (by omega) (by omega)] at this
      exact this.1
    generalize hpe : sk isD t (L - s) s = p at *
    refine ⟨L, t, s, rfl, hT, by omega, ?_⟩
    rw [bAt_in hsL]
    dsimp only [k_X3_readNumber_0, k_X3_readNumber_1, k_X3_readNumber_4, k_X3_readNumber_5, k_X3_readNumber_8, k_X3_readNumber_11, k_X3_readNumber_12, k_X3_readNumber_13, k_X3_readNumber_16, k_X3_readNumber_19, k_X3_readNumber_22, k_X3_readNumber_25, k_X3_readNumber_26, k_X3_readNumber_27, k_X3_readNumber_30, k_X3_readNumber_31, k_X3_readNumber_32, k_X3_readNumber_35, k_X3_readNumber_38, k_X3_readNumber_39, k_X3_readNumber_40, k_X3_readNumber_43, k_X3_readNumber_46, k_X3_readNumber_48, k_X3_readNumber_49, k_X3_readNumber_50, k_X3_readNumber_51, k_X3_readNumber_54, k_X3_readNumber_55, k_X3_readNumber_58, k_X3_readNumber_59, k_X3_readNumber_60, k_X3_readNumber_61, k_X3_readNumber_62, k_X3_readNumber_65, k_X3_readNumber_66, k_X3_readNumber_67, k_X3_readNumber_70, k_X3_readNumber_71, k_X3_readNumber_72, k_X3_readNumber_75, k_X3_readNumber_78, k_X3_readNumber_79, k_X3_readNumber_80, k_X3_readNumber_83, k_X3_readNumber_84, k_X3_readNumber_87, k_X3_readNumber_88, k_X3_readNumber_89, k_X3_readNumber_92, k_X3_readNumber_93, k_X3_readNumber_95, k_X3_readNumber_96, k_X3_readNumber_97, k_X3_readNumber_98, k_X3_readNumber_99, k_X3_readNumber_102, k_X3_readNumber_103, k_X3_readNumber_104, k_X3_readNumber_107, k_X3_readNumber_108, k_X3_readNumber_110, k_X3_readNumber_111, k_X3_readNumber_114, k_X3_readNumber_117, k_X3_readNumber_118, k_X3_readNumber_119, k_X3_readNumber_122, wp1, wp_s, cutIn, kont, Nat.reduceSub, Nat.reduceAdd, nth, o_const, o_lconst, o_ref, o_iload, o_lload, o_aload, o_istore, o_lstore, o_astore, o_iinc, o_bin, o_div, o_un, o_lbin, o_lsh, o_lcmp, o_i2l, o_l2i, o_if, o_icmp, o_goto, o_dup, o_dup2, o_pop, fav, o_getf, o_putI, o_putZ, o_putL, o_ald, o_ast, o_alen, popn, rst, o_callV, o_callT, o_callS, swx, o_sw, o_ret, o_iret, o_zret, o_cret, o_lret, o_aret, lg, lput, lput2, ls1, isL, entL, wsum, rdI1, rdI2, rdA1, rdA21, rdA22, rdL1, rdL22, rdL21, upN_at, rep, sh_0, F_0_0, F_0_1, F_0_2, F_0_3, F_0_4, F_0_5, F_0_6, F_0_7, F_0_8, sh_1, F_1_0, F_1_1, F_1_2, F_1_3, F_1_4, F_1_5, sh_3, F_3_0, F_3_1, F_3_2, F_3_3, F_3_4, F_3_5, sh_5, F_5_0, F_5_1, F_5_2, F_5_3, F_5_4, F_5_5, F_5_6, F_5_7, F_5_8, sh_12, F_12_0, F_12_1, F_12_2, F_12_3, F_12_4, F_12_5, sh_14, F_14_0, F_14_1, F_14_2, F_14_3, F_14_4, F_14_5, F_14_6, F_14_7, F_14_8, sh_21, F_21_0, F_21_1, F_21_2, F_21_3, F_21_4, F_21_5, F_21_6, F_21_7, F_21_8, sh_28, F_28_0, F_28_1, F_28_2, F_28_3, F_28_4, F_28_5, F_28_6, F_28_7, F_28_8, sh_35, F_35_0, sh_39, F_39_0, F_39_1, F_39_2, F_39_3, F_39_4, F_39_5, F_39_6, F_39_7, F_39_8, F_39_9, F_39_10, F_39_11, F_39_12, F_39_13, A_2, A_4, A_6, A_7, A_8, A_9, A_10, A_11, A_13, A_15, A_16, A_17, A_18, A_19, A_20, A_22, A_23, A_24, A_25, A_26, A_27, A_29, A_30, A_31, A_32, A_33, A_34, A_36, A_37, A_38, A_40, A_41, A_42, A_43, A_44, A_45, A_46, A_47]
    simp only [hs, pk_sub hge.1, show (48 : Int32) = nI 48 from rfl, pk_sub h48, show (1 : Int32) = nI 1 from rfl, show (2 : Int32) = nI 2 from rfl, show (0 : Int32) = nI 0 from rfl]
    simp (disch := omega) only [nI_leI, nI_ltI, nI_eq, nI_1, nI_add, one_shl, nI_or, nI_xor, nI_and, bit_0, bit_1, true_or, or_true, true_and, and_true, eq_self, not_true_eq_false, not_false_eq_true, forall_const]
    unfold nmV nmK at h
    refine ⟨fun z => ?_, fun z => ⟨fun z2 => ⟨fun z3 => ?_, fun z3 => ⟨L, t, s + 1, rfl, hT, by omega, ?_⟩⟩, fun z2 => ?_⟩⟩
    · rw [if_pos z, if_pos z] at h
      exact h
    · rw [if_neg z, if_neg z, if_neg (by omega), if_neg (by omega)] at h
      rw [sI_id (a := 4) (by rfl)] at h
      exact h
    · rw [bAt_in (by omega)]
      dsimp only [k_X3_readNumber_0, k_X3_readNumber_1, k_X3_readNumber_4, k_X3_readNumber_5, k_X3_readNumber_8, k_X3_readNumber_11, k_X3_readNumber_12, k_X3_readNumber_13, k_X3_readNumber_16, k_X3_readNumber_19, k_X3_readNumber_22, k_X3_readNumber_25, k_X3_readNumber_26, k_X3_readNumber_27, k_X3_readNumber_30, k_X3_readNumber_31, k_X3_readNumber_32, k_X3_readNumber_35, k_X3_readNumber_38, k_X3_readNumber_39, k_X3_readNumber_40, k_X3_readNumber_43, k_X3_readNumber_46, k_X3_readNumber_48, k_X3_readNumber_49, k_X3_readNumber_50, k_X3_readNumber_51, k_X3_readNumber_54, k_X3_readNumber_55, k_X3_readNumber_58, k_X3_readNumber_59, k_X3_readNumber_60, k_X3_readNumber_61, k_X3_readNumber_62, k_X3_readNumber_65, k_X3_readNumber_66, k_X3_readNumber_67, k_X3_readNumber_70, k_X3_readNumber_71, k_X3_readNumber_72, k_X3_readNumber_75, k_X3_readNumber_78, k_X3_readNumber_79, k_X3_readNumber_80, k_X3_readNumber_83, k_X3_readNumber_84, k_X3_readNumber_87, k_X3_readNumber_88, k_X3_readNumber_89, k_X3_readNumber_92, k_X3_readNumber_93, k_X3_readNumber_95, k_X3_readNumber_96, k_X3_readNumber_97, k_X3_readNumber_98, k_X3_readNumber_99, k_X3_readNumber_102, k_X3_readNumber_103, k_X3_readNumber_104, k_X3_readNumber_107, k_X3_readNumber_108, k_X3_readNumber_110, k_X3_readNumber_111, k_X3_readNumber_114, k_X3_readNumber_117, k_X3_readNumber_118, k_X3_readNumber_119, k_X3_readNumber_122, wp1, wp_s, cutIn, kont, Nat.reduceSub, Nat.reduceAdd, nth, o_const, o_lconst, o_ref, o_iload, o_lload, o_aload, o_istore, o_lstore, o_astore, o_iinc, o_bin, o_div, o_un, o_lbin, o_lsh, o_lcmp, o_i2l, o_l2i, o_if, o_icmp, o_goto, o_dup, o_dup2, o_pop, fav, o_getf, o_putI, o_putZ, o_putL, o_ald, o_ast, o_alen, popn, rst, o_callV, o_callT, o_callS, swx, o_sw, o_ret, o_iret, o_zret, o_cret, o_lret, o_aret, lg, lput, lput2, ls1, isL, entL, wsum, rdI1, rdI2, rdA1, rdA21, rdA22, rdL1, rdL22, rdL21, upN_at, rep, sh_0, F_0_0, F_0_1, F_0_2, F_0_3, F_0_4, F_0_5, F_0_6, F_0_7, F_0_8, sh_1, F_1_0, F_1_1, F_1_2, F_1_3, F_1_4, F_1_5, sh_3, F_3_0, F_3_1, F_3_2, F_3_3, F_3_4, F_3_5, sh_5, F_5_0, F_5_1, F_5_2, F_5_3, F_5_4, F_5_5, F_5_6, F_5_7, F_5_8, sh_12, F_12_0, F_12_1, F_12_2, F_12_3, F_12_4, F_12_5, sh_14, F_14_0, F_14_1, F_14_2, F_14_3, F_14_4, F_14_5, F_14_6, F_14_7, F_14_8, sh_21, F_21_0, F_21_1, F_21_2, F_21_3, F_21_4, F_21_5, F_21_6, F_21_7, F_21_8, sh_28, F_28_0, F_28_1, F_28_2, F_28_3, F_28_4, F_28_5, F_28_6, F_28_7, F_28_8, sh_35, F_35_0, sh_39, F_39_0, F_39_1, F_39_2, F_39_3, F_39_4, F_39_5, F_39_6, F_39_7, F_39_8, F_39_9, F_39_10, F_39_11, F_39_12, F_39_13, A_2, A_4, A_6, A_7, A_8, A_9, A_10, A_11, A_13, A_15, A_16, A_17, A_18, A_19, A_20, A_22, A_23, A_24, A_25, A_26, A_27, A_29, A_30, A_31, A_32, A_33, A_34, A_36, A_37, A_38, A_40, A_41, A_42, A_43, A_44, A_45, A_46, A_47]
      rw [if_neg z, if_neg z, if_pos ⟨z2, by omega⟩, if_pos ⟨z2, by omega⟩] at h
      have ht1 := (hT.2.2 (s + 1) (by omega)).2
      have h481 : 48 ≤ t (s + 1) := by
        have hn : isD (t (s + 1)) = true := by
          cases hb : isD (t (s + 1)) with
          | true => rfl
          | false =>
            rw [sk_s hsL hd, sk_e (fun _ => hb)] at hpe
            omega
        have := (isD_iff ht1).mpr hn
        rw [show (48 : Int32) = nI 48 from rfl, nI_leI (by omega) (by omega)] at this
        exact this.1
      rw [show (10 : Int32) = nI 10 from rfl, show (48 : Int32) = nI 48 from rfl, pk_mul, nI_add, pk_sub (by omega), show 10 * (t s - 48) + t (s + 1) - 48 = 10 * (t s - 48) + (t (s + 1) - 48) by omega]
      exact h
    · rw [if_neg z, if_neg z, if_neg (by omega), if_neg (by omega)] at h
      rw [sI_id (a := 4) (by rfl)] at h
      exact h
set_option maxRecDepth 100000 in
theorem v_X3_readWord : ∀ as M post, S_X3_readWord as M post → wsum as ≤ 1 ∧ RUN (T_X3_readWord post) 0 (entL 1 as) [] M := by
  rintro as M post ⟨L, t, s, rfl, hT, hp, hs, hsL, hd, h⟩
  have hT2 := hT.2.1
  have hge := sk_ge isW t (L - s) s
  refine ⟨by show 1 ≤ 1; omega, run_cut [0, 38] (fun μ pc lv st M' => st = [] ∧ ((pc = 0 ∧ ∃ i, s ≤ i ∧ i ≤ L ∧ sk isW t (L - i) i = sk isW t (L - s) s ∧ M' = sI 1 (nI i) M ∧ μ = 1000 - i ∧ lv = [some (VR 1)]) ∨ (pc = 38 ∧ M' = sI 1 (nI (sk isW t (L - s) s)) M ∧ μ = 10 ∧ lv = [some (VR 1)]))) 60 ?_ (1000 - s) 0 _ _ _ ⟨rfl, Or.inl ⟨rfl, s, Nat.le_refl s, by omega, rfl, (sI_id hp).symm, rfl, rfl⟩⟩⟩
  rintro μ pc lv st M' ⟨rfl, ⟨rfl, i, hi, hiL, he, rfl, rfl, rfl⟩ | ⟨rfl, rfl, rfl, rfl⟩⟩
  · dsimp only [k_X3_readWord_0, k_X3_readWord_1, k_X3_readWord_4, k_X3_readWord_5, k_X3_readWord_8, k_X3_readWord_11, k_X3_readWord_12, k_X3_readWord_13, k_X3_readWord_16, k_X3_readWord_19, k_X3_readWord_22, k_X3_readWord_25, k_X3_readWord_26, k_X3_readWord_27, k_X3_readWord_30, k_X3_readWord_31, k_X3_readWord_32, k_X3_readWord_35, k_X3_readWord_38, k_X3_readWord_39, k_X3_readWord_41, k_X3_readWord_44, k_X3_readWord_47, k_X3_readWord_48, k_X3_readWord_49, k_X3_readWord_52, k_X3_readWord_55, k_X3_readWord_56, k_X3_readWord_58, k_X3_readWord_61, k_X3_readWord_64, k_X3_readWord_65, k_X3_readWord_67, k_X3_readWord_70, k_X3_readWord_73, k_X3_readWord_74, k_X3_readWord_76, k_X3_readWord_79, k_X3_readWord_82, k_X3_readWord_83, k_X3_readWord_85, k_X3_readWord_88, k_X3_readWord_91, k_X3_readWord_92, k_X3_readWord_94, k_X3_readWord_97, k_X3_readWord_100, k_X3_readWord_101, k_X3_readWord_103, k_X3_readWord_106, k_X3_readWord_109, k_X3_readWord_110, k_X3_readWord_111, k_X3_readWord_114, k_X3_readWord_117, k_X3_readWord_118, k_X3_readWord_119, k_X3_readWord_122, k_X3_readWord_125, k_X3_readWord_126, k_X3_readWord_129, k_X3_readWord_130, k_X3_readWord_133, wp1, wp_s, cutIn, kont, Nat.reduceSub, Nat.reduceAdd, nth, o_const, o_lconst, o_ref, o_iload, o_lload, o_aload, o_istore, o_lstore, o_astore, o_iinc, o_bin, o_div, o_un, o_lbin, o_lsh, o_lcmp, o_i2l, o_l2i, o_if, o_icmp, o_goto, o_dup, o_dup2, o_pop, fav, o_getf, o_putI, o_putZ, o_putL, o_ald, o_ast, o_alen, popn, rst, o_callV, o_callT, o_callS, swx, o_sw, o_ret, o_iret, o_zret, o_cret, o_lret, o_aret, lg, lput, lput2, ls1, isL, entL, wsum, rdI1, rdI2, rdA1, rdA21, rdA22, rdL1, rdL22, rdL21, upN_at, rep, sh_0, F_0_0, F_0_1, F_0_2, F_0_3, F_0_4, F_0_5, F_0_6, F_0_7, F_0_8, sh_1, F_1_0, F_1_1, F_1_2, F_1_3, F_1_4, F_1_5, sh_3, F_3_0, F_3_1, F_3_2, F_3_3, F_3_4, F_3_5, sh_5, F_5_0, F_5_1, F_5_2, F_5_3, F_5_4, F_5_5, F_5_6, F_5_7, F_5_8, sh_12, F_12_0, F_12_1, F_12_2, F_12_3, F_12_4, F_12_5, sh_14, F_14_0, F_14_1, F_14_2, F_14_3, F_14_4, F_14_5, F_14_6, F_14_7, F_14_8, sh_21, F_21_0, F_21_1, F_21_2, F_21_3, F_21_4, F_21_5, F_21_6, F_21_7, F_21_8, sh_28, F_28_0, F_28_1, F_28_2, F_28_3, F_28_4, F_28_5, F_28_6, F_28_7, F_28_8, sh_35, F_35_0, sh_39, F_39_0, F_39_1, F_39_2, F_39_3, F_39_4, F_39_5, F_39_6, F_39_7, F_39_8, F_39_9, F_39_10, F_39_11, F_39_12, F_39_13, A_2, A_4, A_6, A_7, A_8, A_9, A_10, A_11, A_13, A_15, A_16, A_17, A_18, A_19, A_20, A_22, A_23, A_24, A_25, A_26, A_27, A_29, A_30, A_31, A_32, A_33, A_34, A_36, A_37, A_38, A_40, A_41, A_42, A_43, A_44, A_45, A_46, A_47]
    rw [hT.1]
    simp (disch := omega) only [nI_leI, nI_ltI, nI_eq, nI_1, nI_add, one_shl, nI_or, nI_xor, nI_and, bit_0, bit_1, true_or, or_true, true_and, and_true, eq_self, not_true_eq_false, not_false_eq_true, forall_const]
    refine ⟨fun z => cut _ _ ⟨rfl, Or.inr ⟨rfl, ?_, rfl, rfl⟩⟩ (by omega) ⟨rfl, trivial⟩, fun z => ⟨L, t, i, rfl, hT, by omega, ?_⟩⟩
    · rw [← he, sk_e (fun q => absurd q (by omega))]
    · rw [bAt_in (by omega)]
      have ht := (hT.2.2 i (by omega)).2
      dsimp only [k_X3_readWord_0, k_X3_readWord_1, k_X3_readWord_4, k_X3_readWord_5, k_X3_readWord_8, k_X3_readWord_11, k_X3_readWord_12, k_X3_readWord_13, k_X3_readWord_16, k_X3_readWord_19, k_X3_readWord_22, k_X3_readWord_25, k_X3_readWord_26, k_X3_readWord_27, k_X3_readWord_30, k_X3_readWord_31, k_X3_readWord_32, k_X3_readWord_35, k_X3_readWord_38, k_X3_readWord_39, k_X3_readWord_41, k_X3_readWord_44, k_X3_readWord_47, k_X3_readWord_48, k_X3_readWord_49, k_X3_readWord_52, k_X3_readWord_55, k_X3_readWord_56, k_X3_readWord_58, k_X3_readWord_61, k_X3_readWord_64, k_X3_readWord_65, k_X3_readWord_67, k_X3_readWord_70, k_X3_readWord_73, k_X3_readWord_74, k_X3_readWord_76, k_X3_readWord_79, k_X3_readWord_82, k_X3_readWord_83, k_X3_readWord_85, k_X3_readWord_88, k_X3_readWord_91, k_X3_readWord_92, k_X3_readWord_94, k_X3_readWord_97, k_X3_readWord_100, k_X3_readWord_101, k_X3_readWord_103, k_X3_readWord_106, k_X3_readWord_109, k_X3_readWord_110, k_X3_readWord_111, k_X3_readWord_114, k_X3_readWord_117, k_X3_readWord_118, k_X3_readWord_119, k_X3_readWord_122, k_X3_readWord_125, k_X3_readWord_126, k_X3_readWord_129, k_X3_readWord_130, k_X3_readWord_133, wp1, wp_s, cutIn, kont, Nat.reduceSub, Nat.reduceAdd, nth, o_const, o_lconst, o_ref, o_iload, o_lload, o_aload, o_istore, o_lstore, o_astore, o_iinc, o_bin, o_div, o_un, o_lbin, o_lsh, o_lcmp, o_i2l, o_l2i, o_if, o_icmp, o_goto, o_dup, o_dup2, o_pop, fav, o_getf, o_putI, o_putZ, o_putL, o_ald, o_ast, o_alen, popn, rst, o_callV, o_callT, o_callS, swx, o_sw, o_ret, o_iret, o_zret, o_cret, o_lret, o_aret, lg, lput, lput2, ls1, isL, entL, wsum, rdI1, rdI2, rdA1, rdA21, rdA22, rdL1, rdL22, rdL21, upN_at, rep, sh_0, F_0_0, F_0_1, F_0_2, F_0_3, F_0_4, F_0_5, F_0_6, F_0_7, F_0_8, sh_1, F_1_0, F_1_1, F_1_2, F_1_3, F_1_4, F_1_5, sh_3, F_3_0, F_3_1, F_3_2, F_3_3, F_3_4, F_3_5, sh_5, F_5_0, F_5_1, F_5_2, F_5_3, F_5_4, F_5_5, F_5_6, F_5_7, F_5_8, sh_12, F_12_0, F_12_1, F_12_2, F_12_3, F_12_4, F_12_5, sh_14, F_14_0, F_14_1, F_14_2, F_14_3, F_14_4, F_14_5, F_14_6, F_14_7, F_14_8, sh_21, F_21_0, F_21_1, F_21_2, F_21_3, F_21_4, F_21_5, F_21_6, F_21_7, F_21_8, sh_28, F_28_0, F_28_1, F_28_2, F_28_3, F_28_4, F_28_5, F_28_6, F_28_7, F_28_8, sh_35, F_35_0, sh_39, F_39_0, F_39_1, F_39_2, F_39_3, F_39_4, F_39_5, F_39_6, F_39_7, F_39_8, F_39_9, F_39_10, F_39_11, F_39_12, F_39_13, A_2, A_4, A_6, A_7, A_8, A_9, A_10, A_11, A_13, A_15, A_16, A_17, A_18, A_19, A_20, A_22, A_23, A_24, A_25, A_26, A_27, A_29, A_30, A_31, A_32, A_33, A_34, A_36, A_37, A_38, A_40, A_41, A_42, A_43, A_44, A_45, A_46, A_47]
      refine ⟨_, rfl, fun hq => ?_, fun hq => ?_⟩
      · dsimp only [k_X3_readWord_0, k_X3_readWord_1, k_X3_readWord_4, k_X3_readWord_5, k_X3_readWord_8, k_X3_readWord_11, k_X3_readWord_12, k_X3_readWord_13, k_X3_readWord_16, k_X3_readWord_19, k_X3_readWord_22, k_X3_readWord_25, k_X3_readWord_26, k_X3_readWord_27, k_X3_readWord_30, k_X3_readWord_31, k_X3_readWord_32, k_X3_readWord_35, k_X3_readWord_38, k_X3_readWord_39, k_X3_readWord_41, k_X3_readWord_44, k_X3_readWord_47, k_X3_readWord_48, k_X3_readWord_49, k_X3_readWord_52, k_X3_readWord_55, k_X3_readWord_56, k_X3_readWord_58, k_X3_readWord_61, k_X3_readWord_64, k_X3_readWord_65, k_X3_readWord_67, k_X3_readWord_70, k_X3_readWord_73, k_X3_readWord_74, k_X3_readWord_76, k_X3_readWord_79, k_X3_readWord_82, k_X3_readWord_83, k_X3_readWord_85, k_X3_readWord_88, k_X3_readWord_91, k_X3_readWord_92, k_X3_readWord_94, k_X3_readWord_97, k_X3_readWord_100, k_X3_readWord_101, k_X3_readWord_103, k_X3_readWord_106, k_X3_readWord_109, k_X3_readWord_110, k_X3_readWord_111, k_X3_readWord_114, k_X3_readWord_117, k_X3_readWord_118, k_X3_readWord_119, k_X3_readWord_122, k_X3_readWord_125, k_X3_readWord_126, k_X3_readWord_129, k_X3_readWord_130, k_X3_readWord_133, wp1, wp_s, cutIn, kont, Nat.reduceSub, Nat.reduceAdd, nth, o_const, o_lconst, o_ref, o_iload, o_lload, o_aload, o_istore, o_lstore, o_astore, o_iinc, o_bin, o_div, o_un, o_lbin, o_lsh, o_lcmp, o_i2l, o_l2i, o_if, o_icmp, o_goto, o_dup, o_dup2, o_pop, fav, o_getf, o_putI, o_putZ, o_putL, o_ald, o_ast, o_alen, popn, rst, o_callV, o_callT, o_callS, swx, o_sw, o_ret, o_iret, o_zret, o_cret, o_lret, o_aret, lg, lput, lput2, ls1, isL, entL, wsum, rdI1, rdI2, rdA1, rdA21, rdA22, rdL1, rdL22, rdL21, upN_at, rep, sh_0, F_0_0, F_0_1, F_0_2, F_0_3, F_0_4, F_0_5, F_0_6, F_0_7, F_0_8, sh_1, F_1_0, F_1_1, F_1_2, F_1_3, F_1_4, F_1_5, sh_3, F_3_0, F_3_1, F_3_2, F_3_3, F_3_4, F_3_5, sh_5, F_5_0, F_5_1, F_5_2, F_5_3, F_5_4, F_5_5, F_5_6, F_5_7, F_5_8, sh_12, F_12_0, F_12_1, F_12_2, F_12_3, F_12_4, F_12_5, sh_14, F_14_0, F_14_1, F_14_2, F_14_3, F_14_4, F_14_5, F_14_6, F_14_7, F_14_8, sh_21, F_21_0, F_21_1, F_21_2, F_21_3, F_21_4, F_21_5, F_21_6, F_21_7, F_21_8, sh_28, F_28_0, F_28_1, F_28_2, F_28_3, F_28_4, F_28_5, F_28_6, F_28_7, F_28_8, sh_35, F_35_0, sh_39, F_39_0, F_39_1, F_39_2, F_39_3, F_39_4, F_39_5, F_39_6, F_39_7, F_39_8, F_39_9, F_39_10, F_39_11, F_39_12, F_39_13, A_2, A_4, A_6, A_7, A_8, A_9, A_10, A_11, A_13, A_15, A_16, A_17, A_18, A_19, A_20, A_22, A_23, A_24, A_25, A_26, A_27, A_29, A_30, A_31, A_32, A_33, A_34, A_36, A_37, A_38, A_40, A_41, A_42, A_43, A_44, A_45, A_46, A_47]
        refine ⟨fun q => absurd q (by decide), fun _ => cut _ _ ⟨rfl, Or.inl ⟨rfl, i + 1, by omega, by omega, ?_, ?_, rfl, rfl⟩⟩ (by omega) ⟨rfl, trivial⟩⟩
        · rw [← he, sk_s (by omega) ((isW_iff ht).mp hq)]
        · rw [sI_sI, nI_1]
      · dsimp only [k_X3_readWord_0, k_X3_readWord_1, k_X3_readWord_4, k_X3_readWord_5, k_X3_readWord_8, k_X3_readWord_11, k_X3_readWord_12, k_X3_readWord_13, k_X3_readWord_16, k_X3_readWord_19, k_X3_readWord_22, k_X3_readWord_25, k_X3_readWord_26, k_X3_readWord_27, k_X3_readWord_30, k_X3_readWord_31, k_X3_readWord_32, k_X3_readWord_35, k_X3_readWord_38, k_X3_readWord_39, k_X3_readWord_41, k_X3_readWord_44, k_X3_readWord_47, k_X3_readWord_48, k_X3_readWord_49, k_X3_readWord_52, k_X3_readWord_55, k_X3_readWord_56, k_X3_readWord_58, k_X3_readWord_61, k_X3_readWord_64, k_X3_readWord_65, k_X3_readWord_67, k_X3_readWord_70, k_X3_readWord_73, k_X3_readWord_74, k_X3_readWord_76, k_X3_readWord_79, k_X3_readWord_82, k_X3_readWord_83, k_X3_readWord_85, k_X3_readWord_88, k_X3_readWord_91, k_X3_readWord_92, k_X3_readWord_94, k_X3_readWord_97, k_X3_readWord_100, k_X3_readWord_101, k_X3_readWord_103, k_X3_readWord_106, k_X3_readWord_109, k_X3_readWord_110, k_X3_readWord_111, k_X3_readWord_114, k_X3_readWord_117, k_X3_readWord_118, k_X3_readWord_119, k_X3_readWord_122, k_X3_readWord_125, k_X3_readWord_126, k_X3_readWord_129, k_X3_readWord_130, k_X3_readWord_133, wp1, wp_s, cutIn, kont, Nat.reduceSub, Nat.reduceAdd, nth, o_const, o_lconst, o_ref, o_iload, o_lload, o_aload, o_istore, o_lstore, o_astore, o_iinc, o_bin, o_div, o_un, o_lbin, o_lsh, o_lcmp, o_i2l, o_l2i, o_if, o_icmp, o_goto, o_dup, o_dup2, o_pop, fav, o_getf, o_putI, o_putZ, o_putL, o_ald, o_ast, o_alen, popn, rst, o_callV, o_callT, o_callS, swx, o_sw, o_ret, o_iret, o_zret, o_cret, o_lret, o_aret, lg, lput, lput2, ls1, isL, entL, wsum, rdI1, rdI2, rdA1, rdA21, rdA22, rdL1, rdL22, rdL21, upN_at, rep, sh_0, F_0_0, F_0_1, F_0_2, F_0_3, F_0_4, F_0_5, F_0_6, F_0_7, F_0_8, sh_1, F_1_0, F_1_1, F_1_2, F_1_3, F_1_4, F_1_5, sh_3, F_3_0, F_3_1, F_3_2, F_3_3, F_3_4, F_3_5, sh_5, F_5_0, F_5_1, F_5_2, F_5_3, F_5_4, F_5_5, F_5_6, F_5_7, F_5_8, sh_12, F_12_0, F_12_1, F_12_2, F_12_3, F_12_4, F_12_5, sh_14, F_14_0, F_14_1, F_14_2, F_14_3, F_14_4, F_14_5, F_14_6, F_14_7, F_14_8, sh_21, F_21_0, F_21_1, F_21_2, F_21_3, F_21_4, F_21_5, F_21_6, F_21_7, F_21_8, sh_28, F_28_0, F_28_1, F_28_2, F_28_3, F_28_4, F_28_5, F_28_6, F_28_7, F_28_8, sh_35, F_35_0, sh_39, F_39_0, F_39_1, F_39_2, F_39_3, F_39_4, F_39_5, F_39_6, F_39_7, F_39_8, F_39_9, F_39_10, F_39_11, F_39_12, F_39_13, A_2, A_4, A_6, A_7, A_8, A_9, A_10, A_11, A_13, A_15, A_16, A_17, A_18, A_19, A_20, A_22, A_23, A_24, A_25, A_26, A_27, A_29, A_30, A_31, A_32, A_33, A_34, A_36, A_37, A_38, A_40, A_41, A_42, A_43, A_44, A_45, A_46, A_47]
        refine ⟨fun _ => cut _ _ ⟨rfl, Or.inr ⟨rfl, ?_, rfl, rfl⟩⟩ (by omega) ⟨rfl, trivial⟩, fun q => absurd rfl q⟩
        rw [← he, sk_e]
        intro _
        exact Bool.eq_false_iff.mpr fun z2 => hq ((isW_iff ht).mpr z2)
  · generalize hpe : sk isW t (L - s) s = p at *
    unfold wdV wdK at h
    dsimp only [k_X3_readWord_0, k_X3_readWord_1, k_X3_readWord_4, k_X3_readWord_5, k_X3_readWord_8, k_X3_readWord_11, k_X3_readWord_12, k_X3_readWord_13, k_X3_readWord_16, k_X3_readWord_19, k_X3_readWord_22, k_X3_readWord_25, k_X3_readWord_26, k_X3_readWord_27, k_X3_readWord_30, k_X3_readWord_31, k_X3_readWord_32, k_X3_readWord_35, k_X3_readWord_38, k_X3_readWord_39, k_X3_readWord_41, k_X3_readWord_44, k_X3_readWord_47, k_X3_readWord_48, k_X3_readWord_49, k_X3_readWord_52, k_X3_readWord_55, k_X3_readWord_56, k_X3_readWord_58, k_X3_readWord_61, k_X3_readWord_64, k_X3_readWord_65, k_X3_readWord_67, k_X3_readWord_70, k_X3_readWord_73, k_X3_readWord_74, k_X3_readWord_76, k_X3_readWord_79, k_X3_readWord_82, k_X3_readWord_83, k_X3_readWord_85, k_X3_readWord_88, k_X3_readWord_91, k_X3_readWord_92, k_X3_readWord_94, k_X3_readWord_97, k_X3_readWord_100, k_X3_readWord_101, k_X3_readWord_103, k_X3_readWord_106, k_X3_readWord_109, k_X3_readWord_110, k_X3_readWord_111, k_X3_readWord_114, k_X3_readWord_117, k_X3_readWord_118, k_X3_readWord_119, k_X3_readWord_122, k_X3_readWord_125, k_X3_readWord_126, k_X3_readWord_129, k_X3_readWord_130, k_X3_readWord_133, wp1, wp_s, cutIn, kont, Nat.reduceSub, Nat.reduceAdd, nth, o_const, o_lconst, o_ref, o_iload, o_lload, o_aload, o_istore, o_lstore, o_astore, o_iinc, o_bin, o_div, o_un, o_lbin, o_lsh, o_lcmp, o_i2l, o_l2i, o_if, o_icmp, o_goto, o_dup, o_dup2, o_pop, fav, o_getf, o_putI, o_putZ, o_putL, o_ald, o_ast, o_alen, popn, rst, o_callV, o_callT, o_callS, swx, o_sw, o_ret, o_iret, o_zret, o_cret, o_lret, o_aret, lg, lput, lput2, ls1, isL, entL, wsum, rdI1, rdI2, rdA1, rdA21, rdA22, rdL1, rdL22, rdL21, upN_at, rep, sh_0, F_0_0, F_0_1, F_0_2, F_0_3, F_0_4, F_0_5, F_0_6, F_0_7, F_0_8, sh_1, F_1_0, F_1_1, F_1_2, F_1_3, F_1_4, F_1_5, sh_3, F_3_0, F_3_1, F_3_2, F_3_3, F_3_4, F_3_5, sh_5, F_5_0, F_5_1, F_5_2, F_5_3, F_5_4, F_5_5, F_5_6, F_5_7, F_5_8, sh_12, F_12_0, F_12_1, F_12_2, F_12_3, F_12_4, F_12_5, sh_14, F_14_0, F_14_1, F_14_2, F_14_3, F_14_4, F_14_5, F_14_6, F_14_7, F_14_8, sh_21, F_21_0, F_21_1, F_21_2, F_21_3, F_21_4, F_21_5, F_21_6, F_21_7, F_21_8, sh_28, F_28_0, F_28_1, F_28_2, F_28_3, F_28_4, F_28_5, F_28_6, F_28_7, F_28_8, sh_35, F_35_0, sh_39, F_39_0, F_39_1, F_39_2, F_39_3, F_39_4, F_39_5, F_39_6, F_39_7, F_39_8, F_39_9, F_39_10, F_39_11, F_39_12, F_39_13, A_2, A_4, A_6, A_7, A_8, A_9, A_10, A_11, A_13, A_15, A_16, A_17, A_18, A_19, A_20, A_22, A_23, A_24, A_25, A_26, A_27, A_29, A_30, A_31, A_32, A_33, A_34, A_36, A_37, A_38, A_40, A_41, A_42, A_43, A_44, A_45, A_46, A_47]
    refine ⟨L, t, s, p, 0, rfl, by decide, hT, rfl, hs, by omega, by omega, fun w0 => ?_, fun w0 => ?_⟩
    · dsimp only [k_X3_readWord_0, k_X3_readWord_1, k_X3_readWord_4, k_X3_readWord_5, k_X3_readWord_8, k_X3_readWord_11, k_X3_readWord_12, k_X3_readWord_13, k_X3_readWord_16, k_X3_readWord_19, k_X3_readWord_22, k_X3_readWord_25, k_X3_readWord_26, k_X3_readWord_27, k_X3_readWord_30, k_X3_readWord_31, k_X3_readWord_32, k_X3_readWord_35, k_X3_readWord_38, k_X3_readWord_39, k_X3_readWord_41, k_X3_readWord_44, k_X3_readWord_47, k_X3_readWord_48, k_X3_readWord_49, k_X3_readWord_52, k_X3_readWord_55, k_X3_readWord_56, k_X3_readWord_58, k_X3_readWord_61, k_X3_readWord_64, k_X3_readWord_65, k_X3_readWord_67, k_X3_readWord_70, k_X3_readWord_73, k_X3_readWord_74, k_X3_readWord_76, k_X3_readWord_79, k_X3_readWord_82, k_X3_readWord_83, k_X3_readWord_85, k_X3_readWord_88, k_X3_readWord_91, k_X3_readWord_92, k_X3_readWord_94, k_X3_readWord_97, k_X3_readWord_100, k_X3_readWord_101, k_X3_readWord_103, k_X3_readWord_106, k_X3_readWord_109, k_X3_readWord_110, k_X3_readWord_111, k_X3_readWord_114, k_X3_readWord_117, k_X3_readWord_118, k_X3_readWord_119, k_X3_readWord_122, k_X3_readWord_125, k_X3_readWord_126, k_X3_readWord_129, k_X3_readWord_130, k_X3_readWord_133, wp1, wp_s, cutIn, kont, Nat.reduceSub, Nat.reduceAdd, nth, o_const, o_lconst, o_ref, o_iload, o_lload, o_aload, o_istore, o_lstore, o_astore, o_iinc, o_bin, o_div, o_un, o_lbin, o_lsh, o_lcmp, o_i2l, o_l2i, o_if, o_icmp, o_goto, o_dup, o_dup2, o_pop, fav, o_getf, o_putI, o_putZ, o_putL, o_ald, o_ast, o_alen, popn, rst, o_callV, o_callT, o_callS, swx, o_sw, o_ret, o_iret, o_zret, o_cret, o_lret, o_aret, lg, lput, lput2, ls1, isL, entL, wsum, rdI1, rdI2, rdA1, rdA21, rdA22, rdL1, rdL22, rdL21, upN_at, rep, sh_0, F_0_0, F_0_1, F_0_2, F_0_3, F_0_4, F_0_5, F_0_6, F_0_7, F_0_8, sh_1, F_1_0, F_1_1, F_1_2, F_1_3, F_1_4, F_1_5, sh_3, F_3_0, F_3_1, F_3_2, F_3_3, F_3_4, F_3_5, sh_5, F_5_0, F_5_1, F_5_2, F_5_3, F_5_4, F_5_5, F_5_6, F_5_7, F_5_8, sh_12, F_12_0, F_12_1, F_12_2, F_12_3, F_12_4, F_12_5, sh_14, F_14_0, F_14_1, F_14_2, F_14_3, F_14_4, F_14_5, F_14_6, F_14_7, F_14_8, sh_21, F_21_0, F_21_1, F_21_2, F_21_3, F_21_4, F_21_5, F_21_6, F_21_7, F_21_8, sh_28, F_28_0, F_28_1, F_28_2, F_28_3, F_28_4, F_28_5, F_28_6, F_28_7, F_28_8, sh_35, F_35_0, sh_39, F_39_0, F_39_1, F_39_2, F_39_3, F_39_4, F_39_5, F_39_6, F_39_7, F_39_8, F_39_9, F_39_10, F_39_11, F_39_12, F_39_13, A_2, A_4, A_6, A_7, A_8, A_9, A_10, A_11, A_13, A_15, A_16, A_17, A_18, A_19, A_20, A_22, A_23, A_24, A_25, A_26, A_27, A_29, A_30, A_31, A_32, A_33, A_34, A_36, A_37, A_38, A_40, A_41, A_42, A_43, A_44, A_45, A_46, A_47]
      rw [if_pos w0, if_pos w0, sI_id (a := 4) (by rfl)] at h
      exact ⟨fun q => absurd q (by decide), fun _ => h⟩
    dsimp only [k_X3_readWord_0, k_X3_readWord_1, k_X3_readWord_4, k_X3_readWord_5, k_X3_readWord_8, k_X3_readWord_11, k_X3_readWord_12, k_X3_readWord_13, k_X3_readWord_16, k_X3_readWord_19, k_X3_readWord_22, k_X3_readWord_25, k_X3_readWord_26, k_X3_readWord_27, k_X3_readWord_30, k_X3_readWord_31, k_X3_readWord_32, k_X3_readWord_35, k_X3_readWord_38, k_X3_readWord_39, k_X3_readWord_41, k_X3_readWord_44, k_X3_readWord_47, k_X3_readWord_48, k_X3_readWord_49, k_X3_readWord_52, k_X3_readWord_55, k_X3_readWord_56, k_X3_readWord_58, k_X3_readWord_61, k_X3_readWord_64, k_X3_readWord_65, k_X3_readWord_67, k_X3_readWord_70, k_X3_readWord_73, k_X3_readWord_74, k_X3_readWord_76, k_X3_readWord_79, k_X3_readWord_82, k_X3_readWord_83, k_X3_readWord_85, k_X3_readWord_88, k_X3_readWord_91, k_X3_readWord_92, k_X3_readWord_94, k_X3_readWord_97, k_X3_readWord_100, k_X3_readWord_101, k_X3_readWord_103, k_X3_readWord_106, k_X3_readWord_109, k_X3_readWord_110, k_X3_readWord_111, k_X3_readWord_114, k_X3_readWord_117, k_X3_readWord_118, k_X3_readWord_119, k_X3_readWord_122, k_X3_readWord_125, k_X3_readWord_126, k_X3_readWord_129, k_X3_readWord_130, k_X3_readWord_133, wp1, wp_s, cutIn, kont, Nat.reduceSub, Nat.reduceAdd, nth, o_const, o_lconst, o_ref, o_iload, o_lload, o_aload, o_istore, o_lstore, o_astore, o_iinc, o_bin, o_div, o_un, o_lbin, o_lsh, o_lcmp, o_i2l, o_l2i, o_if, o_icmp, o_goto, o_dup, o_dup2, o_pop, fav, o_getf, o_putI, o_putZ, o_putL, o_ald, o_ast, o_alen, popn, rst, o_callV, o_callT, o_callS, swx, o_sw, o_ret, o_iret, o_zret, o_cret, o_lret, o_aret, lg, lput, lput2, ls1, isL, entL, wsum, rdI1, rdI2, rdA1, rdA21, rdA22, rdL1, rdL22, rdL21, upN_at, rep, sh_0, F_0_0, F_0_1, F_0_2, F_0_3, F_0_4, F_0_5, F_0_6, F_0_7, F_0_8, sh_1, F_1_0, F_1_1, F_1_2, F_1_3, F_1_4, F_1_5, sh_3, F_3_0, F_3_1, F_3_2, F_3_3, F_3_4, F_3_5, sh_5, F_5_0, F_5_1, F_5_2, F_5_3, F_5_4, F_5_5, F_5_6, F_5_7, F_5_8, sh_12, F_12_0, F_12_1, F_12_2, F_12_3, F_12_4, F_12_5, sh_14, F_14_0, F_14_1, F_14_2, F_14_3, F_14_4, F_14_5, F_14_6, F_14_7, F_14_8, sh_21, F_21_0, F_21_1, F_21_2, F_21_3, F_21_4, F_21_5, F_21_6, F_21_7, F_21_8, sh_28, F_28_0, F_28_1, F_28_2, F_28_3, F_28_4, F_28_5, F_28_6, F_28_7, F_28_8, sh_35, F_35_0, sh_39, F_39_0, F_39_1, F_39_2, F_39_3, F_39_4, F_39_5, F_39_6, F_39_7, F_39_8, F_39_9, F_39_10, F_39_11, F_39_12, F_39_13, A_2, A_4, A_6, A_7, A_8, A_9, A_10, A_11, A_13, A_15, A_16, A_17, A_18, A_19, A_20, A_22, A_23, A_24, A_25, A_26, A_27, A_29, A_30, A_31, A_32, A_33, A_34, A_36, A_37, A_38, A_40, A_41, A_42, A_43, A_44, A_45, A_46, A_47]
    refine ⟨fun _ => ⟨L, t, s, p, 1, rfl, by decide, hT, rfl, hs, by omega, by omega, fun w1 => ?_, fun w1 => ?_⟩, fun q => absurd rfl q⟩
    · dsimp only [k_X3_readWord_0, k_X3_readWord_1, k_X3_readWord_4, k_X3_readWord_5, k_X3_readWord_8, k_X3_readWord_11, k_X3_readWord_12, k_X3_readWord_13, k_X3_readWord_16, k_X3_readWord_19, k_X3_readWord_22, k_X3_readWord_25, k_X3_readWord_26, k_X3_readWord_27, k_X3_readWord_30, k_X3_readWord_31, k_X3_readWord_32, k_X3_readWord_35, k_X3_readWord_38, k_X3_readWord_39, k_X3_readWord_41, k_X3_readWord_44, k_X3_readWord_47, k_X3_readWord_48, k_X3_readWord_49, k_X3_readWord_52, k_X3_readWord_55, k_X3_readWord_56, k_X3_readWord_58, k_X3_readWord_61, k_X3_readWord_64, k_X3_readWord_65, k_X3_readWord_67, k_X3_readWord_70, k_X3_readWord_73, k_X3_readWord_74, k_X3_readWord_76, k_X3_readWord_79, k_X3_readWord_82, k_X3_readWord_83, k_X3_readWord_85, k_X3_readWord_88, k_X3_readWord_91, k_X3_readWord_92, k_X3_readWord_94, k_X3_readWord_97, k_X3_readWord_100, k_X3_readWord_101, k_X3_readWord_103, k_X3_readWord_106, k_X3_readWord_109, k_X3_readWord_110, k_X3_readWord_111, k_X3_readWord_114, k_X3_readWord_117, k_X3_readWord_118, k_X3_readWord_119, k_X3_readWord_122, k_X3_readWord_125, k_X3_readWord_126, k_X3_readWord_129, k_X3_readWord_130, k_X3_readWord_133, wp1, wp_s, cutIn, kont, Nat.reduceSub, Nat.reduceAdd, nth, o_const, o_lconst, o_ref, o_iload, o_lload, o_aload, o_istore, o_lstore, o_astore, o_iinc, o_bin, o_div, o_un, o_lbin, o_lsh, o_lcmp, o_i2l, o_l2i, o_if, o_icmp, o_goto, o_dup, o_dup2, o_pop, fav, o_getf, o_putI, o_putZ, o_putL, o_ald, o_ast, o_alen, popn, rst, o_callV, o_callT, o_callS, swx, o_sw, o_ret, o_iret, o_zret, o_cret, o_lret, o_aret, lg, lput, lput2, ls1, isL, entL, wsum, rdI1, rdI2, rdA1, rdA21, rdA22, rdL1, rdL22, rdL21, upN_at, rep, sh_0, F_0_0, F_0_1, F_0_2, F_0_3, F_0_4, F_0_5, F_0_6, F_0_7, F_0_8, sh_1, F_1_0, F_1_1, F_1_2, F_1_3, F_1_4, F_1_5, sh_3, F_3_0, F_3_1, F_3_2, F_3_3, F_3_4, F_3_5, sh_5, F_5_0, F_5_1, F_5_2, F_5_3, F_5_4, F_5_5, F_5_6, F_5_7, F_5_8, sh_12, F_12_0, F_12_1, F_12_2, F_12_3, F_12_4, F_12_5, sh_14, F_14_0, F_14_1, F_14_2, F_14_3, F_14_4, F_14_5, F_14_6, F_14_7, F_14_8, sh_21, F_21_0, F_21_1, F_21_2, F_21_3, F_21_4, F_21_5, F_21_6, F_21_7, F_21_8, sh_28, F_28_0, F_28_1, F_28_2, F_28_3, F_28_4, F_28_5, F_28_6, F_28_7, F_28_8, sh_35, F_35_0, sh_39, F_39_0, F_39_1, F_39_2, F_39_3, F_39_4, F_39_5, F_39_6, F_39_7, F_39_8, F_39_9, F_39_10, F_39_11, F_39_12, F_39_13, A_2, A_4, A_6, A_7, A_8, A_9, A_10, A_11, A_13, A_15, A_16, A_17, A_18, A_19, A_20, A_22, A_23, A_24, A_25, A_26, A_27, A_29, A_30, A_31, A_32, A_33, A_34, A_36, A_37, A_38, A_40, A_41, A_42, A_43, A_44, A_45, A_46, A_47]
      rw [if_neg w0, if_neg w0, if_pos w1, if_pos w1, sI_id (a := 4) (by rfl)] at h
      exact ⟨fun q => absurd q (by decide), fun _ => h⟩
    dsimp only [k_X3_readWord_0, k_X3_readWord_1, k_X3_readWord_4, k_X3_readWord_5, k_X3_readWord_8, k_X3_readWord_11, k_X3_readWord_12, k_X3_readWord_13, k_X3_readWord_16, k_X3_readWord_19, k_X3_readWord_22, k_X3_readWord_25, k_X3_readWord_26, k_X3_readWord_27, k_X3_readWord_30, k_X3_readWord_31, k_X3_readWord_32, k_X3_readWord_35, k_X3_readWord_38, k_X3_readWord_39, k_X3_readWord_41, k_X3_readWord_44, k_X3_readWord_47, k_X3_readWord_48, k_X3_readWord_49, k_X3_readWord_52, k_X3_readWord_55, k_X3_readWord_56, k_X3_readWord_58, k_X3_readWord_61, k_X3_readWord_64, k_X3_readWord_65, k_X3_readWord_67, k_X3_readWord_70, k_X3_readWord_73, k_X3_readWord_74, k_X3_readWord_76, k_X3_readWord_79, k_X3_readWord_82, k_X3_readWord_83, k_X3_readWord_85, k_X3_readWord_88, k_X3_readWord_91, k_X3_readWord_92, k_X3_readWord_94, k_X3_readWord_97, k_X3_readWord_100, k_X3_readWord_101, k_X3_readWord_103, k_X3_readWord_106, k_X3_readWord_109, k_X3_readWord_110, k_X3_readWord_111, k_X3_readWord_114, k_X3_readWord_117, k_X3_readWord_118, k_X3_readWord_119, k_X3_readWord_122, k_X3_readWord_125, k_X3_readWord_126, k_X3_readWord_129, k_X3_readWord_130, k_X3_readWord_133, wp1, wp_s, cutIn, kont, Nat.reduceSub, Nat.reduceAdd, nth, o_const, o_lconst, o_ref, o_iload, o_lload, o_aload, o_istore, o_lstore, o_astore, o_iinc, o_bin, o_div, o_un, o_lbin, o_lsh, o_lcmp, o_i2l, o_l2i, o_if, o_icmp, o_goto, o_dup, o_dup2, o_pop, fav, o_getf, o_putI, o_putZ, o_putL, o_ald, o_ast, o_alen, popn, rst, o_callV, o_callT, o_callS, swx, o_sw, o_ret, o_iret, o_zret, o_cret, o_lret, o_aret, lg, lput, lput2, ls1, isL, entL, wsum, rdI1, rdI2, rdA1, rdA21, rdA22, rdL1, rdL22, rdL21, upN_at, rep, sh_0, F_0_0, F_0_1, F_0_2, F_0_3, F_0_4, F_0_5, F_0_6, F_0_7, F_0_8, sh_1, F_1_0, F_1_1, F_1_2, F_1_3, F_1_4, F_1_5, sh_3, F_3_0, F_3_1, F_3_2, F_3_3, F_3_4, F_3_5, sh_5, F_5_0, F_5_1, F_5_2, F_5_3, F_5_4, F_5_5, F_5_6, F_5_7, F_5_8, sh_12, F_12_0, F_12_1, F_12_2, F_12_3, F_12_4, F_12_5, sh_14, F_14_0, F_14_1, F_14_2, F_14_3, F_14_4, F_14_5, F_14_6, F_14_7, F_14_8, sh_21, F_21_0, F_21_1, F_21_2, F_21_3, F_21_4, F_21_5, F_21_6, F_21_7, F_21_8, sh_28, F_28_0, F_28_1, F_28_2, F_28_3, F_28_4, F_28_5, F_28_6, F_28_7, F_28_8, sh_35, F_35_0, sh_39, F_39_0, F_39_1, F_39_2, F_39_3, F_39_4, F_39_5, F_39_6, F_39_7, F_39_8, F_39_9, F_39_10, F_39_11, F_39_12, F_39_13, A_2, A_4, A_6, A_7, A_8, A_9, A_10, A_11, A_13, A_15, A_16, A_17, A_18, A_19, A_20, A_22, A_23, A_24, A_25, A_26, A_27, A_29, A_30, A_31, A_32, A_33, A_34, A_36, A_37, A_38, A_40, A_41, A_42, A_43, A_44, A_45, A_46, A_47]
    refine ⟨fun _ => ⟨L, t, s, p, 2, rfl, by decide, hT, rfl, hs, by omega, by omega, fun w2 => ?_, fun w2 => ?_⟩, fun q => absurd rfl q⟩
    · dsimp only [k_X3_readWord_0, k_X3_readWord_1, k_X3_readWord_4, k_X3_readWord_5, k_X3_readWord_8, k_X3_readWord_11, k_X3_readWord_12, k_X3_readWord_13, k_X3_readWord_16, k_X3_readWord_19, k_X3_readWord_22, k_X3_readWord_25, k_X3_readWord_26, k_X3_readWord_27, k_X3_readWord_30, k_X3_readWord_31, k_X3_readWord_32, k_X3_readWord_35, k_X3_readWord_38, k_X3_readWord_39, k_X3_readWord_41, k_X3_readWord_44, k_X3_readWord_47, k_X3_readWord_48, k_X3_readWord_49, k_X3_readWord_52, k_X3_readWord_55, k_X3_readWord_56, k_X3_readWord_58, k_X3_readWord_61, k_X3_readWord_64, k_X3_readWord_65, k_X3_readWord_67, k_X3_readWord_70, k_X3_readWord_73, k_X3_readWord_74, k_X3_readWord_76, k_X3_readWord_79, k_X3_readWord_82, k_X3_readWord_83, k_X3_readWord_85, k_X3_readWord_88, k_X3_readWord_91, k_X3_readWord_92, k_X3_readWord_94, k_X3_readWord_97, k_X3_readWord_100, k_X3_readWord_101, k_X3_readWord_103, k_X3_readWord_106, k_X3_readWord_109, k_X3_readWord_110, k_X3_readWord_111, k_X3_readWord_114, k_X3_readWord_117, k_X3_readWord_118, k_X3_readWord_119, k_X3_readWord_122, k_X3_readWord_125, k_X3_readWord_126, k_X3_readWord_129, k_X3_readWord_130, k_X3_readWord_133, wp1, wp_s, cutIn, kont, Nat.reduceSub, Nat.reduceAdd, nth, o_const, o_lconst, o_ref, o_iload, o_lload, o_aload, o_istore, o_lstore, o_astore, o_iinc, o_bin, o_div, o_un, o_lbin, o_lsh, o_lcmp, o_i2l, o_l2i, o_if, o_icmp, o_goto, o_dup, o_dup2, o_pop, fav, o_getf, o_putI, o_putZ, o_putL, o_ald, o_ast, o_alen, popn, rst, o_callV, o_callT, o_callS, swx, o_sw, o_ret, o_iret, o_zret, o_cret, o_lret, o_aret, lg, lput, lput2, ls1, isL, entL, wsum, rdI1, rdI2, rdA1, rdA21, rdA22, rdL1, rdL22, rdL21, upN_at, rep, sh_0, F_0_0, F_0_1, F_0_2, F_0_3, F_0_4, F_0_5, F_0_6, F_0_7, F_0_8, sh_1, F_1_0, F_1_1, F_1_2, F_1_3, F_1_4, F_1_5, sh_3, F_3_0, F_3_1, F_3_2, F_3_3, F_3_4, F_3_5, sh_5, F_5_0, F_5_1, F_5_2, F_5_3, F_5_4, F_5_5, F_5_6, F_5_7, F_5_8, sh_12, F_12_0, F_12_1, F_12_2, F_12_3, F_12_4, F_12_5, sh_14, F_14_0, F_14_1, F_14_2, F_14_3, F_14_4, F_14_5, F_14_6, F_14_7, F_14_8, sh_21, F_21_0, F_21_1, F_21_2, F_21_3, F_21_4, F_21_5, F_21_6, F_21_7, F_21_8, sh_28, F_28_0, F_28_1, F_28_2, F_28_3, F_28_4, F_28_5, F_28_6, F_28_7, F_28_8, sh_35, F_35_0, sh_39, F_39_0, F_39_1, F_39_2, F_39_3, F_39_4, F_39_5, F_39_6, F_39_7, F_39_8, F_39_9, F_39_10, F_39_11, F_39_12, F_39_13, A_2, A_4, A_6, A_7, A_8, A_9, A_10, A_11, A_13, A_15, A_16, A_17, A_18, A_19, A_20, A_22, A_23, A_24, A_25, A_26, A_27, A_29, A_30, A_31, A_32, A_33, A_34, A_36, A_37, A_38, A_40, A_41, A_42, A_43, A_44, A_45, A_46, A_47]
      rw [if_neg w0, if_neg w0, if_neg w1, if_neg w1, if_pos w2, if_pos w2, sI_id (a := 4) (by rfl)] at h
      exact ⟨fun q => absurd q (by decide), fun _ => h⟩
    dsimp only [k_X3_readWord_0, k_X3_readWord_1, k_X3_readWord_4, k_X3_readWord_5, k_X3_readWord_8, k_X3_readWord_11, k_X3_readWord_12, k_X3_readWord_13, k_X3_readWord_16, k_X3_readWord_19, k_X3_readWord_22, k_X3_readWord_25, k_X3_readWord_26, k_X3_readWord_27, k_X3_readWord_30, k_X3_readWord_31, k_X3_readWord_32, k_X3_readWord_35, k_X3_readWord_38, k_X3_readWord_39, k_X3_readWord_41, k_X3_readWord_44, k_X3_readWord_47, k_X3_readWord_48, k_X3_readWord_49, k_X3_readWord_52, k_X3_readWord_55, k_X3_readWord_56, k_X3_readWord_58, k_X3_readWord_61, k_X3_readWord_64, k_X3_readWord_65, k_X3_readWord_67, k_X3_readWord_70, k_X3_readWord_73, k_X3_readWord_74, k_X3_readWord_76, k_X3_readWord_79, k_X3_readWord_82, k_X3_readWord_83, k_X3_readWord_85, k_X3_readWord_88, k_X3_readWord_91, k_X3_readWord_92, k_X3_readWord_94, k_X3_readWord_97, k_X3_readWord_100, k_X3_readWord_101, k_X3_readWord_103, k_X3_readWord_106, k_X3_readWord_109, k_X3_readWord_110, k_X3_readWord_111, k_X3_readWord_114, k_X3_readWord_117, k_X3_readWord_118, k_X3_readWord_119, k_X3_readWord_122, k_X3_readWord_125, k_X3_readWord_126, k_X3_readWord_129, k_X3_readWord_130, k_X3_readWord_133, wp1, wp_s, cutIn, kont, Nat.reduceSub, Nat.reduceAdd, nth, o_const, o_lconst, o_ref, o_iload, o_lload, o_aload, o_istore, o_lstore, o_astore, o_iinc, o_bin, o_div, o_un, o_lbin, o_lsh, o_lcmp, o_i2l, o_l2i, o_if, o_icmp, o_goto, o_dup, o_dup2, o_pop, fav, o_getf, o_putI, o_putZ, o_putL, o_ald, o_ast, o_alen, popn, rst, o_callV, o_callT, o_callS, swx, o_sw, o_ret, o_iret, o_zret, o_cret, o_lret, o_aret, lg, lput, lput2, ls1, isL, entL, wsum, rdI1, rdI2, rdA1, rdA21, rdA22, rdL1, rdL22, rdL21, upN_at, rep, sh_0, F_0_0, F_0_1, F_0_2, F_0_3, F_0_4, F_0_5, F_0_6, F_0_7, F_0_8, sh_1, F_1_0, F_1_1, F_1_2, F_1_3, F_1_4, F_1_5, sh_3, F_3_0, F_3_1, F_3_2, F_3_3, F_3_4, F_3_5, sh_5, F_5_0, F_5_1, F_5_2, F_5_3, F_5_4, F_5_5, F_5_6, F_5_7, F_5_8, sh_12, F_12_0, F_12_1, F_12_2, F_12_3, F_12_4, F_12_5, sh_14, F_14_0, F_14_1, F_14_2, F_14_3, F_14_4, F_14_5, F_14_6, F_14_7, F_14_8, sh_21, F_21_0, F_21_1, F_21_2, F_21_3, F_21_4, F_21_5, F_21_6, F_21_7, F_21_8, sh_28, F_28_0, F_28_1, F_28_2, F_28_3, F_28_4, F_28_5, F_28_6, F_28_7, F_28_8, sh_35, F_35_0, sh_39, F_39_0, F_39_1, F_39_2, F_39_3, F_39_4, F_39_5, F_39_6, F_39_7, F_39_8, F_39_9, F_39_10, F_39_11, F_39_12, F_39_13, A_2, A_4, A_6, A_7, A_8, A_9, A_10, A_11, A_13, A_15, A_16, A_17, A_18, A_19, A_20, A_22, A_23, A_24, A_25, A_26, A_27, A_29, A_30, A_31, A_32, A_33, A_34, A_36, A_37, A_38, A_40, A_41, A_42, A_43, A_44, A_45, A_46, A_47]
    refine ⟨fun _ => ⟨L, t, s, p, 3, rfl, by decide, hT, rfl, hs, by omega, by omega, fun w3 => ?_, fun w3 => ?_⟩, fun q => absurd rfl q⟩
    · dsimp only [k_X3_readWord_0, k_X3_readWord_1, k_X3_readWord_4, k_X3_readWord_5, k_X3_readWord_8, k_X3_readWord_11, k_X3_readWord_12, k_X3_readWord_13, k_X3_readWord_16, k_X3_readWord_19, k_X3_readWord_22, k_X3_readWord_25, k_X3_readWord_26, k_X3_readWord_27, k_X3_readWord_30, k_X3_readWord_31, k_X3_readWord_32, k_X3_readWord_35, k_X3_readWord_38, k_X3_readWord_39, k_X3_readWord_41, k_X3_readWord_44, k_X3_readWord_47, k_X3_readWord_48, k_X3_readWord_49, k_X3_readWord_52, k_X3_readWord_55, k_X3_readWord_56, k_X3_readWord_58, k_X3_readWord_61, k_X3_readWord_64, k_X3_readWord_65, k_X3_readWord_67, k_X3_readWord_70, k_X3_readWord_73, k_X3_readWord_74, k_X3_readWord_76, k_X3_readWord_79, k_X3_readWord_82, k_X3_readWord_83, k_X3_readWord_85, k_X3_readWord_88, k_X3_readWord_91, k_X3_readWord_92, k_X3_readWord_94, k_X3_readWord_97, k_X3_readWord_100, k_X3_readWord_101, k_X3_readWord_103, k_X3_readWord_106, k_X3_readWord_109, k_X3_readWord_110, k_X3_readWord_111, k_X3_readWord_114, k_X3_readWord_117, k_X3_readWord_118, k_X3_readWord_119, k_X3_readWord_122, k_X3_readWord_125, k_X3_readWord_126, k_X3_readWord_129, k_X3_readWord_130, k_X3_readWord_133, wp1, wp_s, cutIn, kont, Nat.reduceSub, Nat.reduceAdd, nth, o_const, o_lconst, o_ref, o_iload, o_lload, o_aload, o_istore, o_lstore, o_astore, o_iinc, o_bin, o_div, o_un, o_lbin, o_lsh, o_lcmp, o_i2l, o_l2i, o_if, o_icmp, o_goto, o_dup, o_dup2, o_pop, fav, o_getf, o_putI, o_putZ, o_putL, o_ald, o_ast, o_alen, popn, rst, o_callV, o_callT, o_callS, swx, o_sw, o_ret, o_iret, o_zret, o_cret, o_lret, o_aret, lg, lput, lput2, ls1, isL, entL, wsum, rdI1, rdI2, rdA1, rdA21, rdA22, rdL1, rdL22, rdL21, upN_at, rep, sh_0, F_0_0, F_0_1, F_0_2, F_0_3, F_0_4, F_0_5, F_0_6, F_0_7, F_0_8, sh_1, F_1_0, F_1_1, F_1_2, F_1_3, F_1_4, F_1_5, sh_3, F_3_0, F_3_1, F_3_2, F_3_3, F_3_4, F_3_5, sh_5, F_5_0, F_5_1, F_5_2, F_5_3, F_5_4, F_5_5, F_5_6, F_5_7, F_5_8, sh_12, F_12_0, F_12_1, F_12_2, F_12_3, F_12_4, F_12_5, sh_14, F_14_0, F_14_1, F_14_2, F_14_3, F_14_4, F_14_5, F_14_6, F_14_7, F_14_8, sh_21, F_21_0, F_21_1, F_21_2, F_21_3, F_21_4, F_21_5, F_21_6, F_21_7, F_21_8, sh_28, F_28_0, F_28_1, F_28_2, F_28_3, F_28_4, F_28_5, F_28_6, F_28_7, F_28_8, sh_35, F_35_0, sh_39, F_39_0, F_39_1, F_39_2, F_39_3, F_39_4, F_39_5, F_39_6, F_39_7, F_39_8, F_39_9, F_39_10, F_39_11, F_39_12, F_39_13, A_2, A_4, A_6, A_7, A_8, A_9, A_10, A_11, A_13, A_15, A_16, A_17, A_18, A_19, A_20, A_22, A_23, A_24, A_25, A_26, A_27, A_29, A_30, A_31, A_32, A_33, A_34, A_36, A_37, A_38, A_40, A_41, A_42, A_43, A_44, A_45, A_46, A_47]
      rw [if_neg w0, if_neg w0, if_neg w1, if_neg w1, if_neg w2, if_neg w2, if_pos w3, if_pos w3, sI_id (a := 4) (by rfl)] at h
      exact ⟨fun q => absurd q (by decide), fun _ => h⟩
    rw [if_neg w0, if_neg w0, if_neg w1, if_neg w1, if_neg w2, if_neg w2, if_neg w3, if_neg w3] at h
    dsimp only [k_X3_readWord_0, k_X3_readWord_1, k_X3_readWord_4, k_X3_readWord_5, k_X3_readWord_8, k_X3_readWord_11, k_X3_readWord_12, k_X3_readWord_13, k_X3_readWord_16, k_X3_readWord_19, k_X3_readWord_22, k_X3_readWord_25, k_X3_readWord_26, k_X3_readWord_27, k_X3_readWord_30, k_X3_readWord_31, k_X3_readWord_32, k_X3_readWord_35, k_X3_readWord_38, k_X3_readWord_39, k_X3_readWord_41, k_X3_readWord_44, k_X3_readWord_47, k_X3_readWord_48, k_X3_readWord_49, k_X3_readWord_52, k_X3_readWord_55, k_X3_readWord_56, k_X3_readWord_58, k_X3_readWord_61, k_X3_readWord_64, k_X3_readWord_65, k_X3_readWord_67, k_X3_readWord_70, k_X3_readWord_73, k_X3_readWord_74, k_X3_readWord_76, k_X3_readWord_79, k_X3_readWord_82, k_X3_readWord_83, k_X3_readWord_85, k_X3_readWord_88, k_X3_readWord_91, k_X3_readWord_92, k_X3_readWord_94, k_X3_readWord_97, k_X3_readWord_100, k_X3_readWord_101, k_X3_readWord_103, k_X3_readWord_106, k_X3_readWord_109, k_X3_readWord_110, k_X3_readWord_111, k_X3_readWord_114, k_X3_readWord_117, k_X3_readWord_118, k_X3_readWord_119, k_X3_readWord_122, k_X3_readWord_125, k_X3_readWord_126, k_X3_readWord_129, k_X3_readWord_130, k_X3_readWord_133, wp1, wp_s, cutIn, kont, Nat.reduceSub, Nat.reduceAdd, nth, o_const, o_lconst, o_ref, o_iload, o_lload, o_aload, o_istore, o_lstore, o_astore, o_iinc, o_bin, o_div, o_un, o_lbin, o_lsh, o_lcmp, o_i2l, o_l2i, o_if, o_icmp, o_goto, o_dup, o_dup2, o_pop, fav, o_getf, o_putI, o_putZ, o_putL, o_ald, o_ast, o_alen, popn, rst, o_callV, o_callT, o_callS, swx, o_sw, o_ret, o_iret, o_zret, o_cret, o_lret, o_aret, lg, lput, lput2, ls1, isL, entL, wsum, rdI1, rdI2, rdA1, rdA21, rdA22, rdL1, rdL22, rdL21, upN_at, rep, sh_0, F_0_0, F_0_1, F_0_2, F_0_3, F_0_4, F_0_5, F_0_6, F_0_7, F_0_8, sh_1, F_1_0, F_1_1, F_1_2, F_1_3, F_1_4, F_1_5, sh_3, F_3_0, F_3_1, F_3_2, F_3_3, F_3_4, F_3_5, sh_5, F_5_0, F_5_1, F_5_2, F_5_3, F_5_4, F_5_5, F_5_6, F_5_7, F_5_8, sh_12, F_12_0, F_12_1, F_12_2, F_12_3, F_12_4, F_12_5, sh_14, F_14_0, F_14_1, F_14_2, F_14_3, F_14_4, F_14_5, F_14_6, F_14_7, F_14_8, sh_21, F_21_0, F_21_1, F_21_2, F_21_3, F_21_4, F_21_5, F_21_6, F_21_7, F_21_8, sh_28, F_28_0, F_28_1, F_28_2, F_28_3, F_28_4, F_28_5, F_28_6, F_28_7, F_28_8, sh_35, F_35_0, sh_39, F_39_0, F_39_1, F_39_2, F_39_3, F_39_4, F_39_5, F_39_6, F_39_7, F_39_8, F_39_9, F_39_10, F_39_11, F_39_12, F_39_13, A_2, A_4, A_6, A_7, A_8, A_9, A_10, A_11, A_13, A_15, A_16, A_17, A_18, A_19, A_20, A_22, A_23, A_24, A_25, A_26, A_27, A_29, A_30, A_31, A_32, A_33, A_34, A_36, A_37, A_38, A_40, A_41, A_42, A_43, A_44, A_45, A_46, A_47]
    refine ⟨fun _ => ⟨L, t, s, p, rfl, hT, rfl, hs, by omega, by omega, fun r0 => ?_, fun r0 => ?_⟩, fun q => absurd rfl q⟩
    · dsimp only [k_X3_readWord_0, k_X3_readWord_1, k_X3_readWord_4, k_X3_readWord_5, k_X3_readWord_8, k_X3_readWord_11, k_X3_readWord_12, k_X3_readWord_13, k_X3_readWord_16, k_X3_readWord_19, k_X3_readWord_22, k_X3_readWord_25, k_X3_readWord_26, k_X3_readWord_27, k_X3_readWord_30, k_X3_readWord_31, k_X3_readWord_32, k_X3_readWord_35, k_X3_readWord_38, k_X3_readWord_39, k_X3_readWord_41, k_X3_readWord_44, k_X3_readWord_47, k_X3_readWord_48, k_X3_readWord_49, k_X3_readWord_52, k_X3_readWord_55, k_X3_readWord_56, k_X3_readWord_58, k_X3_readWord_61, k_X3_readWord_64, k_X3_readWord_65, k_X3_readWord_67, k_X3_readWord_70, k_X3_readWord_73, k_X3_readWord_74, k_X3_readWord_76, k_X3_readWord_79, k_X3_readWord_82, k_X3_readWord_83, k_X3_readWord_85, k_X3_readWord_88, k_X3_readWord_91, k_X3_readWord_92, k_X3_readWord_94, k_X3_readWord_97, k_X3_readWord_100, k_X3_readWord_101, k_X3_readWord_103, k_X3_readWord_106, k_X3_readWord_109, k_X3_readWord_110, k_X3_readWord_111, k_X3_readWord_114, k_X3_readWord_117, k_X3_readWord_118, k_X3_readWord_119, k_X3_readWord_122, k_X3_readWord_125, k_X3_readWord_126, k_X3_readWord_129, k_X3_readWord_130, k_X3_readWord_133, wp1, wp_s, cutIn, kont, Nat.reduceSub, Nat.reduceAdd, nth, o_const, o_lconst, o_ref, o_iload, o_lload, o_aload, o_istore, o_lstore, o_astore, o_iinc, o_bin, o_div, o_un, o_lbin, o_lsh, o_lcmp, o_i2l, o_l2i, o_if, o_icmp, o_goto, o_dup, o_dup2, o_pop, fav, o_getf, o_putI, o_putZ, o_putL, o_ald, o_ast, o_alen, popn, rst, o_callV, o_callT, o_callS, swx, o_sw, o_ret, o_iret, o_zret, o_cret, o_lret, o_aret, lg, lput, lput2, ls1, isL, entL, wsum, rdI1, rdI2, rdA1, rdA21, rdA22, rdL1, rdL22, rdL21, upN_at, rep, sh_0, F_0_0, F_0_1, F_0_2, F_0_3, F_0_4, F_0_5, F_0_6, F_0_7, F_0_8, sh_1, F_1_0, F_1_1, F_1_2, F_1_3, F_1_4, F_1_5, sh_3, F_3_0, F_3_1, F_3_2, F_3_3, F_3_4, F_3_5, sh_5, F_5_0, F_5_1, F_5_2, F_5_3, F_5_4, F_5_5, F_5_6, F_5_7, F_5_8, sh_12, F_12_0, F_12_1, F_12_2, F_12_3, F_12_4, F_12_5, sh_14, F_14_0, F_14_1, F_14_2, F_14_3, F_14_4, F_14_5, F_14_6, F_14_7, F_14_8, sh_21, F_21_0, F_21_1, F_21_2, F_21_3, F_21_4, F_21_5, F_21_6, F_21_7, F_21_8, sh_28, F_28_0, F_28_1, F_28_2, F_28_3, F_28_4, F_28_5, F_28_6, F_28_7, F_28_8, sh_35, F_35_0, sh_39, F_39_0, F_39_1, F_39_2, F_39_3, F_39_4, F_39_5, F_39_6, F_39_7, F_39_8, F_39_9, F_39_10, F_39_11, F_39_12, F_39_13, A_2, A_4, A_6, A_7, A_8, A_9, A_10, A_11, A_13, A_15, A_16, A_17, A_18, A_19, A_20, A_22, A_23, A_24, A_25, A_26, A_27, A_29, A_30, A_31, A_32, A_33, A_34, A_36, A_37, A_38, A_40, A_41, A_42, A_43, A_44, A_45, A_46, A_47]
      rw [if_neg r0, if_neg r0] at h
      refine ⟨fun q => absurd q (by decide), fun _ => ?_⟩
      simp only [sA_sA, sA_cm, sI_sA, sI_sI, sI_cm, sL_sA, sL_sI, sL_sL, sL_cm, Nat.reduceLT] at h ⊢
      exact h
    · dsimp only [k_X3_readWord_0, k_X3_readWord_1, k_X3_readWord_4, k_X3_readWord_5, k_X3_readWord_8, k_X3_readWord_11, k_X3_readWord_12, k_X3_readWord_13, k_X3_readWord_16, k_X3_readWord_19, k_X3_readWord_22, k_X3_readWord_25, k_X3_readWord_26, k_X3_readWord_27, k_X3_readWord_30, k_X3_readWord_31, k_X3_readWord_32, k_X3_readWord_35, k_X3_readWord_38, k_X3_readWord_39, k_X3_readWord_41, k_X3_readWord_44, k_X3_readWord_47, k_X3_readWord_48, k_X3_readWord_49, k_X3_readWord_52, k_X3_readWord_55, k_X3_readWord_56, k_X3_readWord_58, k_X3_readWord_61, k_X3_readWord_64, k_X3_readWord_65, k_X3_readWord_67, k_X3_readWord_70, k_X3_readWord_73, k_X3_readWord_74, k_X3_readWord_76, k_X3_readWord_79, k_X3_readWord_82, k_X3_readWord_83, k_X3_readWord_85, k_X3_readWord_88, k_X3_readWord_91, k_X3_readWord_92, k_X3_readWord_94, k_X3_readWord_97, k_X3_readWord_100, k_X3_readWord_101, k_X3_readWord_103, k_X3_readWord_106, k_X3_readWord_109, k_X3_readWord_110, k_X3_readWord_111, k_X3_readWord_114, k_X3_readWord_117, k_X3_readWord_118, k_X3_readWord_119, k_X3_readWord_122, k_X3_readWord_125, k_X3_readWord_126, k_X3_readWord_129, k_X3_readWord_130, k_X3_readWord_133, wp1, wp_s, cutIn, kont, Nat.reduceSub, Nat.reduceAdd, nth, o_const, o_lconst, o_ref, o_iload, o_lload, o_aload, o_istore, o_lstore, o_astore, o_iinc, o_bin, o_div, o_un, o_lbin, o_lsh, o_lcmp, o_i2l, o_l2i, o_if, o_icmp, o_goto, o_dup, o_dup2, o_pop, fav, o_getf, o_putI, o_putZ, o_putL, o_ald, o_ast, o_alen, popn, rst, o_callV, o_callT, o_callS, swx, o_sw, o_ret, o_iret, o_zret, o_cret, o_lret, o_aret, lg, lput, lput2, ls1, isL, entL, wsum, rdI1, rdI2, rdA1, rdA21, rdA22, rdL1, rdL22, rdL21, upN_at, rep, sh_0, F_0_0, F_0_1, F_0_2, F_0_3, F_0_4, F_0_5, F_0_6, F_0_7, F_0_8, sh_1, F_1_0, F_1_1, F_1_2, F_1_3, F_1_4, F_1_5, sh_3, F_3_0, F_3_1, F_3_2, F_3_3, F_3_4, F_3_5, sh_5, F_5_0, F_5_1, F_5_2, F_5_3, F_5_4, F_5_5, F_5_6, F_5_7, F_5_8, sh_12, F_12_0, F_12_1, F_12_2, F_12_3, F_12_4, F_12_5, sh_14, F_14_0, F_14_1, F_14_2, F_14_3, F_14_4, F_14_5, F_14_6, F_14_7, F_14_8, sh_21, F_21_0, F_21_1, F_21_2, F_21_3, F_21_4, F_21_5, F_21_6, F_21_7, F_21_8, sh_28, F_28_0, F_28_1, F_28_2, F_28_3, F_28_4, F_28_5, F_28_6, F_28_7, F_28_8, sh_35, F_35_0, sh_39, F_39_0, F_39_1, F_39_2, F_39_3, F_39_4, F_39_5, F_39_6, F_39_7, F_39_8, F_39_9, F_39_10, F_39_11, F_39_12, F_39_13, A_2, A_4, A_6, A_7, A_8, A_9, A_10, A_11, A_13, A_15, A_16, A_17, A_18, A_19, A_20, A_22, A_23, A_24, A_25, A_26, A_27, A_29, A_30, A_31, A_32, A_33, A_34, A_36, A_37, A_38, A_40, A_41, A_42, A_43, A_44, A_45, A_46, A_47]
      rw [if_pos r0, if_pos r0] at h
      refine ⟨fun q => ?_, fun q => absurd (nI_pos' (Nat.lt_of_lt_of_le (mk_lt _ 9) (by omega))) q⟩
      simp only [sA_sA, sA_cm, sI_sA, sI_sI, sI_cm, sL_sA, sL_sI, sL_sL, sL_cm, Nat.reduceLT] at h ⊢
      exact h
theorem c_X3_readNumber : Ctr yX3_readNumber cX3_readNumber 3 none ({ frames := 1, cells := 0, slots := 0, locals := 21 } : Room) S_X3_readNumber := ctr_of (T := T_X3_readNumber) (by decide +kernel) (fun post C hr => t_X3_readNumber post C hr) v_X3_readNumber
theorem c_X3_readWord : Ctr yX3_readWord cX3_readWord 1 none ({ frames := 5, cells := 0, slots := 0, locals := 107 } : Room) S_X3_readWord := ctr_of (T := T_X3_readWord) (by decide +kernel) (fun post C hr => t_X3_readWord post C hr) v_X3_readWord
/-- the token from p on: where it begins, what is behind it, its kind, its value -/
def tkS (t : Nat → Nat) (L p : Nat) : Nat := sk isS t (L - p) p
def tkP (t : Nat → Nat) (L p : Nat) : Nat :=
  let s := tkS t L p
  if L ≤ s then s else if t s = 59 then s + 1 else if isD (t s) = true then sk isD t (L - s) s else if isW (t s) = true then sk isW t (L - s) s else s
def tkK (t : Nat → Nat) (L p : Nat) : Int32 :=
  let s := tkS t L p
  if L ≤ s then 0 else if t s = 59 then 1 else if isD (t s) = true then nmK t s (sk isD t (L - s) s) else if isW (t s) = true then wdK t s (sk isW t (L - s) s) else 4
def tkV (t : Nat → Nat) (L p : Nat) (v : Int32) : Int32 :=
  let s := tkS t L p
  if L ≤ s then v else if t s = 59 then v else if isD (t s) = true then nmV t s (sk isD t (L - s) s) v else if isW (t s) = true then wdV t s (sk isW t (L - s) s) v else v
/-- the memory behind it -/
def tkM (t : Nat → Nat) (L p : Nat) (M : AM) : AM := sI 4 (tkV t L p (M.1 4)) (sI 3 (tkK t L p) (sI 2 (nI (tkS t L p)) (sI 1 (nI (tkP t L p)) M)))
def S_X3_readNext : SP := fun as M post => ∃ L t p, as = [VR 1] ∧ TX M L t ∧ M.1 1 = nI p ∧ p ≤ L ∧ post none (tkM t L p M)
def S_X3_readFirst : SP := fun as M post => ∃ L t, as = [VR 1] ∧ TX M L t ∧ post none (tkM t L 0 M)
theorem cw_RX3_39 : ∀ w ∈ ([.methodLink RX3 39 yX3_readNumber, .instanceMethod yX3_readNumber, .selects yX3_readNumber.cls yX3_readNumber yX3_readNumber, .initialized yX3_readNumber.cls, .code yX3_readNumber cX3_readNumber 3 none] : List Cond), w ∈ tb := tb_all [253, 255, 1, 55, 256] (by decide +kernel) (by decide +kernel)
theorem cw_RX3_45 : ∀ w ∈ ([.methodLink RX3 45 yX3_readWord, .instanceMethod yX3_readWord, .selects yX3_readWord.cls yX3_readWord yX3_readWord, .initialized yX3_readWord.cls, .code yX3_readWord cX3_readWord 1 none] : List Cond), w ∈ tb := tb_all [260, 262, 2, 55, 263] (by decide +kernel) (by decide +kernel)
theorem dX3_readNext_0 : decode cX3_readNext 0 = .ok (.aload_n 0, 1) := by decide +kernel
theorem dX3_readNext_1 : decode cX3_readNext 1 = .ok (.getfield 19, 3) := by decide +kernel
theorem dX3_readNext_4 : decode cX3_readNext 4 = .ok (.aload_n 0, 1) := by decide +kernel
theorem dX3_readNext_5 : decode cX3_readNext 5 = .ok (.getfield 15, 3) := by decide +kernel
theorem dX3_readNext_8 : decode cX3_readNext 8 = .ok (.if_icmp .ge 29, 3) := by decide +kernel
theorem dX3_readNext_11 : decode cX3_readNext 11 = .ok (.aload_n 0, 1) := by decide +kernel
theorem dX3_readNext_12 : decode cX3_readNext 12 = .ok (.aload_n 0, 1) := by decide +kernel
theorem dX3_readNext_13 : decode cX3_readNext 13 = .ok (.getfield 19, 3) := by decide +kernel
theorem dX3_readNext_16 : decode cX3_readNext 16 = .ok (.invokevirtual 25, 3) := by decide +kernel
theorem dX3_readNext_19 : decode cX3_readNext 19 = .ok (.bipush 32, 2) := by decide +kernel
theorem dX3_readNext_21 : decode cX3_readNext 21 = .ok (.if_icmp .ne 16, 3) := by decide +kernel
theorem dX3_readNext_24 : decode cX3_readNext 24 = .ok (.aload_n 0, 1) := by decide +kernel
theorem dX3_readNext_25 : decode cX3_readNext 25 = .ok (.dup, 1) := by decide +kernel
theorem dX3_readNext_26 : decode cX3_readNext 26 = .ok (.getfield 19, 3) := by decide +kernel
theorem dX3_readNext_29 : decode cX3_readNext 29 = .ok (.iconst 1, 1) := by decide +kernel
theorem dX3_readNext_30 : decode cX3_readNext 30 = .ok (.iadd, 1) := by decide +kernel
theorem dX3_readNext_31 : decode cX3_readNext 31 = .ok (.putfield 19, 3) := by decide +kernel
theorem dX3_readNext_34 : decode cX3_readNext 34 = .ok (.goto (-34), 3) := by decide +kernel
theorem dX3_readNext_37 : decode cX3_readNext 37 = .ok (.aload_n 0, 1) := by decide +kernel
theorem dX3_readNext_38 : decode cX3_readNext 38 = .ok (.aload_n 0, 1) := by decide +kernel
theorem dX3_readNext_39 : decode cX3_readNext 39 = .ok (.getfield 19, 3) := by decide +kernel
theorem dX3_readNext_42 : decode cX3_readNext 42 = .ok (.putfield 29, 3) := by decide +kernel
theorem dX3_readNext_45 : decode cX3_readNext 45 = .ok (.aload_n 0, 1) := by decide +kernel
theorem dX3_readNext_46 : decode cX3_readNext 46 = .ok (.aload_n 0, 1) := by decide +kernel
theorem dX3_readNext_47 : decode cX3_readNext 47 = .ok (.getfield 29, 3) := by decide +kernel
theorem dX3_readNext_50 : decode cX3_readNext 50 = .ok (.invokevirtual 25, 3) := by decide +kernel
theorem dX3_readNext_53 : decode cX3_readNext 53 = .ok (.istore_n 1, 1) := by decide +kernel
theorem dX3_readNext_54 : decode cX3_readNext 54 = .ok (.iload_n 1, 1) := by decide +kernel
theorem dX3_readNext_55 : decode cX3_readNext 55 = .ok (.ifCond .ge 11, 3) := by decide +kernel
theorem dX3_readNext_58 : decode cX3_readNext 58 = .ok (.aload_n 0, 1) := by decide +kernel
theorem dX3_readNext_59 : decode cX3_readNext 59 = .ok (.iconst 0, 1) := by decide +kernel
theorem dX3_readNext_60 : decode cX3_readNext 60 = .ok (.putfield 32, 3) := by decide +kernel
theorem dX3_readNext_63 : decode cX3_readNext 63 = .ok (.goto 60, 3) := by decide +kernel
theorem dX3_readNext_66 : decode cX3_readNext 66 = .ok (.iload_n 1, 1) := by decide +kernel
theorem dX3_readNext_67 : decode cX3_readNext 67 = .ok (.bipush 59, 2) := by decide +kernel
theorem dX3_readNext_69 : decode cX3_readNext 69 = .ok (.if_icmp .ne 21, 3) := by decide +kernel
theorem dX3_readNext_72 : decode cX3_readNext 72 = .ok (.aload_n 0, 1) := by decide +kernel
theorem dX3_readNext_73 : decode cX3_readNext 73 = .ok (.dup, 1) := by decide +kernel
theorem dX3_readNext_74 : decode cX3_readNext 74 = .ok (.getfield 19, 3) := by decide +kernel
theorem dX3_readNext_77 : decode cX3_readNext 77 = .ok (.iconst 1, 1) := by decide +kernel
theorem dX3_readNext_78 : decode cX3_readNext 78 = .ok (.iadd, 1) := by decide +kernel
theorem dX3_readNext_79 : decode cX3_readNext 79 = .ok (.putfield 19, 3) := by decide +kernel
theorem dX3_readNext_82 : decode cX3_readNext 82 = .ok (.aload_n 0, 1) := by decide +kernel
theorem dX3_readNext_83 : decode cX3_readNext 83 = .ok (.iconst 1, 1) := by decide +kernel
theorem dX3_readNext_84 : decode cX3_readNext 84 = .ok (.putfield 32, 3) := by decide +kernel
theorem dX3_readNext_87 : decode cX3_readNext 87 = .ok (.goto 36, 3) := by decide +kernel
theorem dX3_readNext_90 : decode cX3_readNext 90 = .ok (.iload_n 1, 1) := by decide +kernel
theorem dX3_readNext_91 : decode cX3_readNext 91 = .ok (.invokestatic 35, 3) := by decide +kernel
theorem dX3_readNext_94 : decode cX3_readNext 94 = .ok (.ifCond .eq 10, 3) := by decide +kernel
theorem dX3_readNext_97 : decode cX3_readNext 97 = .ok (.aload_n 0, 1) := by decide +kernel
theorem dX3_readNext_98 : decode cX3_readNext 98 = .ok (.invokevirtual 39, 3) := by decide +kernel
theorem dX3_readNext_101 : decode cX3_readNext 101 = .ok (.goto 22, 3) := by decide +kernel
theorem dX3_readNext_104 : decode cX3_readNext 104 = .ok (.iload_n 1, 1) := by decide +kernel
theorem dX3_readNext_105 : decode cX3_readNext 105 = .ok (.invokestatic 42, 3) := by decide +kernel
theorem dX3_readNext_108 : decode cX3_readNext 108 = .ok (.ifCond .eq 10, 3) := by decide +kernel
theorem dX3_readNext_111 : decode cX3_readNext 111 = .ok (.aload_n 0, 1) := by decide +kernel
theorem dX3_readNext_112 : decode cX3_readNext 112 = .ok (.invokevirtual 45, 3) := by decide +kernel
theorem dX3_readNext_115 : decode cX3_readNext 115 = .ok (.goto 8, 3) := by decide +kernel
theorem dX3_readNext_118 : decode cX3_readNext 118 = .ok (.aload_n 0, 1) := by decide +kernel
theorem dX3_readNext_119 : decode cX3_readNext 119 = .ok (.iconst 4, 1) := by decide +kernel
theorem dX3_readNext_120 : decode cX3_readNext 120 = .ok (.putfield 32, 3) := by decide +kernel
theorem dX3_readNext_123 : decode cX3_readNext 123 = .ok (.return_, 1) := by decide +kernel
def T_X3_readNext (post : PO) : List (Nat × OP) := [(0, o_aload 0 1), (1, o_getf 3 2 4), (4, o_aload 0 5), (5, o_getf 3 1 8), (8, o_icmp (fun x y => y ≤ x) 37 11), (11, o_aload 0 12), (12, o_aload 0 13), (13, o_getf 3 2 16), (16, o_callV 3 S_X3_byteAt 1 19), (19, o_const 32 21), (21, o_icmp (fun x y => x = y) 24 37), (24, o_aload 0 25), (25, o_dup 26), (26, o_getf 3 2 29), (29, o_const 1 30), (30, o_bin (fun x y => x + y) 31), (31, o_putI 3 2 34), (34, o_goto 0), (37, o_aload 0 38), (38, o_aload 0 39), (39, o_getf 3 2 42), (42, o_putI 3 3 45), (45, o_aload 0 46), (46, o_aload 0 47), (47, o_getf 3 3 50), (50, o_callV 3 S_X3_byteAt 1 53), (53, o_istore 1 54), (54, o_iload 1 55), (55, o_if (fun x => 0 ≤ x) 66 58), (58, o_aload 0 59), (59, o_const 0 60), (60, o_putI 3 4 63), (63, o_goto 123), (66, o_iload 1 67), (67, o_const 59 69), (69, o_icmp (fun x y => x = y) 72 90), (72, o_aload 0 73), (73, o_dup 74), (74, o_getf 3 2 77), (77, o_const 1 78), (78, o_bin (fun x y => x + y) 79), (79, o_putI 3 2 82), (82, o_aload 0 83), (83, o_const 1 84), (84, o_putI 3 4 87), (87, o_goto 123), (90, o_iload 1 91), (91, o_callS S_X3_isDigit 1 94), (94, o_if (fun x => x = 0) 104 97), (97, o_aload 0 98), (98, o_callV 3 S_X3_readNumber 0 101), (101, o_goto 123), (104, o_iload 1 105), (105, o_callS S_X3_isLetter 1 108), (108, o_if (fun x => x = 0) 118 111), (111, o_aload 0 112), (112, o_callV 3 S_X3_readWord 0 115), (115, o_goto 123), (118, o_aload 0 119), (119, o_const 4 120), (120, o_putI 3 4 123), (123, o_ret post)]
theorem k_X3_readNext_0 (post : PO) : lk (T_X3_readNext post) 0 = o_aload 0 1 := rfl
theorem k_X3_readNext_1 (post : PO) : lk (T_X3_readNext post) 1 = o_getf 3 2 4 := rfl
theorem k_X3_readNext_4 (post : PO) : lk (T_X3_readNext post) 4 = o_aload 0 5 := rfl
theorem k_X3_readNext_5 (post : PO) : lk (T_X3_readNext post) 5 = o_getf 3 1 8 := rfl
theorem k_X3_readNext_8 (post : PO) : lk (T_X3_readNext post) 8 = o_icmp (fun x y => y ≤ x) 37 11 := rfl
theorem k_X3_readNext_11 (post : PO) : lk (T_X3_readNext post) 11 = o_aload 0 12 := rfl
theorem k_X3_readNext_12 (post : PO) : lk (T_X3_readNext post) 12 = o_aload 0 13 := rfl
theorem k_X3_readNext_13 (post : PO) : lk (T_X3_readNext post) 13 = o_getf 3 2 16 := rfl
theorem k_X3_readNext_16 (post : PO) : lk (T_X3_readNext post) 16 = o_callV 3 S_X3_byteAt 1 19 := rfl
theorem k_X3_readNext_19 (post : PO) : lk (T_X3_readNext post) 19 = o_const 32 21 := rfl
theorem k_X3_readNext_21 (post : PO) : lk (T_X3_readNext post) 21 = o_icmp (fun x y => x = y) 24 37 := rfl
theorem k_X3_readNext_24 (post : PO) : lk (T_X3_readNext post) 24 = o_aload 0 25 := rfl
theorem k_X3_readNext_25 (post : PO) : lk (T_X3_readNext post) 25 = o_dup 26 := rfl
theorem k_X3_readNext_26 (post : PO) : lk (T_X3_readNext post) 26 = o_getf 3 2 29 := rfl
theorem k_X3_readNext_29 (post : PO) : lk (T_X3_readNext post) 29 = o_const 1 30 := rfl
theorem k_X3_readNext_30 (post : PO) : lk (T_X3_readNext post) 30 = o_bin (fun x y => x + y) 31 := rfl
theorem k_X3_readNext_31 (post : PO) : lk (T_X3_readNext post) 31 = o_putI 3 2 34 := rfl
theorem k_X3_readNext_34 (post : PO) : lk (T_X3_readNext post) 34 = o_goto 0 := rfl
theorem k_X3_readNext_37 (post : PO) : lk (T_X3_readNext post) 37 = o_aload 0 38 := rfl
theorem k_X3_readNext_38 (post : PO) : lk (T_X3_readNext post) 38 = o_aload 0 39 := rfl
theorem k_X3_readNext_39 (post : PO) : lk (T_X3_readNext post) 39 = o_getf 3 2 42 := rfl
theorem k_X3_readNext_42 (post : PO) : lk (T_X3_readNext post) 42 = o_putI 3 3 45 := rfl
theorem k_X3_readNext_45 (post : PO) : lk (T_X3_readNext post) 45 = o_aload 0 46 := rfl
theorem k_X3_readNext_46 (post : PO) : lk (T_X3_readNext post) 46 = o_aload 0 47 := rfl
theorem k_X3_readNext_47 (post : PO) : lk (T_X3_readNext post) 47 = o_getf 3 3 50 := rfl
theorem k_X3_readNext_50 (post : PO) : lk (T_X3_readNext post) 50 = o_callV 3 S_X3_byteAt 1 53 := rfl
theorem k_X3_readNext_53 (post : PO) : lk (T_X3_readNext post) 53 = o_istore 1 54 := rfl
theorem k_X3_readNext_54 (post : PO) : lk (T_X3_readNext post) 54 = o_iload 1 55 := rfl
theorem k_X3_readNext_55 (post : PO) : lk (T_X3_readNext post) 55 = o_if (fun x => 0 ≤ x) 66 58 := rfl
theorem k_X3_readNext_58 (post : PO) : lk (T_X3_readNext post) 58 = o_aload 0 59 := rfl
theorem k_X3_readNext_59 (post : PO) : lk (T_X3_readNext post) 59 = o_const 0 60 := rfl
theorem k_X3_readNext_60 (post : PO) : lk (T_X3_readNext post) 60 = o_putI 3 4 63 := rfl
theorem k_X3_readNext_63 (post : PO) : lk (T_X3_readNext post) 63 = o_goto 123 := rfl
theorem k_X3_readNext_66 (post : PO) : lk (T_X3_readNext post) 66 = o_iload 1 67 := rfl
theorem k_X3_readNext_67 (post : PO) : lk (T_X3_readNext post) 67 = o_const 59 69 := rfl
theorem k_X3_readNext_69 (post : PO) : lk (T_X3_readNext post) 69 = o_icmp (fun x y => x = y) 72 90 := rfl
theorem k_X3_readNext_72 (post : PO) : lk (T_X3_readNext post) 72 = o_aload 0 73 := rfl
theorem k_X3_readNext_73 (post : PO) : lk (T_X3_readNext post) 73 = o_dup 74 := rfl
theorem k_X3_readNext_74 (post : PO) : lk (T_X3_readNext post) 74 = o_getf 3 2 77 := rfl
theorem k_X3_readNext_77 (post : PO) : lk (T_X3_readNext post) 77 = o_const 1 78 := rfl
theorem k_X3_readNext_78 (post : PO) : lk (T_X3_readNext post) 78 = o_bin (fun x y => x + y) 79 := rfl
theorem k_X3_readNext_79 (post : PO) : lk (T_X3_readNext post) 79 = o_putI 3 2 82 := rfl
theorem k_X3_readNext_82 (post : PO) : lk (T_X3_readNext post) 82 = o_aload 0 83 := rfl
theorem k_X3_readNext_83 (post : PO) : lk (T_X3_readNext post) 83 = o_const 1 84 := rfl
theorem k_X3_readNext_84 (post : PO) : lk (T_X3_readNext post) 84 = o_putI 3 4 87 := rfl
theorem k_X3_readNext_87 (post : PO) : lk (T_X3_readNext post) 87 = o_goto 123 := rfl
theorem k_X3_readNext_90 (post : PO) : lk (T_X3_readNext post) 90 = o_iload 1 91 := rfl
theorem k_X3_readNext_91 (post : PO) : lk (T_X3_readNext post) 91 = o_callS S_X3_isDigit 1 94 := rfl
theorem k_X3_readNext_94 (post : PO) : lk (T_X3_readNext post) 94 = o_if (fun x => x = 0) 104 97 := rfl
theorem k_X3_readNext_97 (post : PO) : lk (T_X3_readNext post) 97 = o_aload 0 98 := rfl
theorem k_X3_readNext_98 (post : PO) : lk (T_X3_readNext post) 98 = o_callV 3 S_X3_readNumber 0 101 := rfl
theorem k_X3_readNext_101 (post : PO) : lk (T_X3_readNext post) 101 = o_goto 123 := rfl
theorem k_X3_readNext_104 (post : PO) : lk (T_X3_readNext post) 104 = o_iload 1 105 := rfl
theorem k_X3_readNext_105 (post : PO) : lk (T_X3_readNext post) 105 = o_callS S_X3_isLetter 1 108 := rfl
theorem k_X3_readNext_108 (post : PO) : lk (T_X3_readNext post) 108 = o_if (fun x => x = 0) 118 111 := rfl
theorem k_X3_readNext_111 (post : PO) : lk (T_X3_readNext post) 111 = o_aload 0 112 := rfl
theorem k_X3_readNext_112 (post : PO) : lk (T_X3_readNext post) 112 = o_callV 3 S_X3_readWord 0 115 := rfl
theorem k_X3_readNext_115 (post : PO) : lk (T_X3_readNext post) 115 = o_goto 123 := rfl
theorem k_X3_readNext_118 (post : PO) : lk (T_X3_readNext post) 118 = o_aload 0 119 := rfl
theorem k_X3_readNext_119 (post : PO) : lk (T_X3_readNext post) 119 = o_const 4 120 := rfl
theorem k_X3_readNext_120 (post : PO) : lk (T_X3_readNext post) 120 = o_putI 3 4 123 := rfl
theorem k_X3_readNext_123 (post : PO) : lk (T_X3_readNext post) 123 = o_ret post := rfl
set_option maxRecDepth 100000 in
theorem t_X3_readNext {p : Program} {l : Launch} {e : Env} {s : State} {m : MethodId} {args : Array Value} {below : List Frame} {meth : Method} {c : Code} {D : va_G} {dA : Nat → ClassId} {ad : Nat → Nat} (post : PO) (C : CX p s m args meth c cX3_readNext 2 yX3_readNext.cls D dA ad (AA ad s.heap.size)) (hr : meth.sig.returnType = none) : SndL (WW p l e ({ frames := 6, cells := 0, slots := 0, locals := 127 } : Room) s m args below meth c 0 0 (MQ below (CQ D dA ad post (AA ad s.heap.size)) args s 0 0 (AA ad s.heap.size)) 2 D dA ad (AA ad s.heap.size)) (T_X3_readNext post) := by
  refine snd_c (s_aload_n C rfl dX3_readNext_0) ?_
  refine snd_c (s_getf C (ci := 3) (j := 2) (T := TX3) rfl inX3 (by decide) fl_RX3_19 dX3_readNext_1) ?_
  refine snd_c (s_aload_n C rfl dX3_readNext_4) ?_
  refine snd_c (s_getf C (ci := 3) (j := 1) (T := TX3) rfl inX3 (by decide) fl_RX3_15 dX3_readNext_5) ?_
  refine snd_c (s_icmp_ge C dX3_readNext_8 (by decide)) ?_
  refine snd_c (s_aload_n C rfl dX3_readNext_11) ?_
  refine snd_c (s_aload_n C rfl dX3_readNext_12) ?_
  refine snd_c (s_getf C (ci := 3) (j := 2) (T := TX3) rfl inX3 (by decide) fl_RX3_19 dX3_readNext_13) ?_
  refine snd_c (s_callV C (ci := 3) c_X3_byteAt rfl cw_RX3_25 ⟨rfl, rfl⟩ ⟨by decide +kernel, by decide +kernel, by decide +kernel⟩ ⟨by decide, by decide⟩ ⟨Nat.zero_le _, Nat.zero_le _⟩ dX3_readNext_16) ?_
  refine snd_c (s_bipush C dX3_readNext_19 rfl) ?_
  refine snd_c (s_icmp_ne C dX3_readNext_21 (by decide)) ?_
  refine snd_c (s_aload_n C rfl dX3_readNext_24) ?_
  refine snd_c (s_dup C dX3_readNext_25) ?_
  refine snd_c (s_getf C (ci := 3) (j := 2) (T := TX3) rfl inX3 (by decide) fl_RX3_19 dX3_readNext_26) ?_
  refine snd_c (s_iconst C dX3_readNext_29 rfl) ?_
  refine snd_c (s_iadd C dX3_readNext_30) ?_
  refine snd_c (s_putI C (ci := 3) (j := 2) (T := TX3) tyX3 tyX3_ok nmX3 rfl inX3 (by decide) rfl rfl fl_RX3_19 dX3_readNext_31) ?_
  refine snd_c (s_goto C dX3_readNext_34 (by decide)) ?_
  refine snd_c (s_aload_n C rfl dX3_readNext_37) ?_
  refine snd_c (s_aload_n C rfl dX3_readNext_38) ?_
  refine snd_c (s_getf C (ci := 3) (j := 2) (T := TX3) rfl inX3 (by decide) fl_RX3_19 dX3_readNext_39) ?_
  refine snd_c (s_putI C (ci := 3) (j := 3) (T := TX3) tyX3 tyX3_ok nmX3 rfl inX3 (by decide) rfl rfl fl_RX3_29 dX3_readNext_42) ?_
  refine snd_c (s_aload_n C rfl dX3_readNext_45) ?_
  refine snd_c (s_aload_n C rfl dX3_readNext_46) ?_
  refine snd_c (s_getf C (ci := 3) (j := 3) (T := TX3) rfl inX3 (by decide) fl_RX3_29 dX3_readNext_47) ?_
  refine snd_c (s_callV C (ci := 3) c_X3_byteAt rfl cw_RX3_25 ⟨rfl, rfl⟩ ⟨by decide +kernel, by decide +kernel, by decide +kernel⟩ ⟨by decide, by decide⟩ ⟨Nat.zero_le _, Nat.zero_le _⟩ dX3_readNext_50) ?_
  refine snd_c (s_istore_n C rfl (by decide) dX3_readNext_53) ?_
  refine snd_c (s_iload_n C rfl dX3_readNext_54) ?_
  refine snd_c (s_if_ge C dX3_readNext_55 (by decide)) ?_
  refine snd_c (s_aload_n C rfl dX3_readNext_58) ?_
  refine snd_c (s_iconst C dX3_readNext_59 rfl) ?_
  refine snd_c (s_putI C (ci := 3) (j := 4) (T := TX3) tyX3 tyX3_ok nmX3 rfl inX3 (by decide) rfl rfl fl_RX3_32 dX3_readNext_60) ?_
  refine snd_c (s_goto C dX3_readNext_63 (by decide)) ?_
  refine snd_c (s_iload_n C rfl dX3_readNext_66) ?_
  refine snd_c (s_bipush C dX3_readNext_67 rfl) ?_
  refine snd_c (s_icmp_ne C dX3_readNext_69 (by decide)) ?_
  refine snd_c (s_aload_n C rfl dX3_readNext_72) ?_
  refine snd_c (s_dup C dX3_readNext_73) ?_
  refine snd_c (s_getf C (ci := 3) (j := 2) (T := TX3) rfl inX3 (by decide) fl_RX3_19 dX3_readNext_74) ?_
  refine snd_c (s_iconst C dX3_readNext_77 rfl) ?_
  refine snd_c (s_iadd C dX3_readNext_78) ?_
  refine snd_c (s_putI C (ci := 3) (j := 2) (T := TX3) tyX3 tyX3_ok nmX3 rfl inX3 (by decide) rfl rfl fl_RX3_19 dX3_readNext_79) ?_
  refine snd_c (s_aload_n C rfl dX3_readNext_82) ?_
  refine snd_c (s_iconst C dX3_readNext_83 rfl) ?_
  refine snd_c (s_putI C (ci := 3) (j := 4) (T := TX3) tyX3 tyX3_ok nmX3 rfl inX3 (by decide) rfl rfl fl_RX3_32 dX3_readNext_84) ?_
  refine snd_c (s_goto C dX3_readNext_87 (by decide)) ?_
  refine snd_c (s_iload_n C rfl dX3_readNext_90) ?_
  refine snd_c (s_callS C c_X3_isDigit cw_RX3_35 ⟨rfl, rfl⟩ ⟨by decide +kernel, by decide +kernel, by decide +kernel⟩ ⟨by decide, by decide⟩ ⟨Nat.zero_le _, Nat.zero_le _⟩ dX3_readNext_91) ?_
  refine snd_c (s_if_eq C dX3_readNext_94 (by decide)) ?_
  refine snd_c (s_aload_n C rfl dX3_readNext_97) ?_
  refine snd_c (s_callV C (ci := 3) c_X3_readNumber rfl cw_RX3_39 ⟨rfl, rfl⟩ ⟨by decide +kernel, by decide +kernel, by decide +kernel⟩ ⟨by decide, by decide⟩ ⟨Nat.zero_le _, Nat.zero_le _⟩ dX3_readNext_98) ?_
  refine snd_c (s_goto C dX3_readNext_101 (by decide)) ?_
  refine snd_c (s_iload_n C rfl dX3_readNext_104) ?_
  refine snd_c (s_callS C c_X3_isLetter cw_RX3_42 ⟨rfl, rfl⟩ ⟨by decide +kernel, by decide +kernel, by decide +kernel⟩ ⟨by decide, by decide⟩ ⟨Nat.zero_le _, Nat.zero_le _⟩ dX3_readNext_105) ?_
  refine snd_c (s_if_eq C dX3_readNext_108 (by decide)) ?_
  refine snd_c (s_aload_n C rfl dX3_readNext_111) ?_
  refine snd_c (s_callV C (ci := 3) c_X3_readWord rfl cw_RX3_45 ⟨rfl, rfl⟩ ⟨by decide +kernel, by decide +kernel, by decide +kernel⟩ ⟨by decide, by decide⟩ ⟨Nat.zero_le _, Nat.zero_le _⟩ dX3_readNext_112) ?_
  refine snd_c (s_goto C dX3_readNext_115 (by decide)) ?_
  refine snd_c (s_aload_n C rfl dX3_readNext_118) ?_
  refine snd_c (s_iconst C dX3_readNext_119 rfl) ?_
  refine snd_c (s_putI C (ci := 3) (j := 4) (T := TX3) tyX3 tyX3_ok nmX3 rfl inX3 (by decide) rfl rfl fl_RX3_32 dX3_readNext_120) ?_
  refine snd_c (s_ret C hr dX3_readNext_123) ?_
  exact trivial
theorem isS_iff {c : Nat} (hc : c < 256) : nI c = 32 ↔ isS c = true := by
  rw [show (32 : Int32) = nI 32 from rfl, nI_eq (by omega) (by omega)]
  simp [isS]
set_option maxRecDepth 100000 in
theorem v_X3_readNext : ∀ as M post, S_X3_readNext as M post → wsum as ≤ 2 ∧ RUN (T_X3_readNext post) 0 (entL 2 as) [] M := by
  rintro as M post ⟨L, t, p, rfl, hT, hp, hpL, h⟩
  have hT2 := hT.2.1
  have hge := sk_ge isS t (L - p) p
  refine ⟨by show 1 ≤ 2; omega, run_cut [0, 37] (fun μ pc lv st M' => st = [] ∧ ((pc = 0 ∧ ∃ i, p ≤ i ∧ i ≤ L ∧ sk isS t (L - i) i = sk isS t (L - p) p ∧ M' = sI 1 (nI i) M ∧ μ = 1000 - i ∧ lv = [some (VR 1), none]) ∨ (pc = 37 ∧ M' = sI 1 (nI (sk isS t (L - p) p)) M ∧ μ = 10 ∧ lv = [some (VR 1), none]))) 60 ?_ (1000 - p) 0 _ _ _ ⟨rfl, Or.inl ⟨rfl, p, Nat.le_refl p, by omega, rfl, (sI_id hp).symm, rfl, rfl⟩⟩⟩
  rintro μ pc lv st M' ⟨rfl, ⟨rfl, i, hi, hiL, he, rfl, rfl, rfl⟩ | ⟨rfl, rfl, rfl, rfl⟩⟩
  · dsimp only [k_X3_readNext_0, k_X3_readNext_1, k_X3_readNext_4, k_X3_readNext_5, k_X3_readNext_8, k_X3_readNext_11, k_X3_readNext_12, k_X3_readNext_13, k_X3_readNext_16, k_X3_readNext_19, k_X3_readNext_21, k_X3_readNext_24, k_X3_readNext_25, k_X3_readNext_26, k_X3_readNext_29, k_X3_readNext_30, k_X3_readNext_31, k_X3_readNext_34, k_X3_readNext_37, k_X3_readNext_38, k_X3_readNext_39, k_X3_readNext_42, k_X3_readNext_45, k_X3_readNext_46, k_X3_readNext_47, k_X3_readNext_50, k_X3_readNext_53, k_X3_readNext_54, k_X3_readNext_55, k_X3_readNext_58, k_X3_readNext_59, k_X3_readNext_60, k_X3_readNext_63, k_X3_readNext_66, k_X3_readNext_67, k_X3_readNext_69, k_X3_readNext_72, k_X3_readNext_73, k_X3_readNext_74, k_X3_readNext_77, k_X3_readNext_78, k_X3_readNext_79, k_X3_readNext_82, k_X3_readNext_83, k_X3_readNext_84, k_X3_readNext_87, k_X3_readNext_90, k_X3_readNext_91, k_X3_readNext_94, k_X3_readNext_97, k_X3_readNext_98, k_X3_readNext_101, k_X3_readNext_104, k_X3_readNext_105, k_X3_readNext_108, k_X3_readNext_111, k_X3_readNext_112, k_X3_readNext_115, k_X3_readNext_118, k_X3_readNext_119, k_X3_readNext_120, k_X3_readNext_123, wp1, wp_s, cutIn, kont, Nat.reduceSub, Nat.reduceAdd, nth, o_const, o_lconst, o_ref, o_iload, o_lload, o_aload, o_istore, o_lstore, o_astore, o_iinc, o_bin, o_div, o_un, o_lbin, o_lsh, o_lcmp, o_i2l, o_l2i, o_if, o_icmp, o_goto, o_dup, o_dup2, o_pop, fav, o_getf, o_putI, o_putZ, o_putL, o_ald, o_ast, o_alen, popn, rst, o_callV, o_callT, o_callS, swx, o_sw, o_ret, o_iret, o_zret, o_cret, o_lret, o_aret, lg, lput, lput2, ls1, isL, entL, wsum, rdI1, rdI2, rdA1, rdA21, rdA22, rdL1, rdL22, rdL21, upN_at, rep, sh_0, F_0_0, F_0_1, F_0_2, F_0_3, F_0_4, F_0_5, F_0_6, F_0_7, F_0_8, sh_1, F_1_0, F_1_1, F_1_2, F_1_3, F_1_4, F_1_5, sh_3, F_3_0, F_3_1, F_3_2, F_3_3, F_3_4, F_3_5, sh_5, F_5_0, F_5_1, F_5_2, F_5_3, F_5_4, F_5_5, F_5_6, F_5_7, F_5_8, sh_12, F_12_0, F_12_1, F_12_2, F_12_3, F_12_4, F_12_5, sh_14, F_14_0, F_14_1, F_14_2, F_14_3, F_14_4, F_14_5, F_14_6, F_14_7, F_14_8, sh_21, F_21_0, F_21_1, F_21_2, F_21_3, F_21_4, F_21_5, F_21_6, F_21_7, F_21_8, sh_28, F_28_0, F_28_1, F_28_2, F_28_3, F_28_4, F_28_5, F_28_6, F_28_7, F_28_8, sh_35, F_35_0, sh_39, F_39_0, F_39_1, F_39_2, F_39_3, F_39_4, F_39_5, F_39_6, F_39_7, F_39_8, F_39_9, F_39_10, F_39_11, F_39_12, F_39_13, A_2, A_4, A_6, A_7, A_8, A_9, A_10, A_11, A_13, A_15, A_16, A_17, A_18, A_19, A_20, A_22, A_23, A_24, A_25, A_26, A_27, A_29, A_30, A_31, A_32, A_33, A_34, A_36, A_37, A_38, A_40, A_41, A_42, A_43, A_44, A_45, A_46, A_47]
    rw [hT.1]
    simp (disch := omega) only [nI_leI, nI_ltI, nI_eq, nI_1, nI_add, one_shl, nI_or, nI_xor, nI_and, bit_0, bit_1, true_or, or_true, true_and, and_true, eq_self, not_true_eq_false, not_false_eq_true, forall_const]
    refine ⟨fun z => cut _ _ ⟨rfl, Or.inr ⟨rfl, ?_, rfl, rfl⟩⟩ (by omega) ⟨rfl, trivial⟩, fun z => ⟨L, t, i, rfl, hT, by omega, ?_⟩⟩
    · rw [← he, sk_e (fun q => absurd q (by omega))]
    · rw [bAt_in (by omega)]
      have ht := (hT.2.2 i (by omega)).2
      dsimp only [k_X3_readNext_0, k_X3_readNext_1, k_X3_readNext_4, k_X3_readNext_5, k_X3_readNext_8, k_X3_readNext_11, k_X3_readNext_12, k_X3_readNext_13, k_X3_readNext_16, k_X3_readNext_19, k_X3_readNext_21, k_X3_readNext_24, k_X3_readNext_25, k_X3_readNext_26, k_X3_readNext_29, k_X3_readNext_30, k_X3_readNext_31, k_X3_readNext_34, k_X3_readNext_37, k_X3_readNext_38, k_X3_readNext_39, k_X3_readNext_42, k_X3_readNext_45, k_X3_readNext_46, k_X3_readNext_47, k_X3_readNext_50, k_X3_readNext_53, k_X3_readNext_54, k_X3_readNext_55, k_X3_readNext_58, k_X3_readNext_59, k_X3_readNext_60, k_X3_readNext_63, k_X3_readNext_66, k_X3_readNext_67, k_X3_readNext_69, k_X3_readNext_72, k_X3_readNext_73, k_X3_readNext_74, k_X3_readNext_77, k_X3_readNext_78, k_X3_readNext_79, k_X3_readNext_82, k_X3_readNext_83, k_X3_readNext_84, k_X3_readNext_87, k_X3_readNext_90, k_X3_readNext_91, k_X3_readNext_94, k_X3_readNext_97, k_X3_readNext_98, k_X3_readNext_101, k_X3_readNext_104, k_X3_readNext_105, k_X3_readNext_108, k_X3_readNext_111, k_X3_readNext_112, k_X3_readNext_115, k_X3_readNext_118, k_X3_readNext_119, k_X3_readNext_120, k_X3_readNext_123, wp1, wp_s, cutIn, kont, Nat.reduceSub, Nat.reduceAdd, nth, o_const, o_lconst, o_ref, o_iload, o_lload, o_aload, o_istore, o_lstore, o_astore, o_iinc, o_bin, o_div, o_un, o_lbin, o_lsh, o_lcmp, o_i2l, o_l2i, o_if, o_icmp, o_goto, o_dup, o_dup2, o_pop, fav, o_getf, o_putI, o_putZ, o_putL, o_ald, o_ast, o_alen, popn, rst, o_callV, o_callT, o_callS, swx, o_sw, o_ret, o_iret, o_zret, o_cret, o_lret, o_aret, lg, lput, lput2, ls1, isL, entL, wsum, rdI1, rdI2, rdA1, rdA21, rdA22, rdL1, rdL22, rdL21, upN_at, rep, sh_0, F_0_0, F_0_1, F_0_2, F_0_3, F_0_4, F_0_5, F_0_6, F_0_7, F_0_8, sh_1, F_1_0, F_1_1, F_1_2, F_1_3, F_1_4, F_1_5, sh_3, F_3_0, F_3_1, F_3_2, F_3_3, F_3_4, F_3_5, sh_5, F_5_0, F_5_1, F_5_2, F_5_3, F_5_4, F_5_5, F_5_6, F_5_7, F_5_8, sh_12, F_12_0, F_12_1, F_12_2, F_12_3, F_12_4, F_12_5, sh_14, F_14_0, F_14_1, F_14_2, F_14_3, F_14_4, F_14_5, F_14_6, F_14_7, F_14_8, sh_21, F_21_0, F_21_1, F_21_2, F_21_3, F_21_4, F_21_5, F_21_6, F_21_7, F_21_8, sh_28, F_28_0, F_28_1, F_28_2, F_28_3, F_28_4, F_28_5, F_28_6, F_28_7, F_28_8, sh_35, F_35_0, sh_39, F_39_0, F_39_1, F_39_2, F_39_3, F_39_4, F_39_5, F_39_6, F_39_7, F_39_8, F_39_9, F_39_10, F_39_11, F_39_12, F_39_13, A_2, A_4, A_6, A_7, A_8, A_9, A_10, A_11, A_13, A_15, A_16, A_17, A_18, A_19, A_20, A_22, A_23, A_24, A_25, A_26, A_27, A_29, A_30, A_31, A_32, A_33, A_34, A_36, A_37, A_38, A_40, A_41, A_42, A_43, A_44, A_45, A_46, A_47]
      refine ⟨fun hq => cut _ _ ⟨rfl, Or.inl ⟨rfl, i + 1, by omega, by omega, ?_, ?_, rfl, rfl⟩⟩ (by omega) ⟨rfl, trivial⟩, fun hq => cut _ _ ⟨rfl, Or.inr ⟨rfl, ?_, rfl, rfl⟩⟩ (by omega) ⟨rfl, trivial⟩⟩
      · rw [← he, sk_s (by omega) ((isS_iff ht).mp hq)]
      · rw [sI_sI, nI_1]
      · rw [← he, sk_e]
        intro _
        exact Bool.eq_false_iff.mpr fun z2 => hq ((isS_iff ht).mpr z2)
  · unfold tkM tkV tkK tkP at h
    dsimp only at h
    rw [show tkS t L p = sk isS t (L - p) p from rfl] at h
    generalize hse : sk isS t (L - p) p = s at *
    dsimp only [k_X3_readNext_0, k_X3_readNext_1, k_X3_readNext_4, k_X3_readNext_5, k_X3_readNext_8, k_X3_readNext_11, k_X3_readNext_12, k_X3_readNext_13, k_X3_readNext_16, k_X3_readNext_19, k_X3_readNext_21, k_X3_readNext_24, k_X3_readNext_25, k_X3_readNext_26, k_X3_readNext_29, k_X3_readNext_30, k_X3_readNext_31, k_X3_readNext_34, k_X3_readNext_37, k_X3_readNext_38, k_X3_readNext_39, k_X3_readNext_42, k_X3_readNext_45, k_X3_readNext_46, k_X3_readNext_47, k_X3_readNext_50, k_X3_readNext_53, k_X3_readNext_54, k_X3_readNext_55, k_X3_readNext_58, k_X3_readNext_59, k_X3_readNext_60, k_X3_readNext_63, k_X3_readNext_66, k_X3_readNext_67, k_X3_readNext_69, k_X3_readNext_72, k_X3_readNext_73, k_X3_readNext_74, k_X3_readNext_77, k_X3_readNext_78, k_X3_readNext_79, k_X3_readNext_82, k_X3_readNext_83, k_X3_readNext_84, k_X3_readNext_87, k_X3_readNext_90, k_X3_readNext_91, k_X3_readNext_94, k_X3_readNext_97, k_X3_readNext_98, k_X3_readNext_101, k_X3_readNext_104, k_X3_readNext_105, k_X3_readNext_108, k_X3_readNext_111, k_X3_readNext_112, k_X3_readNext_115, k_X3_readNext_118, k_X3_readNext_119, k_X3_readNext_120, k_X3_readNext_123, wp1, wp_s, cutIn, kont, Nat.reduceSub, Nat.reduceAdd, nth, o_const, o_lconst, o_ref, o_iload, o_lload, o_aload, o_istore, o_lstore, o_astore, o_iinc, o_bin, o_div, o_un, o_lbin, o_lsh, o_lcmp, o_i2l, o_l2i, o_if, o_icmp, o_goto, o_dup, o_dup2, o_pop, fav, o_getf, o_putI, o_putZ, o_putL, o_ald, o_ast, o_alen, popn, rst, o_callV, o_callT, o_callS, swx, o_sw, o_ret, o_iret, o_zret, o_cret, o_lret, o_aret, lg, lput, lput2, ls1, isL, entL, wsum, rdI1, rdI2, rdA1, rdA21, rdA22, rdL1, rdL22, rdL21, upN_at, rep, sh_0, F_0_0, F_0_1, F_0_2, F_0_3, F_0_4, F_0_5, F_0_6, F_0_7, F_0_8, sh_1, F_1_0, F_1_1, F_1_2, F_1_3, F_1_4, F_1_5, sh_3, F_3_0, F_3_1, F_3_2, F_3_3, F_3_4, F_3_5, sh_5, F_5_0, F_5_1, F_5_2, F_5_3, F_5_4, F_5_5, F_5_6, F_5_7, F_5_8, sh_12, F_12_0, F_12_1, F_12_2, F_12_3, F_12_4, F_12_5, sh_14, F_14_0, F_14_1, F_14_2, F_14_3, F_14_4, F_14_5, F_14_6, F_14_7, F_14_8, sh_21, F_21_0, F_21_1, F_21_2, F_21_3, F_21_4, F_21_5, F_21_6, F_21_7, F_21_8, sh_28, F_28_0, F_28_1, F_28_2, F_28_3, F_28_4, F_28_5, F_28_6, F_28_7, F_28_8, sh_35, F_35_0, sh_39, F_39_0, F_39_1, F_39_2, F_39_3, F_39_4, F_39_5, F_39_6, F_39_7, F_39_8, F_39_9, F_39_10, F_39_11, F_39_12, F_39_13, A_2, A_4, A_6, A_7, A_8, A_9, A_10, A_11, A_13, A_15, A_16, A_17, A_18, A_19, A_20, A_22, A_23, A_24, A_25, A_26, A_27, A_29, A_30, A_31, A_32, A_33, A_34, A_36, A_37, A_38, A_40, A_41, A_42, A_43, A_44, A_45, A_46, A_47]
    refine ⟨L, t, s, rfl, hT, by omega, ?_⟩
    dsimp only [k_X3_readNext_0, k_X3_readNext_1, k_X3_readNext_4, k_X3_readNext_5, k_X3_readNext_8, k_X3_readNext_11, k_X3_readNext_12, k_X3_readNext_13, k_X3_readNext_16, k_X3_readNext_19, k_X3_readNext_21, k_X3_readNext_24, k_X3_readNext_25, k_X3_readNext_26, k_X3_readNext_29, k_X3_readNext_30, k_X3_readNext_31, k_X3_readNext_34, k_X3_readNext_37, k_X3_readNext_38, k_X3_readNext_39, k_X3_readNext_42, k_X3_readNext_45, k_X3_readNext_46, k_X3_readNext_47, k_X3_readNext_50, k_X3_readNext_53, k_X3_readNext_54, k_X3_readNext_55, k_X3_readNext_58, k_X3_readNext_59, k_X3_readNext_60, k_X3_readNext_63, k_X3_readNext_66, k_X3_readNext_67, k_X3_readNext_69, k_X3_readNext_72, k_X3_readNext_73, k_X3_readNext_74, k_X3_readNext_77, k_X3_readNext_78, k_X3_readNext_79, k_X3_readNext_82, k_X3_readNext_83, k_X3_readNext_84, k_X3_readNext_87, k_X3_readNext_90, k_X3_readNext_91, k_X3_readNext_94, k_X3_readNext_97, k_X3_readNext_98, k_X3_readNext_101, k_X3_readNext_104, k_X3_readNext_105, k_X3_readNext_108, k_X3_readNext_111, k_X3_readNext_112, k_X3_readNext_115, k_X3_readNext_118, k_X3_readNext_119, k_X3_readNext_120, k_X3_readNext_123, wp1, wp_s, cutIn, kont, Nat.reduceSub, Nat.reduceAdd, nth, o_const, o_lconst, o_ref, o_iload, o_lload, o_aload, o_istore, o_lstore, o_astore, o_iinc, o_bin, o_div, o_un, o_lbin, o_lsh, o_lcmp, o_i2l, o_l2i, o_if, o_icmp, o_goto, o_dup, o_dup2, o_pop, fav, o_getf, o_putI, o_putZ, o_putL, o_ald, o_ast, o_alen, popn, rst, o_callV, o_callT, o_callS, swx, o_sw, o_ret, o_iret, o_zret, o_cret, o_lret, o_aret, lg, lput, lput2, ls1, isL, entL, wsum, rdI1, rdI2, rdA1, rdA21, rdA22, rdL1, rdL22, rdL21, upN_at, rep, sh_0, F_0_0, F_0_1, F_0_2, F_0_3, F_0_4, F_0_5, F_0_6, F_0_7, F_0_8, sh_1, F_1_0, F_1_1, F_1_2, F_1_3, F_1_4, F_1_5, sh_3, F_3_0, F_3_1, F_3_2, F_3_3, F_3_4, F_3_5, sh_5, F_5_0, F_5_1, F_5_2, F_5_3, F_5_4, F_5_5, F_5_6, F_5_7, F_5_8, sh_12, F_12_0, F_12_1, F_12_2, F_12_3, F_12_4, F_12_5, sh_14, F_14_0, F_14_1, F_14_2, F_14_3, F_14_4, F_14_5, F_14_6, F_14_7, F_14_8, sh_21, F_21_0, F_21_1, F_21_2, F_21_3, F_21_4, F_21_5, F_21_6, F_21_7, F_21_8, sh_28, F_28_0, F_28_1, F_28_2, F_28_3, F_28_4, F_28_5, F_28_6, F_28_7, F_28_8, sh_35, F_35_0, sh_39, F_39_0, F_39_1, F_39_2, F_39_3, F_39_4, F_39_5, F_39_6, F_39_7, F_39_8, F_39_9, F_39_10, F_39_11, F_39_12, F_39_13, A_2, A_4, A_6, A_7, A_8, A_9, A_10, A_11, A_13, A_15, A_16, A_17, A_18, A_19, A_20, A_22, A_23, A_24, A_25, A_26, A_27, A_29, A_30, A_31, A_32, A_33, A_34, A_36, A_37, A_38, A_40, A_41, A_42, A_43, A_44, A_45, A_46, A_47]
    rcases Nat.lt_or_ge s L with hsL | hsL
    · have hnL : ¬ L ≤ s := by omega
      rw [if_neg hnL, if_neg hnL, if_neg hnL] at h
      have ht := (hT.2.2 s hsL).2
      rw [bAt_in hsL, show (59 : Int32) = nI 59 from rfl]
      simp (disch := omega) only [nI_leI, nI_ltI, nI_eq, nI_1, nI_add, one_shl, nI_or, nI_xor, nI_and, bit_0, bit_1, true_or, or_true, true_and, and_true, eq_self, not_true_eq_false, not_false_eq_true, forall_const]
      refine ⟨fun _ => ⟨fun z => ?_, fun z => ⟨_, rfl, fun hq => ?_, fun hq => ?_⟩⟩, fun z => absurd (nI_pos' (by omega)) z⟩
      · rw [if_pos z, if_pos z, if_pos z, sI_id (a := 4) (by rfl)] at h
        simp only [sA_sA, sA_cm, sI_sA, sI_sI, sI_cm, sL_sA, sL_sI, sL_sL, sL_cm, Nat.reduceLT] at h ⊢
        exact h
      · have hd := (isD_iff ht).mp hq
        dsimp only [k_X3_readNext_0, k_X3_readNext_1, k_X3_readNext_4, k_X3_readNext_5, k_X3_readNext_8, k_X3_readNext_11, k_X3_readNext_12, k_X3_readNext_13, k_X3_readNext_16, k_X3_readNext_19, k_X3_readNext_21, k_X3_readNext_24, k_X3_readNext_25, k_X3_readNext_26, k_X3_readNext_29, k_X3_readNext_30, k_X3_readNext_31, k_X3_readNext_34, k_X3_readNext_37, k_X3_readNext_38, k_X3_readNext_39, k_X3_readNext_42, k_X3_readNext_45, k_X3_readNext_46, k_X3_readNext_47, k_X3_readNext_50, k_X3_readNext_53, k_X3_readNext_54, k_X3_readNext_55, k_X3_readNext_58, k_X3_readNext_59, k_X3_readNext_60, k_X3_readNext_63, k_X3_readNext_66, k_X3_readNext_67, k_X3_readNext_69, k_X3_readNext_72, k_X3_readNext_73, k_X3_readNext_74, k_X3_readNext_77, k_X3_readNext_78, k_X3_readNext_79, k_X3_readNext_82, k_X3_readNext_83, k_X3_readNext_84, k_X3_readNext_87, k_X3_readNext_90, k_X3_readNext_91, k_X3_readNext_94, k_X3_readNext_97, k_X3_readNext_98, k_X3_readNext_101, k_X3_readNext_104, k_X3_readNext_105, k_X3_readNext_108, k_X3_readNext_111, k_X3_readNext_112, k_X3_readNext_115, k_X3_readNext_118, k_X3_readNext_119, k_X3_readNext_120, k_X3_readNext_123, wp1, wp_s, cutIn, kont, Nat.reduceSub, Nat.reduceAdd, nth, o_const, o_lconst, o_ref, o_iload, o_lload, o_aload, o_istore, o_lstore, o_astore, o_iinc, o_bin, o_div, o_un, o_lbin, o_lsh, o_lcmp, o_i2l, o_l2i, o_if, o_icmp, o_goto, o_dup, o_dup2, o_pop, fav, o_getf, o_putI, o_putZ, o_putL, o_ald, o_ast, o_alen, popn, rst, o_callV, o_callT, o_callS, swx, o_sw, o_ret, o_iret, o_zret, o_cret, o_lret, o_aret, lg, lput, lput2, ls1, isL, entL, wsum, rdI1, rdI2, rdA1, rdA21, rdA22, rdL1, rdL22, rdL21, upN_at, rep, sh_0, F_0_0, F_0_1, F_0_2, F_0_3, F_0_4, F_0_5, F_0_6, F_0_7, F_0_8, sh_1, F_1_0, F_1_1, F_1_2, F_1_3, F_1_4, F_1_5, sh_3, F_3_0, F_3_1, F_3_2, F_3_3, F_3_4, F_3_5, sh_5, F_5_0, F_5_1, F_5_2, F_5_3, F_5_4, F_5_5, F_5_6, F_5_7, F_5_8, sh_12, F_12_0, F_12_1, F_12_2, F_12_3, F_12_4, F_12_5, sh_14, F_14_0, F_14_1, F_14_2, F_14_3, F_14_4, F_14_5, F_14_6, F_14_7, F_14_8, sh_21, F_21_0, F_21_1, F_21_2, F_21_3, F_21_4, F_21_5, F_21_6, F_21_7, F_21_8, sh_28, F_28_0, F_28_1, F_28_2, F_28_3, F_28_4, F_28_5, F_28_6, F_28_7, F_28_8, sh_35, F_35_0, sh_39, F_39_0, F_39_1, F_39_2, F_39_3, F_39_4, F_39_5, F_39_6, F_39_7, F_39_8, F_39_9, F_39_10, F_39_11, F_39_12, F_39_13, A_2, A_4, A_6, A_7, A_8, A_9, A_10, A_11, A_13, A_15, A_16, A_17, A_18, A_19, A_20, A_22, A_23, A_24, A_25, A_26, A_27, A_29, A_30, A_31, A_32, A_33, A_34, A_36, A_37, A_38, A_40, A_41, A_42, A_43, A_44, A_45, A_46, A_47]
        refine ⟨fun q => absurd q (by decide), fun _ => ⟨L, t, s, rfl, hT, rfl, rfl, hsL, hd, ?_⟩⟩
        dsimp only [k_X3_readNext_0, k_X3_readNext_1, k_X3_readNext_4, k_X3_readNext_5, k_X3_readNext_8, k_X3_readNext_11, k_X3_readNext_12, k_X3_readNext_13, k_X3_readNext_16, k_X3_readNext_19, k_X3_readNext_21, k_X3_readNext_24, k_X3_readNext_25, k_X3_readNext_26, k_X3_readNext_29, k_X3_readNext_30, k_X3_readNext_31, k_X3_readNext_34, k_X3_readNext_37, k_X3_readNext_38, k_X3_readNext_39, k_X3_readNext_42, k_X3_readNext_45, k_X3_readNext_46, k_X3_readNext_47, k_X3_readNext_50, k_X3_readNext_53, k_X3_readNext_54, k_X3_readNext_55, k_X3_readNext_58, k_X3_readNext_59, k_X3_readNext_60, k_X3_readNext_63, k_X3_readNext_66, k_X3_readNext_67, k_X3_readNext_69, k_X3_readNext_72, k_X3_readNext_73, k_X3_readNext_74, k_X3_readNext_77, k_X3_readNext_78, k_X3_readNext_79, k_X3_readNext_82, k_X3_readNext_83, k_X3_readNext_84, k_X3_readNext_87, k_X3_readNext_90, k_X3_readNext_91, k_X3_readNext_94, k_X3_readNext_97, k_X3_readNext_98, k_X3_readNext_101, k_X3_readNext_104, k_X3_readNext_105, k_X3_readNext_108, k_X3_readNext_111, k_X3_readNext_112, k_X3_readNext_115, k_X3_readNext_118, k_X3_readNext_119, k_X3_readNext_120, k_X3_readNext_123, wp1, wp_s, cutIn, kont, Nat.reduceSub, Nat.reduceAdd, nth, o_const, o_lconst, o_ref, o_iload, o_lload, o_aload, o_istore, o_lstore, o_astore, o_iinc, o_bin, o_div, o_un, o_lbin, o_lsh, o_lcmp, o_i2l, o_l2i, o_if, o_icmp, o_goto, o_dup, o_dup2, o_pop, fav, o_getf, o_putI, o_putZ, o_putL, o_ald, o_ast, o_alen, popn, rst, o_callV, o_callT, o_callS, swx, o_sw, o_ret, o_iret, o_zret, o_cret, o_lret, o_aret, lg, lput, lput2, ls1, isL, entL, wsum, rdI1, rdI2, rdA1, rdA21, rdA22, rdL1, rdL22, rdL21, upN_at, rep, sh_0, F_0_0, F_0_1, F_0_2, F_0_3, F_0_4, F_0_5, F_0_6, F_0_7, F_0_8, sh_1, F_1_0, F_1_1, F_1_2, F_1_3, F_1_4, F_1_5, sh_3, F_3_0, F_3_1, F_3_2, F_3_3, F_3_4, F_3_5, sh_5, F_5_0, F_5_1, F_5_2, F_5_3, F_5_4, F_5_5, F_5_6, F_5_7, F_5_8, sh_12, F_12_0, F_12_1, F_12_2, F_12_3, F_12_4, F_12_5, sh_14, F_14_0, F_14_1, F_14_2, F_14_3, F_14_4, F_14_5, F_14_6, F_14_7, F_14_8, sh_21, F_21_0, F_21_1, F_21_2, F_21_3, F_21_4, F_21_5, F_21_6, F_21_7, F_21_8, sh_28, F_28_0, F_28_1, F_28_2, F_28_3, F_28_4, F_28_5, F_28_6, F_28_7, F_28_8, sh_35, F_35_0, sh_39, F_39_0, F_39_1, F_39_2, F_39_3, F_39_4, F_39_5, F_39_6, F_39_7, F_39_8, F_39_9, F_39_10, F_39_11, F_39_12, F_39_13, A_2, A_4, A_6, A_7, A_8, A_9, A_10, A_11, A_13, A_15, A_16, A_17, A_18, A_19, A_20, A_22, A_23, A_24, A_25, A_26, A_27, A_29, A_30, A_31, A_32, A_33, A_34, A_36, A_37, A_38, A_40, A_41, A_42, A_43, A_44, A_45, A_46, A_47]
        rw [if_neg z, if_neg z, if_neg z, if_pos hd, if_pos hd, if_pos hd] at h
        simp only [sA_sA, sA_cm, sI_sA, sI_sI, sI_cm, sL_sA, sL_sI, sL_sL, sL_cm, Nat.reduceLT] at h ⊢
        exact h
      · have hd : ¬ isD (t s) = true := fun z2 => hq ((isD_iff ht).mpr z2)
        rw [if_neg z, if_neg z, if_neg z, if_neg hd, if_neg hd, if_neg hd] at h
        dsimp only [k_X3_readNext_0, k_X3_readNext_1, k_X3_readNext_4, k_X3_readNext_5, k_X3_readNext_8, k_X3_readNext_11, k_X3_readNext_12, k_X3_readNext_13, k_X3_readNext_16, k_X3_readNext_19, k_X3_readNext_21, k_X3_readNext_24, k_X3_readNext_25, k_X3_readNext_26, k_X3_readNext_29, k_X3_readNext_30, k_X3_readNext_31, k_X3_readNext_34, k_X3_readNext_37, k_X3_readNext_38, k_X3_readNext_39, k_X3_readNext_42, k_X3_readNext_45, k_X3_readNext_46, k_X3_readNext_47, k_X3_readNext_50, k_X3_readNext_53, k_X3_readNext_54, k_X3_readNext_55, k_X3_readNext_58, k_X3_readNext_59, k_X3_readNext_60, k_X3_readNext_63, k_X3_readNext_66, k_X3_readNext_67, k_X3_readNext_69, k_X3_readNext_72, k_X3_readNext_73, k_X3_readNext_74, k_X3_readNext_77, k_X3_readNext_78, k_X3_readNext_79, k_X3_readNext_82, k_X3_readNext_83, k_X3_readNext_84, k_X3_readNext_87, k_X3_readNext_90, k_X3_readNext_91, k_X3_readNext_94, k_X3_readNext_97, k_X3_readNext_98, k_X3_readNext_101, k_X3_readNext_104, k_X3_readNext_105, k_X3_readNext_108, k_X3_readNext_111, k_X3_readNext_112, k_X3_readNext_115, k_X3_readNext_118, k_X3_readNext_119, k_X3_readNext_120, k_X3_readNext_123, wp1, wp_s, cutIn, kont, Nat.reduceSub, Nat.reduceAdd, nth, o_const, o_lconst, o_ref, o_iload, o_lload, o_aload, o_istore, o_lstore, o_astore, o_iinc, o_bin, o_div, o_un, o_lbin, o_lsh, o_lcmp, o_i2l, o_l2i, o_if, o_icmp, o_goto, o_dup, o_dup2, o_pop, fav, o_getf, o_putI, o_putZ, o_putL, o_ald, o_ast, o_alen, popn, rst, o_callV, o_callT, o_callS, swx, o_sw, o_ret, o_iret, o_zret, o_cret, o_lret, o_aret, lg, lput, lput2, ls1, isL, entL, wsum, rdI1, rdI2, rdA1, rdA21, rdA22, rdL1, rdL22, rdL21, upN_at, rep, sh_0, F_0_0, F_0_1, F_0_2, F_0_3, F_0_4, F_0_5, F_0_6, F_0_7, F_0_8, sh_1, F_1_0, F_1_1, F_1_2, F_1_3, F_1_4, F_1_5, sh_3, F_3_0, F_3_1, F_3_2, F_3_3, F_3_4, F_3_5, sh_5, F_5_0, F_5_1, F_5_2, F_5_3, F_5_4, F_5_5, F_5_6, F_5_7, F_5_8, sh_12, F_12_0, F_12_1, F_12_2, F_12_3, F_12_4, F_12_5, sh_14, F_14_0, F_14_1, F_14_2, F_14_3, F_14_4, F_14_5, F_14_6, F_14_7, F_14_8, sh_21, F_21_0, F_21_1, F_21_2, F_21_3, F_21_4, F_21_5, F_21_6, F_21_7, F_21_8, sh_28, F_28_0, F_28_1, F_28_2, F_28_3, F_28_4, F_28_5, F_28_6, F_28_7, F_28_8, sh_35, F_35_0, sh_39, F_39_0, F_39_1, F_39_2, F_39_3, F_39_4, F_39_5, F_39_6, F_39_7, F_39_8, F_39_9, F_39_10, F_39_11, F_39_12, F_39_13, A_2, A_4, A_6, A_7, A_8, A_9, A_10, A_11, A_13, A_15, A_16, A_17, A_18, A_19, A_20, A_22, A_23, A_24, A_25, A_26, A_27, A_29, A_30, A_31, A_32, A_33, A_34, A_36, A_37, A_38, A_40, A_41, A_42, A_43, A_44, A_45, A_46, A_47]
        refine ⟨fun _ => ⟨_, rfl, fun hr => ?_, fun hr => ?_⟩, fun q => absurd rfl q⟩
        · have hw := (isW_iff ht).mp hr
          dsimp only [k_X3_readNext_0, k_X3_readNext_1, k_X3_readNext_4, k_X3_readNext_5, k_X3_readNext_8, k_X3_readNext_11, k_X3_readNext_12, k_X3_readNext_13, k_X3_readNext_16, k_X3_readNext_19, k_X3_readNext_21, k_X3_readNext_24, k_X3_readNext_25, k_X3_readNext_26, k_X3_readNext_29, k_X3_readNext_30, k_X3_readNext_31, k_X3_readNext_34, k_X3_readNext_37, k_X3_readNext_38, k_X3_readNext_39, k_X3_readNext_42, k_X3_readNext_45, k_X3_readNext_46, k_X3_readNext_47, k_X3_readNext_50, k_X3_readNext_53, k_X3_readNext_54, k_X3_readNext_55, k_X3_readNext_58, k_X3_readNext_59, k_X3_readNext_60, k_X3_readNext_63, k_X3_readNext_66, k_X3_readNext_67, k_X3_readNext_69, k_X3_readNext_72, k_X3_readNext_73, k_X3_readNext_74, k_X3_readNext_77, k_X3_readNext_78, k_X3_readNext_79, k_X3_readNext_82, k_X3_readNext_83, k_X3_readNext_84, k_X3_readNext_87, k_X3_readNext_90, k_X3_readNext_91, k_X3_readNext_94, k_X3_readNext_97, k_X3_readNext_98, k_X3_readNext_101, k_X3_readNext_104, k_X3_readNext_105, k_X3_readNext_108, k_X3_readNext_111, k_X3_readNext_112, k_X3_readNext_115, k_X3_readNext_118, k_X3_readNext_119, k_X3_readNext_120, k_X3_readNext_123, wp1, wp_s, cutIn, kont, Nat.reduceSub, Nat.reduceAdd, nth, o_const, o_lconst, o_ref, o_iload, o_lload, o_aload, o_istore, o_lstore, o_astore, o_iinc, o_bin, o_div, o_un, o_lbin, o_lsh, o_lcmp, o_i2l, o_l2i, o_if, o_icmp, o_goto, o_dup, o_dup2, o_pop, fav, o_getf, o_putI, o_putZ, o_putL, o_ald, o_ast, o_alen, popn, rst, o_callV, o_callT, o_callS, swx, o_sw, o_ret, o_iret, o_zret, o_cret, o_lret, o_aret, lg, lput, lput2, ls1, isL, entL, wsum, rdI1, rdI2, rdA1, rdA21, rdA22, rdL1, rdL22, rdL21, upN_at, rep, sh_0, F_0_0, F_0_1, F_0_2, F_0_3, F_0_4, F_0_5, F_0_6, F_0_7, F_0_8, sh_1, F_1_0, F_1_1, F_1_2, F_1_3, F_1_4, F_1_5, sh_3, F_3_0, F_3_1, F_3_2, F_3_3, F_3_4, F_3_5, sh_5, F_5_0, F_5_1, F_5_2, F_5_3, F_5_4, F_5_5, F_5_6, F_5_7, F_5_8, sh_12, F_12_0, F_12_1, F_12_2, F_12_3, F_12_4, F_12_5, sh_14, F_14_0, F_14_1, F_14_2, F_14_3, F_14_4, F_14_5, F_14_6, F_14_7, F_14_8, sh_21, F_21_0, F_21_1, F_21_2, F_21_3, F_21_4, F_21_5, F_21_6, F_21_7, F_21_8, sh_28, F_28_0, F_28_1, F_28_2, F_28_3, F_28_4, F_28_5, F_28_6, F_28_7, F_28_8, sh_35, F_35_0, sh_39, F_39_0, F_39_1, F_39_2, F_39_3, F_39_4, F_39_5, F_39_6, F_39_7, F_39_8, F_39_9, F_39_10, F_39_11, F_39_12, F_39_13, A_2, A_4, A_6, A_7, A_8, A_9, A_10, A_11, A_13, A_15, A_16, A_17, A_18, A_19, A_20, A_22, A_23, A_24, A_25, A_26, A_27, A_29, A_30, A_31, A_32, A_33, A_34, A_36, A_37, A_38, A_40, A_41, A_42, A_43, A_44, A_45, A_46, A_47]
          refine ⟨fun q => absurd q (by decide), fun _ => ⟨L, t, s, rfl, hT, rfl, rfl, hsL, hw, ?_⟩⟩
          dsimp only [k_X3_readNext_0, k_X3_readNext_1, k_X3_readNext_4, k_X3_readNext_5, k_X3_readNext_8, k_X3_readNext_11, k_X3_readNext_12, k_X3_readNext_13, k_X3_readNext_16, k_X3_readNext_19, k_X3_readNext_21, k_X3_readNext_24, k_X3_readNext_25, k_X3_readNext_26, k_X3_readNext_29, k_X3_readNext_30, k_X3_readNext_31, k_X3_readNext_34, k_X3_readNext_37, k_X3_readNext_38, k_X3_readNext_39, k_X3_readNext_42, k_X3_readNext_45, k_X3_readNext_46, k_X3_readNext_47, k_X3_readNext_50, k_X3_readNext_53, k_X3_readNext_54, k_X3_readNext_55, k_X3_readNext_58, k_X3_readNext_59, k_X3_readNext_60, k_X3_readNext_63, k_X3_readNext_66, k_X3_readNext_67, k_X3_readNext_69, k_X3_readNext_72, k_X3_readNext_73, k_X3_readNext_74, k_X3_readNext_77, k_X3_readNext_78, k_X3_readNext_79, k_X3_readNext_82, k_X3_readNext_83, k_X3_readNext_84, k_X3_readNext_87, k_X3_readNext_90, k_X3_readNext_91, k_X3_readNext_94, k_X3_readNext_97, k_X3_readNext_98, k_X3_readNext_101, k_X3_readNext_104, k_X3_readNext_105, k_X3_readNext_108, k_X3_readNext_111, k_X3_readNext_112, k_X3_readNext_115, k_X3_readNext_118, k_X3_readNext_119, k_X3_readNext_120, k_X3_readNext_123, wp1, wp_s, cutIn, kont, Nat.reduceSub, Nat.reduceAdd, nth, o_const, o_lconst, o_ref, o_iload, o_lload, o_aload, o_istore, o_lstore, o_astore, o_iinc, o_bin, o_div, o_un, o_lbin, o_lsh, o_lcmp, o_i2l, o_l2i, o_if, o_icmp, o_goto, o_dup, o_dup2, o_pop, fav, o_getf, o_putI, o_putZ, o_putL, o_ald, o_ast, o_alen, popn, rst, o_callV, o_callT, o_callS, swx, o_sw, o_ret, o_iret, o_zret, o_cret, o_lret, o_aret, lg, lput, lput2, ls1, isL, entL, wsum, rdI1, rdI2, rdA1, rdA21, rdA22, rdL1, rdL22, rdL21, upN_at, rep, sh_0, F_0_0, F_0_1, F_0_2, F_0_3, F_0_4, F_0_5, F_0_6, F_0_7, F_0_8, sh_1, F_1_0, F_1_1, F_1_2, F_1_3, F_1_4, F_1_5, sh_3, F_3_0, F_3_1, F_3_2, F_3_3, F_3_4, F_3_5, sh_5, F_5_0, F_5_1, F_5_2, F_5_3, F_5_4, F_5_5, F_5_6, F_5_7, F_5_8, sh_12, F_12_0, F_12_1, F_12_2, F_12_3, F_12_4, F_12_5, sh_14, F_14_0, F_14_1, F_14_2, F_14_3, F_14_4, F_14_5, F_14_6, F_14_7, F_14_8, sh_21, F_21_0, F_21_1, F_21_2, F_21_3, F_21_4, F_21_5, F_21_6, F_21_7, F_21_8, sh_28, F_28_0, F_28_1, F_28_2, F_28_3, F_28_4, F_28_5, F_28_6, F_28_7, F_28_8, sh_35, F_35_0, sh_39, F_39_0, F_39_1, F_39_2, F_39_3, F_39_4, F_39_5, F_39_6, F_39_7, F_39_8, F_39_9, F_39_10, F_39_11, F_39_12, F_39_13, A_2, A_4, A_6, A_7, A_8, A_9, A_10, A_11, A_13, A_15, A_16, A_17, A_18, A_19, A_20, A_22, A_23, A_24, A_25, A_26, A_27, A_29, A_30, A_31, A_32, A_33, A_34, A_36, A_37, A_38, A_40, A_41, A_42, A_43, A_44, A_45, A_46, A_47]
          rw [if_pos hw, if_pos hw, if_pos hw] at h
          simp only [sA_sA, sA_cm, sI_sA, sI_sI, sI_cm, sL_sA, sL_sI, sL_sL, sL_cm, Nat.reduceLT] at h ⊢
          exact h
        · have hw : ¬ isW (t s) = true := fun z2 => hr ((isW_iff ht).mpr z2)
          dsimp only [k_X3_readNext_0, k_X3_readNext_1, k_X3_readNext_4, k_X3_readNext_5, k_X3_readNext_8, k_X3_readNext_11, k_X3_readNext_12, k_X3_readNext_13, k_X3_readNext_16, k_X3_readNext_19, k_X3_readNext_21, k_X3_readNext_24, k_X3_readNext_25, k_X3_readNext_26, k_X3_readNext_29, k_X3_readNext_30, k_X3_readNext_31, k_X3_readNext_34, k_X3_readNext_37, k_X3_readNext_38, k_X3_readNext_39, k_X3_readNext_42, k_X3_readNext_45, k_X3_readNext_46, k_X3_readNext_47, k_X3_readNext_50, k_X3_readNext_53, k_X3_readNext_54, k_X3_readNext_55, k_X3_readNext_58, k_X3_readNext_59, k_X3_readNext_60, k_X3_readNext_63, k_X3_readNext_66, k_X3_readNext_67, k_X3_readNext_69, k_X3_readNext_72, k_X3_readNext_73, k_X3_readNext_74, k_X3_readNext_77, k_X3_readNext_78, k_X3_readNext_79, k_X3_readNext_82, k_X3_readNext_83, k_X3_readNext_84, k_X3_readNext_87, k_X3_readNext_90, k_X3_readNext_91, k_X3_readNext_94, k_X3_readNext_97, k_X3_readNext_98, k_X3_readNext_101, k_X3_readNext_104, k_X3_readNext_105, k_X3_readNext_108, k_X3_readNext_111, k_X3_readNext_112, k_X3_readNext_115, k_X3_readNext_118, k_X3_readNext_119, k_X3_readNext_120, k_X3_readNext_123, wp1, wp_s, cutIn, kont, Nat.reduceSub, Nat.reduceAdd, nth, o_const, o_lconst, o_ref, o_iload, o_lload, o_aload, o_istore, o_lstore, o_astore, o_iinc, o_bin, o_div, o_un, o_lbin, o_lsh, o_lcmp, o_i2l, o_l2i, o_if, o_icmp, o_goto, o_dup, o_dup2, o_pop, fav, o_getf, o_putI, o_putZ, o_putL, o_ald, o_ast, o_alen, popn, rst, o_callV, o_callT, o_callS, swx, o_sw, o_ret, o_iret, o_zret, o_cret, o_lret, o_aret, lg, lput, lput2, ls1, isL, entL, wsum, rdI1, rdI2, rdA1, rdA21, rdA22, rdL1, rdL22, rdL21, upN_at, rep, sh_0, F_0_0, F_0_1, F_0_2, F_0_3, F_0_4, F_0_5, F_0_6, F_0_7, F_0_8, sh_1, F_1_0, F_1_1, F_1_2, F_1_3, F_1_4, F_1_5, sh_3, F_3_0, F_3_1, F_3_2, F_3_3, F_3_4, F_3_5, sh_5, F_5_0, F_5_1, F_5_2, F_5_3, F_5_4, F_5_5, F_5_6, F_5_7, F_5_8, sh_12, F_12_0, F_12_1, F_12_2, F_12_3, F_12_4, F_12_5, sh_14, F_14_0, F_14_1, F_14_2, F_14_3, F_14_4, F_14_5, F_14_6, F_14_7, F_14_8, sh_21, F_21_0, F_21_1, F_21_2, F_21_3, F_21_4, F_21_5, F_21_6, F_21_7, F_21_8, sh_28, F_28_0, F_28_1, F_28_2, F_28_3, F_28_4, F_28_5, F_28_6, F_28_7, F_28_8, sh_35, F_35_0, sh_39, F_39_0, F_39_1, F_39_2, F_39_3, F_39_4, F_39_5, F_39_6, F_39_7, F_39_8, F_39_9, F_39_10, F_39_11, F_39_12, F_39_13, A_2, A_4, A_6, A_7, A_8, A_9, A_10, A_11, A_13, A_15, A_16, A_17, A_18, A_19, A_20, A_22, A_23, A_24, A_25, A_26, A_27, A_29, A_30, A_31, A_32, A_33, A_34, A_36, A_37, A_38, A_40, A_41, A_42, A_43, A_44, A_45, A_46, A_47]
          refine ⟨fun _ => ?_, fun q => absurd rfl q⟩
          rw [if_neg hw, if_neg hw, if_neg hw, sI_id (a := 4) (by rfl)] at h
          simp only [sA_sA, sA_cm, sI_sA, sI_sI, sI_cm, sL_sA, sL_sI, sL_sL, sL_cm, Nat.reduceLT] at h ⊢
          exact h
    · rw [if_pos hsL, if_pos hsL, if_pos hsL, sI_id (a := 4) (by rfl)] at h
      have eb : bAt t L s = -1 := by unfold bAt; rw [if_neg (by omega)]
      rw [eb]
      refine ⟨fun q => absurd q (by decide), fun _ => ?_⟩
      simp only [sA_sA, sA_cm, sI_sA, sI_sI, sI_cm, sL_sA, sL_sI, sL_sL, sL_cm, Nat.reduceLT] at h ⊢
      exact h
theorem c_X3_readNext : Ctr yX3_readNext cX3_readNext 2 none ({ frames := 6, cells := 0, slots := 0, locals := 127 } : Room) S_X3_readNext := ctr_of (T := T_X3_readNext) (by decide +kernel) (fun post C hr => t_X3_readNext post C hr) v_X3_readNext
theorem cw_RX3_22 : ∀ w ∈ ([.methodLink RX3 22 yX3_readNext, .instanceMethod yX3_readNext, .selects yX3_readNext.cls yX3_readNext yX3_readNext, .initialized yX3_readNext.cls, .code yX3_readNext cX3_readNext 2 none] : List Cond), w ∈ tb := tb_all [242, 243, 244, 55, 245] (by decide +kernel) (by decide +kernel)
theorem dX3_readFirst_0 : decode cX3_readFirst 0 = .ok (.aload_n 0, 1) := by decide +kernel
theorem dX3_readFirst_1 : decode cX3_readFirst 1 = .ok (.iconst 0, 1) := by decide +kernel
theorem dX3_readFirst_2 : decode cX3_readFirst 2 = .ok (.putfield 19, 3) := by decide +kernel
theorem dX3_readFirst_5 : decode cX3_readFirst 5 = .ok (.aload_n 0, 1) := by decide +kernel
theorem dX3_readFirst_6 : decode cX3_readFirst 6 = .ok (.invokevirtual 22, 3) := by decide +kernel
theorem dX3_readFirst_9 : decode cX3_readFirst 9 = .ok (.return_, 1) := by decide +kernel
def T_X3_readFirst (post : PO) : List (Nat × OP) := [(0, o_aload 0 1), (1, o_const 0 2), (2, o_putI 3 2 5), (5, o_aload 0 6), (6, o_callV 3 S_X3_readNext 0 9), (9, o_ret post)]
theorem k_X3_readFirst_0 (post : PO) : lk (T_X3_readFirst post) 0 = o_aload 0 1 := rfl
theorem k_X3_readFirst_1 (post : PO) : lk (T_X3_readFirst post) 1 = o_const 0 2 := rfl
theorem k_X3_readFirst_2 (post : PO) : lk (T_X3_readFirst post) 2 = o_putI 3 2 5 := rfl
theorem k_X3_readFirst_5 (post : PO) : lk (T_X3_readFirst post) 5 = o_aload 0 6 := rfl
theorem k_X3_readFirst_6 (post : PO) : lk (T_X3_readFirst post) 6 = o_callV 3 S_X3_readNext 0 9 := rfl
theorem k_X3_readFirst_9 (post : PO) : lk (T_X3_readFirst post) 9 = o_ret post := rfl
set_option maxRecDepth 100000 in
theorem t_X3_readFirst {p : Program} {l : Launch} {e : Env} {s : State} {m : MethodId} {args : Array Value} {below : List Frame} {meth : Method} {c : Code} {D : va_G} {dA : Nat → ClassId} {ad : Nat → Nat} (post : PO) (C : CX p s m args meth c cX3_readFirst 1 yX3_readFirst.cls D dA ad (AA ad s.heap.size)) (hr : meth.sig.returnType = none) : SndL (WW p l e ({ frames := 7, cells := 0, slots := 0, locals := 148 } : Room) s m args below meth c 0 0 (MQ below (CQ D dA ad post (AA ad s.heap.size)) args s 0 0 (AA ad s.heap.size)) 1 D dA ad (AA ad s.heap.size)) (T_X3_readFirst post) := by
  refine snd_c (s_aload_n C rfl dX3_readFirst_0) ?_
  refine snd_c (s_iconst C dX3_readFirst_1 rfl) ?_
  refine snd_c (s_putI C (ci := 3) (j := 2) (T := TX3) tyX3 tyX3_ok nmX3 rfl inX3 (by decide) rfl rfl fl_RX3_19 dX3_readFirst_2) ?_
  refine snd_c (s_aload_n C rfl dX3_readFirst_5) ?_
  refine snd_c (s_callV C (ci := 3) c_X3_readNext rfl cw_RX3_22 ⟨rfl, rfl⟩ ⟨by decide +kernel, by decide +kernel, by decide +kernel⟩ ⟨by decide, by decide⟩ ⟨Nat.zero_le _, Nat.zero_le _⟩ dX3_readFirst_6) ?_
  refine snd_c (s_ret C hr dX3_readFirst_9) ?_
  exact trivial
set_option maxRecDepth 100000 in
theorem v_X3_readFirst : ∀ as M post, S_X3_readFirst as M post → wsum as ≤ 1 ∧ RUN (T_X3_readFirst post) 0 (entL 1 as) [] M := by
  rintro as M post ⟨L, t, rfl, hT, h⟩
  refine ⟨Nat.le_refl 1, run_wp 60 ?_⟩
  dsimp only [k_X3_readFirst_0, k_X3_readFirst_1, k_X3_readFirst_2, k_X3_readFirst_5, k_X3_readFirst_6, k_X3_readFirst_9, wp1, wp_s, cutIn, kont, Nat.reduceSub, Nat.reduceAdd, nth, o_const, o_lconst, o_ref, o_iload, o_lload, o_aload, o_istore, o_lstore, o_astore, o_iinc, o_bin, o_div, o_un, o_lbin, o_lsh, o_lcmp, o_i2l, o_l2i, o_if, o_icmp, o_goto, o_dup, o_dup2, o_pop, fav, o_getf, o_putI, o_putZ, o_putL, o_ald, o_ast, o_alen, popn, rst, o_callV, o_callT, o_callS, swx, o_sw, o_ret, o_iret, o_zret, o_cret, o_lret, o_aret, lg, lput, lput2, ls1, isL, entL, wsum, rdI1, rdI2, rdA1, rdA21, rdA22, rdL1, rdL22, rdL21, upN_at, rep, sh_0, F_0_0, F_0_1, F_0_2, F_0_3, F_0_4, F_0_5, F_0_6, F_0_7, F_0_8, sh_1, F_1_0, F_1_1, F_1_2, F_1_3, F_1_4, F_1_5, sh_3, F_3_0, F_3_1, F_3_2, F_3_3, F_3_4, F_3_5, sh_5, F_5_0, F_5_1, F_5_2, F_5_3, F_5_4, F_5_5, F_5_6, F_5_7, F_5_8, sh_12, F_12_0, F_12_1, F_12_2, F_12_3, F_12_4, F_12_5, sh_14, F_14_0, F_14_1, F_14_2, F_14_3, F_14_4, F_14_5, F_14_6, F_14_7, F_14_8, sh_21, F_21_0, F_21_1, F_21_2, F_21_3, F_21_4, F_21_5, F_21_6, F_21_7, F_21_8, sh_28, F_28_0, F_28_1, F_28_2, F_28_3, F_28_4, F_28_5, F_28_6, F_28_7, F_28_8, sh_35, F_35_0, sh_39, F_39_0, F_39_1, F_39_2, F_39_3, F_39_4, F_39_5, F_39_6, F_39_7, F_39_8, F_39_9, F_39_10, F_39_11, F_39_12, F_39_13, A_2, A_4, A_6, A_7, A_8, A_9, A_10, A_11, A_13, A_15, A_16, A_17, A_18, A_19, A_20, A_22, A_23, A_24, A_25, A_26, A_27, A_29, A_30, A_31, A_32, A_33, A_34, A_36, A_37, A_38, A_40, A_41, A_42, A_43, A_44, A_45, A_46, A_47]
  refine ⟨L, t, 0, rfl, hT, rfl, by omega, ?_⟩
  dsimp only [k_X3_readFirst_0, k_X3_readFirst_1, k_X3_readFirst_2, k_X3_readFirst_5, k_X3_readFirst_6, k_X3_readFirst_9, wp1, wp_s, cutIn, kont, Nat.reduceSub, Nat.reduceAdd, nth, o_const, o_lconst, o_ref, o_iload, o_lload, o_aload, o_istore, o_lstore, o_astore, o_iinc, o_bin, o_div, o_un, o_lbin, o_lsh, o_lcmp, o_i2l, o_l2i, o_if, o_icmp, o_goto, o_dup, o_dup2, o_pop, fav, o_getf, o_putI, o_putZ, o_putL, o_ald, o_ast, o_alen, popn, rst, o_callV, o_callT, o_callS, swx, o_sw, o_ret, o_iret, o_zret, o_cret, o_lret, o_aret, lg, lput, lput2, ls1, isL, entL, wsum, rdI1, rdI2, rdA1, rdA21, rdA22, rdL1, rdL22, rdL21, upN_at, rep, sh_0, F_0_0, F_0_1, F_0_2, F_0_3, F_0_4, F_0_5, F_0_6, F_0_7, F_0_8, sh_1, F_1_0, F_1_1, F_1_2, F_1_3, F_1_4, F_1_5, sh_3, F_3_0, F_3_1, F_3_2, F_3_3, F_3_4, F_3_5, sh_5, F_5_0, F_5_1, F_5_2, F_5_3, F_5_4, F_5_5, F_5_6, F_5_7, F_5_8, sh_12, F_12_0, F_12_1, F_12_2, F_12_3, F_12_4, F_12_5, sh_14, F_14_0, F_14_1, F_14_2, F_14_3, F_14_4, F_14_5, F_14_6, F_14_7, F_14_8, sh_21, F_21_0, F_21_1, F_21_2, F_21_3, F_21_4, F_21_5, F_21_6, F_21_7, F_21_8, sh_28, F_28_0, F_28_1, F_28_2, F_28_3, F_28_4, F_28_5, F_28_6, F_28_7, F_28_8, sh_35, F_35_0, sh_39, F_39_0, F_39_1, F_39_2, F_39_3, F_39_4, F_39_5, F_39_6, F_39_7, F_39_8, F_39_9, F_39_10, F_39_11, F_39_12, F_39_13, A_2, A_4, A_6, A_7, A_8, A_9, A_10, A_11, A_13, A_15, A_16, A_17, A_18, A_19, A_20, A_22, A_23, A_24, A_25, A_26, A_27, A_29, A_30, A_31, A_32, A_33, A_34, A_36, A_37, A_38, A_40, A_41, A_42, A_43, A_44, A_45, A_46, A_47]
  unfold tkM at h ⊢
  dsimp only [rdI1, rdI2, rdA1, rdA21, rdA22, rdL1, rdL22, rdL21, upN_at, Nat.reduceAdd, Nat.reduceSub]
  simp only [sA_sA, sA_cm, sI_sA, sI_sI, sI_cm, sL_sA, sL_sI, sL_sL, sL_cm, Nat.reduceLT] at h ⊢
  exact h
theorem c_X3_readFirst : Ctr yX3_readFirst cX3_readFirst 1 none ({ frames := 7, cells := 0, slots := 0, locals := 148 } : Room) S_X3_readFirst := ctr_of (T := T_X3_readFirst) (by decide +kernel) (fun post C hr => t_X3_readFirst post C hr) v_X3_readFirst
