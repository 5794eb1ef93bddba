/-! The class reads a text: all of it. -/
theorem tkS_ge (t : Nat → Nat) {L p : Nat} (hp : p ≤ L) : p ≤ tkS t L p ∧ tkS t L p ≤ L := by
  have := sk_ge isS t (L - p) p
  unfold tkS
  omega
theorem tkP_ge (t : Nat → Nat) {L p : Nat} (hp : p ≤ L) : p ≤ tkP t L p ∧ tkP t L p ≤ L := by
  have h := tkS_ge t hp
  unfold tkP
  dsimp only
  generalize tkS t L p = s at h ⊢
  have h1 := sk_ge isD t (L - s) s
  have h2 := sk_ge isW t (L - s) s
  split
  · omega
  · split
    · omega
    · split
      · omega
      · split <;> omega
theorem sk_gt {P : Nat → Bool} {t : Nat → Nat} {L s : Nat} (hs : s < L) (h : P (t s) = true) : s < sk P t (L - s) s := by
  rw [sk_s hs h]
  have := sk_ge P t (L - (s + 1)) (s + 1)
  omega
theorem nmK_ne (t : Nat → Nat) (s p : Nat) : nmK t s p ≠ 0 ∧ nmK t s p ≠ 1 ∧ nmK t s p ≠ 3 := by
  unfold nmK
  split
  · exact ⟨by decide, by decide, by decide⟩
  · split <;> exact ⟨by decide, by decide, by decide⟩
theorem wdK_ne (t : Nat → Nat) (s p : Nat) : wdK t s p ≠ 0 ∧ wdK t s p ≠ 1 ∧ wdK t s p ≠ 2 := by
  unfold wdK
  split
  · exact ⟨by decide, by decide, by decide⟩
  · split
    · exact ⟨by decide, by decide, by decide⟩
    · split
      · exact ⟨by decide, by decide, by decide⟩
      · split
        · exact ⟨by decide, by decide, by decide⟩
        · split <;> exact ⟨by decide, by decide, by decide⟩
/-- the token's kind says whether the text is at its end -/
theorem tkK_0 (t : Nat → Nat) (L p : Nat) : tkK t L p = 0 ↔ L ≤ tkS t L p := by
  unfold tkK
  dsimp only
  generalize tkS t L p = s
  split
  · rename_i h; exact ⟨fun _ => h, fun _ => rfl⟩
  · rename_i h
    refine ⟨fun z => ?_, fun z => absurd z h⟩
    exfalso
    split at z
    · cases z
    · split at z
      · exact (nmK_ne _ _ _).1 z
      · split at z
        · exact (wdK_ne _ _ _).1 z
        · cases z
theorem tkP_gt (t : Nat → Nat) {L p : Nat} (hp : p ≤ L) (h0 : tkK t L p ≠ 0) (h4 : tkK t L p ≠ 4) : p < tkP t L p := by
  have hs := tkS_ge t hp
  have h0' : ¬ L ≤ tkS t L p := fun z => h0 ((tkK_0 t L p).mpr z)
  unfold tkK at h4
  unfold tkP
  dsimp only at h4 ⊢
  generalize tkS t L p = s at *
  rw [if_neg h0'] at h4 ⊢
  split
  · omega
  · rename_i g1
    rw [if_neg g1] at h4
    split
    · rename_i g2
      have := sk_gt (P := isD) (by omega : s < L) g2
      omega
    · rename_i g2
      rw [if_neg g2] at h4
      split
      · rename_i g3
        have := sk_gt (P := isW) (by omega : s < L) g3
        omega
      · rename_i g3
        rw [if_neg g3] at h4
        exact absurd rfl h4
/-- a number's value is small; what was there before plays no part -/
theorem tkV_num (t : Nat → Nat) (L p : Nat) (v : Int32) (ht : ∀ j, j < L → t j < 256) (hp : p ≤ L) (h : tkK t L p = 2) : ∃ j : Nat, j < 1000 ∧ tkV t L p v = nI j ∧ tkV t L p 0 = nI j := by
  have hs := tkS_ge t hp
  unfold tkK at h
  unfold tkV
  dsimp only at h ⊢
  generalize tkS t L p = s at *
  split
  · rename_i g; rw [if_pos g] at h; cases h
  · rename_i g
    rw [if_neg g] at h
    split
    · rename_i g1; rw [if_pos g1] at h; cases h
    · rename_i g1
      rw [if_neg g1] at h
      split
      · rename_i g2
        rw [if_pos g2] at h
        have hge := sk_ge isD t (L - s) s
        generalize sk isD t (L - s) s = q at *
        unfold nmK at h
        unfold nmV
        split
        · exact ⟨t s - 48, by have := ht s (by omega); omega, rfl, rfl⟩
        · rename_i g3
          rw [if_neg g3] at h
          split
          · rename_i g4
            have h1 := ht s (by omega)
            have h2 := ht (s + 1) (by omega)
            have hd : t s ≤ 57 := by simp [isD] at g2; exact g2.2
            exact ⟨10 * (t s - 48) + (t (s + 1) - 48), by omega, rfl, rfl⟩
          · rename_i g4; rw [if_neg g4] at h; cases h
      · rename_i g2
        rw [if_neg g2] at h
        split
        · rename_i g3; rw [if_pos g3] at h; exact absurd h (wdK_ne _ _ _).2.2
        · rename_i g3; rw [if_neg g3] at h; cases h
theorem tkV_row (t : Nat → Nat) (L p : Nat) (v : Int32) (h : tkK t L p = 3) : tkV t L p v = tkV t L p 0 ∧ ∃ r : Nat, r < 512 ∧ tkV t L p 0 = nI r := by
  unfold tkK at h
  unfold tkV
  dsimp only at h ⊢
  generalize tkS t L p = s at *
  split
  · rename_i g; rw [if_pos g] at h; cases h
  · rename_i g
    rw [if_neg g] at h
    split
    · rename_i g1; rw [if_pos g1] at h; cases h
    · rename_i g1
      rw [if_neg g1] at h
      split
      · rename_i g2
        rw [if_pos g2] at h
        exact absurd h (nmK_ne _ _ _).2.2
      · rename_i g2
        rw [if_neg g2] at h
        split
        · rename_i g3
          rw [if_pos g3] at h
          unfold wdK at h
          unfold wdV
          split
          · rename_i w0; rw [if_pos w0] at h; cases h
          · rename_i w0
            rw [if_neg w0] at h
            split
            · rename_i w1; rw [if_pos w1] at h; cases h
            · rename_i w1
              rw [if_neg w1] at h
              split
              · rename_i w2; rw [if_pos w2] at h; cases h
              · rename_i w2
                rw [if_neg w2] at h
                split
                · rename_i w3; rw [if_pos w3] at h; cases h
                · rename_i w3
                  rw [if_neg w3] at h
                  split
                  · exact ⟨rfl, _, Nat.lt_of_lt_of_le (mk_lt _ 9) (by omega), rfl⟩
                  · rename_i w4; rw [if_neg w4] at h; cases h
        · rename_i g3; rw [if_neg g3] at h; cases h
theorem stp_v {w : Nat} {q : Int32} {d : Nat → Int32} {k v v' : Int32} (h2 : k = 2 → v = v') (h3 : k = 3 → v = v') : stp w q d k v = stp w q d k v' := by
  unfold stp
  by_cases e2 : k = 2
  · rw [h2 e2]
  · by_cases e3 : k = 3
    · rw [h3 e3]
    · simp [e2, e3]
theorem stp_4 {w : Nat} {q : Int32} {d : Nat → Int32} {v : Int32} : stp w q d 4 v = none := by
  have e1 : ¬ (4 : Int32) = 1 := by decide
  have e2 : ¬ (4 : Int32) = 2 := by decide
  have e3 : ¬ (4 : Int32) = 3 := by decide
  have e5 : ¬ (4 : Int32) = 5 := by decide
  have e6 : ¬ (4 : Int32) = 6 := by decide
  have e7 : ¬ (4 : Int32) = 7 := by decide
  have e8 : ¬ (4 : Int32) = 8 := by decide
  simp only [stp, e1, e2, e3, e5, e6, e7, e8, false_and, if_false, ite_self]
theorem stp_2 {w : Nat} {q : Int32} {d : Nat → Int32} {k v : Int32} {x : Nat × (Int32 × (Nat → Int32))} (h : stp w q d k v = some x) : x.2.2 2 = d 2 := by
  unfold stp at h
  repeat' split at h
  all_goals first | cases h; done | (cases h; first | rfl | (dsimp only; simp (disch := omega) only [upd_s, upd_n]; done))
/-- all but the text's token and the draft stays -/
def frH (M M' : AM) : Prop := (∀ i, ¬ (1 ≤ i ∧ i ≤ 4) → ¬ (12 ≤ i ∧ i ≤ 17) → M'.1 i = M.1 i) ∧ M'.2.1 = M.2.1 ∧ ∀ a, ¬ (8 ≤ a ∧ a ≤ 10) → M'.2.2 a = M.2.2 a
theorem frH_I {M M' : AM} (h : frH M M') {i : Nat} (hi : (1 ≤ i ∧ i ≤ 4) ∨ (12 ≤ i ∧ i ≤ 17)) (x : Int32) : frH M (sI i x M') :=
  ⟨fun j hj hj2 => by
    rw [rdI1, upN_n _ _ (fun e => by rw [e] at hj hj2; exact hi.elim hj hj2)]
    exact h.1 j hj hj2, h.2.1, h.2.2⟩
theorem frH_D {M M' M2 : AM} (h : frH M M') (h2 : frD M' M2) : frH M M2 :=
  ⟨fun i hi hi2 => by rw [h2.1 i (fun z => hi2 (by omega))]; exact h.1 i hi hi2, by rw [h2.2.1]; exact h.2.1, fun a ha => by rw [h2.2.2 a ha]; exact h.2.2 a ha⟩
theorem frH_TX {M M' : AM} (h : frH M M') {L : Nat} {t : Nat → Nat} (hT : TX M L t) : TX M' L t := by
  unfold TX at hT ⊢
  rw [h.1 0 (by omega) (by omega), h.2.2 0 (by omega)]
  exact hT
theorem frH_rf (M : AM) : frH M M := ⟨fun _ _ _ => rfl, rfl, fun _ _ => rfl⟩
def S_X0_hear : SP := fun as M post => ∃ L t, as = [VR 12, VR 1] ∧ TX M L t ∧ (∀ s, prs t L 301 0 0 0 d0 = .inl s → ∀ M', frH M M' → post (some (VI (-10 - nI s))) M') ∧ (∀ d, prs t L 301 0 0 0 d0 = .inr d → ∀ M', frH M M' → DR M' d → M'.1 17 = 0 → post (some (VI (d 2))) M')
/-- the token at hand is the one from p on -/
def AT (M : AM) (t : Nat → Nat) (L p : Nat) (v : Int32) : Prop := M.1 1 = nI (tkP t L p) ∧ M.1 2 = nI (tkS t L p) ∧ M.1 3 = tkK t L p ∧ M.1 4 = tkV t L p v
theorem AT_D {M M' : AM} (h : frD M M') {t : Nat → Nat} {L p : Nat} {v : Int32} (ha : AT M t L p v) : AT M' t L p v := by
  unfold AT at ha ⊢
  rw [h.1 1 (by omega), h.1 2 (by omega), h.1 3 (by omega), h.1 4 (by omega)]
  exact ha
theorem cw_RX0_37 : ∀ w ∈ ([.methodLink RX0 37 yX1_empty, .instanceMethod yX1_empty, .selects yX1_empty.cls yX1_empty yX1_empty, .initialized yX1_empty.cls, .code yX1_empty cX1_empty 1 none] : List Cond), w ∈ tb := tb_all [234, 235, 236, 57, 237] (by decide +kernel) (by decide +kernel)
theorem cw_RX0_43 : ∀ w ∈ ([.methodLink RX0 43 yX3_readFirst, .instanceMethod yX3_readFirst, .selects yX3_readFirst.cls yX3_readFirst yX3_readFirst, .initialized yX3_readFirst.cls, .code yX3_readFirst cX3_readFirst 1 none] : List Cond), w ∈ tb := tb_all [238, 239, 240, 55, 241] (by decide +kernel) (by decide +kernel)
theorem fl_RX0_48 : Cond.fieldLink RX0 48 (TX3 4).1 (TX3 4).2.1 (TX3 4).2.2.1 ∈ tb := tb_of 86 (by decide +kernel) (by decide +kernel)
theorem fl_RX0_51 : Cond.fieldLink RX0 51 (TX3 5).1 (TX3 5).2.1 (TX3 5).2.2.1 ∈ tb := tb_of 87 (by decide +kernel) (by decide +kernel)
theorem cw_RX0_54 : ∀ w ∈ ([.methodLink RX0 54 yX0_hearToken, .instanceMethod yX0_hearToken, .selects yX0_hearToken.cls yX0_hearToken yX0_hearToken, .initialized yX0_hearToken.cls, .code yX0_hearToken cX0_hearToken 3 (some .boolean)] : List Cond), w ∈ tb := tb_all [324, 326, 5, 56, 327] (by decide +kernel) (by decide +kernel)
theorem fl_RX0_58 : Cond.fieldLink RX0 58 (TX3 3).1 (TX3 3).2.1 (TX3 3).2.2.1 ∈ tb := tb_of 84 (by decide +kernel) (by decide +kernel)
theorem cw_RX0_61 : ∀ w ∈ ([.methodLink RX0 61 yX3_readNext, .instanceMethod yX3_readNext, .selects yX3_readNext.cls yX3_readNext yX3_readNext, .initialized yX3_readNext.cls, .code yX3_readNext cX3_readNext 2 none] : List Cond), w ∈ tb := tb_all [364, 243, 244, 55, 245] (by decide +kernel) (by decide +kernel)
theorem dX0_hear_0 : decode cX0_hear 0 = .ok (.aload_n 0, 1) := by decide +kernel
theorem dX0_hear_1 : decode cX0_hear 1 = .ok (.getfield 12, 3) := by decide +kernel
theorem dX0_hear_4 : decode cX0_hear 4 = .ok (.invokevirtual 37, 3) := by decide +kernel
theorem dX0_hear_7 : decode cX0_hear 7 = .ok (.aload_n 0, 1) := by decide +kernel
theorem dX0_hear_8 : decode cX0_hear 8 = .ok (.iconst 0, 1) := by decide +kernel
theorem dX0_hear_9 : decode cX0_hear 9 = .ok (.putfield 22, 3) := by decide +kernel
theorem dX0_hear_12 : decode cX0_hear 12 = .ok (.aload_n 0, 1) := by decide +kernel
theorem dX0_hear_13 : decode cX0_hear 13 = .ok (.iconst 0, 1) := by decide +kernel
theorem dX0_hear_14 : decode cX0_hear 14 = .ok (.putfield 26, 3) := by decide +kernel
theorem dX0_hear_17 : decode cX0_hear 17 = .ok (.aload_n 0, 1) := by decide +kernel
theorem dX0_hear_18 : decode cX0_hear 18 = .ok (.iconst 0, 1) := by decide +kernel
theorem dX0_hear_19 : decode cX0_hear 19 = .ok (.putfield 40, 3) := by decide +kernel
theorem dX0_hear_22 : decode cX0_hear 22 = .ok (.iconst 0, 1) := by decide +kernel
theorem dX0_hear_23 : decode cX0_hear 23 = .ok (.istore_n 2, 1) := by decide +kernel
theorem dX0_hear_24 : decode cX0_hear 24 = .ok (.aload_n 1, 1) := by decide +kernel
theorem dX0_hear_25 : decode cX0_hear 25 = .ok (.invokevirtual 43, 3) := by decide +kernel
theorem dX0_hear_28 : decode cX0_hear 28 = .ok (.iconst 0, 1) := by decide +kernel
theorem dX0_hear_29 : decode cX0_hear 29 = .ok (.istore_n 3, 1) := by decide +kernel
theorem dX0_hear_30 : decode cX0_hear 30 = .ok (.iload_n 3, 1) := by decide +kernel
theorem dX0_hear_31 : decode cX0_hear 31 = .ok (.sipush 300, 3) := by decide +kernel
theorem dX0_hear_34 : decode cX0_hear 34 = .ok (.if_icmp .ge 59, 3) := by decide +kernel
theorem dX0_hear_37 : decode cX0_hear 37 = .ok (.aload_n 1, 1) := by decide +kernel
theorem dX0_hear_38 : decode cX0_hear 38 = .ok (.getfield 48, 3) := by decide +kernel
theorem dX0_hear_41 : decode cX0_hear 41 = .ok (.ifCond .eq 52, 3) := by decide +kernel
theorem dX0_hear_44 : decode cX0_hear 44 = .ok (.aload_n 0, 1) := by decide +kernel
theorem dX0_hear_45 : decode cX0_hear 45 = .ok (.aload_n 1, 1) := by decide +kernel
theorem dX0_hear_46 : decode cX0_hear 46 = .ok (.getfield 48, 3) := by decide +kernel
theorem dX0_hear_49 : decode cX0_hear 49 = .ok (.aload_n 1, 1) := by decide +kernel
theorem dX0_hear_50 : decode cX0_hear 50 = .ok (.getfield 51, 3) := by decide +kernel
theorem dX0_hear_53 : decode cX0_hear 53 = .ok (.invokevirtual 54, 3) := by decide +kernel
theorem dX0_hear_56 : decode cX0_hear 56 = .ok (.ifCond .ne 11, 3) := by decide +kernel
theorem dX0_hear_59 : decode cX0_hear 59 = .ok (.bipush (-10), 2) := by decide +kernel
theorem dX0_hear_61 : decode cX0_hear 61 = .ok (.aload_n 1, 1) := by decide +kernel
theorem dX0_hear_62 : decode cX0_hear 62 = .ok (.getfield 58, 3) := by decide +kernel
theorem dX0_hear_65 : decode cX0_hear 65 = .ok (.isub, 1) := by decide +kernel
theorem dX0_hear_66 : decode cX0_hear 66 = .ok (.ireturn, 1) := by decide +kernel
theorem dX0_hear_67 : decode cX0_hear 67 = .ok (.iload_n 2, 1) := by decide +kernel
theorem dX0_hear_68 : decode cX0_hear 68 = .ok (.aload_n 1, 1) := by decide +kernel
theorem dX0_hear_69 : decode cX0_hear 69 = .ok (.getfield 48, 3) := by decide +kernel
theorem dX0_hear_72 : decode cX0_hear 72 = .ok (.iconst 1, 1) := by decide +kernel
theorem dX0_hear_73 : decode cX0_hear 73 = .ok (.if_icmp .ne 7, 3) := by decide +kernel
theorem dX0_hear_76 : decode cX0_hear 76 = .ok (.iconst 1, 1) := by decide +kernel
theorem dX0_hear_77 : decode cX0_hear 77 = .ok (.goto 4, 3) := by decide +kernel
theorem dX0_hear_80 : decode cX0_hear 80 = .ok (.iconst 0, 1) := by decide +kernel
theorem dX0_hear_81 : decode cX0_hear 81 = .ok (.iadd, 1) := by decide +kernel
theorem dX0_hear_82 : decode cX0_hear 82 = .ok (.istore_n 2, 1) := by decide +kernel
theorem dX0_hear_83 : decode cX0_hear 83 = .ok (.aload_n 1, 1) := by decide +kernel
theorem dX0_hear_84 : decode cX0_hear 84 = .ok (.invokevirtual 61, 3) := by decide +kernel
theorem dX0_hear_87 : decode cX0_hear 87 = .ok (.iinc 3 1, 3) := by decide +kernel
theorem dX0_hear_90 : decode cX0_hear 90 = .ok (.goto (-60), 3) := by decide +kernel
theorem dX0_hear_93 : decode cX0_hear 93 = .ok (.aload_n 0, 1) := by decide +kernel
theorem dX0_hear_94 : decode cX0_hear 94 = .ok (.getfield 40, 3) := by decide +kernel
theorem dX0_hear_97 : decode cX0_hear 97 = .ok (.ifCond .ne 7, 3) := by decide +kernel
theorem dX0_hear_100 : decode cX0_hear 100 = .ok (.iload_n 2, 1) := by decide +kernel
theorem dX0_hear_101 : decode cX0_hear 101 = .ok (.goto 10, 3) := by decide +kernel
theorem dX0_hear_104 : decode cX0_hear 104 = .ok (.bipush (-10), 2) := by decide +kernel
theorem dX0_hear_106 : decode cX0_hear 106 = .ok (.aload_n 1, 1) := by decide +kernel
theorem dX0_hear_107 : decode cX0_hear 107 = .ok (.getfield 58, 3) := by decide +kernel
theorem dX0_hear_110 : decode cX0_hear 110 = .ok (.isub, 1) := by decide +kernel
theorem dX0_hear_111 : decode cX0_hear 111 = .ok (.ireturn, 1) := by decide +kernel
def T_X0_hear (post : PO) : List (Nat × OP) := [(0, o_aload 0 1), (1, o_getf 0 0 4), (4, o_callV 1 S_X1_empty 0 7), (7, o_aload 0 8), (8, o_const 0 9), (9, o_putI 0 2 12), (12, o_aload 0 13), (13, o_const 0 14), (14, o_putI 0 3 17), (17, o_aload 0 18), (18, o_const 0 19), (19, o_putI 0 4 22), (22, o_const 0 23), (23, o_istore 2 24), (24, o_aload 1 25), (25, o_callV 3 S_X3_readFirst 0 28), (28, o_const 0 29), (29, o_istore 3 30), (30, o_iload 3 31), (31, o_const 300 34), (34, o_icmp (fun x y => y ≤ x) 93 37), (37, o_aload 1 38), (38, o_getf 3 4 41), (41, o_if (fun x => x = 0) 93 44), (44, o_aload 0 45), (45, o_aload 1 46), (46, o_getf 3 4 49), (49, o_aload 1 50), (50, o_getf 3 5 53), (53, o_callV 0 S_X0_hearToken 2 56), (56, o_if (fun x => x = 0) 59 67), (59, o_const (-10) 61), (61, o_aload 1 62), (62, o_getf 3 3 65), (65, o_bin (fun x y => x - y) 66), (66, o_iret post), (67, o_iload 2 68), (68, o_aload 1 69), (69, o_getf 3 4 72), (72, o_const 1 73), (73, o_icmp (fun x y => x = y) 76 80), (76, o_const 1 77), (77, o_goto 81), (80, o_const 0 81), (81, o_bin (fun x y => x + y) 82), (82, o_istore 2 83), (83, o_aload 1 84), (84, o_callV 3 S_X3_readNext 0 87), (87, o_iinc 3 1 90), (90, o_goto 30), (93, o_aload 0 94), (94, o_getf 0 4 97), (97, o_if (fun x => x = 0) 100 104), (100, o_iload 2 101), (101, o_goto 111), (104, o_const (-10) 106), (106, o_aload 1 107), (107, o_getf 3 3 110), (110, o_bin (fun x y => x - y) 111), (111, o_iret post)]
theorem k_X0_hear_0 (post : PO) : lk (T_X0_hear post) 0 = o_aload 0 1 := rfl
theorem k_X0_hear_1 (post : PO) : lk (T_X0_hear post) 1 = o_getf 0 0 4 := rfl
theorem k_X0_hear_4 (post : PO) : lk (T_X0_hear post) 4 = o_callV 1 S_X1_empty 0 7 := rfl
theorem k_X0_hear_7 (post : PO) : lk (T_X0_hear post) 7 = o_aload 0 8 := rfl
theorem k_X0_hear_8 (post : PO) : lk (T_X0_hear post) 8 = o_const 0 9 := rfl
theorem k_X0_hear_9 (post : PO) : lk (T_X0_hear post) 9 = o_putI 0 2 12 := rfl
theorem k_X0_hear_12 (post : PO) : lk (T_X0_hear post) 12 = o_aload 0 13 := rfl
theorem k_X0_hear_13 (post : PO) : lk (T_X0_hear post) 13 = o_const 0 14 := rfl
theorem k_X0_hear_14 (post : PO) : lk (T_X0_hear post) 14 = o_putI 0 3 17 := rfl
theorem k_X0_hear_17 (post : PO) : lk (T_X0_hear post) 17 = o_aload 0 18 := rfl
theorem k_X0_hear_18 (post : PO) : lk (T_X0_hear post) 18 = o_const 0 19 := rfl
theorem k_X0_hear_19 (post : PO) : lk (T_X0_hear post) 19 = o_putI 0 4 22 := rfl
theorem k_X0_hear_22 (post : PO) : lk (T_X0_hear post) 22 = o_const 0 23 := rfl
theorem k_X0_hear_23 (post : PO) : lk (T_X0_hear post) 23 = o_istore 2 24 := rfl
theorem k_X0_hear_24 (post : PO) : lk (T_X0_hear post) 24 = o_aload 1 25 := rfl
theorem k_X0_hear_25 (post : PO) : lk (T_X0_hear post) 25 = o_callV 3 S_X3_readFirst 0 28 := rfl
theorem k_X0_hear_28 (post : PO) : lk (T_X0_hear post) 28 = o_const 0 29 := rfl
theorem k_X0_hear_29 (post : PO) : lk (T_X0_hear post) 29 = o_istore 3 30 := rfl
theorem k_X0_hear_30 (post : PO) : lk (T_X0_hear post) 30 = o_iload 3 31 := rfl
theorem k_X0_hear_31 (post : PO) : lk (T_X0_hear post) 31 = o_const 300 34 := rfl
theorem k_X0_hear_34 (post : PO) : lk (T_X0_hear post) 34 = o_icmp (fun x y => y ≤ x) 93 37 := rfl
theorem k_X0_hear_37 (post : PO) : lk (T_X0_hear post) 37 = o_aload 1 38 := rfl
theorem k_X0_hear_38 (post : PO) : lk (T_X0_hear post) 38 = o_getf 3 4 41 := rfl
theorem k_X0_hear_41 (post : PO) : lk (T_X0_hear post) 41 = o_if (fun x => x = 0) 93 44 := rfl
theorem k_X0_hear_44 (post : PO) : lk (T_X0_hear post) 44 = o_aload 0 45 := rfl
theorem k_X0_hear_45 (post : PO) : lk (T_X0_hear post) 45 = o_aload 1 46 := rfl
theorem k_X0_hear_46 (post : PO) : lk (T_X0_hear post) 46 = o_getf 3 4 49 := rfl
theorem k_X0_hear_49 (post : PO) : lk (T_X0_hear post) 49 = o_aload 1 50 := rfl
theorem k_X0_hear_50 (post : PO) : lk (T_X0_hear post) 50 = o_getf 3 5 53 := rfl
theorem k_X0_hear_53 (post : PO) : lk (T_X0_hear post) 53 = o_callV 0 S_X0_hearToken 2 56 := rfl
theorem k_X0_hear_56 (post : PO) : lk (T_X0_hear post) 56 = o_if (fun x => x = 0) 59 67 := rfl
theorem k_X0_hear_59 (post : PO) : lk (T_X0_hear post) 59 = o_const (-10) 61 := rfl
theorem k_X0_hear_61 (post : PO) : lk (T_X0_hear post) 61 = o_aload 1 62 := rfl
theorem k_X0_hear_62 (post : PO) : lk (T_X0_hear post) 62 = o_getf 3 3 65 := rfl
theorem k_X0_hear_65 (post : PO) : lk (T_X0_hear post) 65 = o_bin (fun x y => x - y) 66 := rfl
theorem k_X0_hear_66 (post : PO) : lk (T_X0_hear post) 66 = o_iret post := rfl
theorem k_X0_hear_67 (post : PO) : lk (T_X0_hear post) 67 = o_iload 2 68 := rfl
theorem k_X0_hear_68 (post : PO) : lk (T_X0_hear post) 68 = o_aload 1 69 := rfl
theorem k_X0_hear_69 (post : PO) : lk (T_X0_hear post) 69 = o_getf 3 4 72 := rfl
theorem k_X0_hear_72 (post : PO) : lk (T_X0_hear post) 72 = o_const 1 73 := rfl
theorem k_X0_hear_73 (post : PO) : lk (T_X0_hear post) 73 = o_icmp (fun x y => x = y) 76 80 := rfl
theorem k_X0_hear_76 (post : PO) : lk (T_X0_hear post) 76 = o_const 1 77 := rfl
theorem k_X0_hear_77 (post : PO) : lk (T_X0_hear post) 77 = o_goto 81 := rfl
theorem k_X0_hear_80 (post : PO) : lk (T_X0_hear post) 80 = o_const 0 81 := rfl
theorem k_X0_hear_81 (post : PO) : lk (T_X0_hear post) 81 = o_bin (fun x y => x + y) 82 := rfl
theorem k_X0_hear_82 (post : PO) : lk (T_X0_hear post) 82 = o_istore 2 83 := rfl
theorem k_X0_hear_83 (post : PO) : lk (T_X0_hear post) 83 = o_aload 1 84 := rfl
theorem k_X0_hear_84 (post : PO) : lk (T_X0_hear post) 84 = o_callV 3 S_X3_readNext 0 87 := rfl
theorem k_X0_hear_87 (post : PO) : lk (T_X0_hear post) 87 = o_iinc 3 1 90 := rfl
theorem k_X0_hear_90 (post : PO) : lk (T_X0_hear post) 90 = o_goto 30 := rfl
theorem k_X0_hear_93 (post : PO) : lk (T_X0_hear post) 93 = o_aload 0 94 := rfl
theorem k_X0_hear_94 (post : PO) : lk (T_X0_hear post) 94 = o_getf 0 4 97 := rfl
theorem k_X0_hear_97 (post : PO) : lk (T_X0_hear post) 97 = o_if (fun x => x = 0) 100 104 := rfl
theorem k_X0_hear_100 (post : PO) : lk (T_X0_hear post) 100 = o_iload 2 101 := rfl
theorem k_X0_hear_101 (post : PO) : lk (T_X0_hear post) 101 = o_goto 111 := rfl
theorem k_X0_hear_104 (post : PO) : lk (T_X0_hear post) 104 = o_const (-10) 106 := rfl
theorem k_X0_hear_106 (post : PO) : lk (T_X0_hear post) 106 = o_aload 1 107 := rfl
theorem k_X0_hear_107 (post : PO) : lk (T_X0_hear post) 107 = o_getf 3 3 110 := rfl
theorem k_X0_hear_110 (post : PO) : lk (T_X0_hear post) 110 = o_bin (fun x y => x - y) 111 := rfl
theorem k_X0_hear_111 (post : PO) : lk (T_X0_hear post) 111 = o_iret post := rfl
set_option maxRecDepth 100000 in
theorem t_X0_hear {p : Program} {l : Launch} {e : Env} {s : State} {m : MethodId} {args : Array Value} {below : List Frame} {meth : Method} {c : Code} {D : va_G} {dA : Nat → ClassId} {ad : Nat → Nat} (post : PO) (C : CX p s m args meth c cX0_hear 4 yX0_hear.cls D dA ad (AA ad s.heap.size)) (hr : meth.sig.returnType = (some .int)) : SndL (WW p l e ({ frames := 8, cells := 0, slots := 0, locals := 168 } : Room) s m args below meth c 0 0 (MQ below (CQ D dA ad post (AA ad s.heap.size)) args s 0 0 (AA ad s.heap.size)) 4 D dA ad (AA ad s.heap.size)) (T_X0_hear post) := by
  refine snd_c (s_aload_n C rfl dX0_hear_0) ?_
  refine snd_c (s_getf C (ci := 0) (j := 0) (T := TX0) rfl inX0 (by decide) fl_RX0_12 dX0_hear_1) ?_
  refine snd_c (s_callV C (ci := 1) c_X1_empty rfl cw_RX0_37 ⟨rfl, rfl⟩ ⟨by decide +kernel, by decide +kernel, by decide +kernel⟩ ⟨by decide, by decide⟩ ⟨Nat.zero_le _, Nat.zero_le _⟩ dX0_hear_4) ?_
  refine snd_c (s_aload_n C rfl dX0_hear_7) ?_
  refine snd_c (s_iconst C dX0_hear_8 rfl) ?_
  refine snd_c (s_putI C (ci := 0) (j := 2) (T := TX0) tyX0 tyX0_ok nmX0 rfl inX0 (by decide) rfl rfl fl_RX0_22 dX0_hear_9) ?_
  refine snd_c (s_aload_n C rfl dX0_hear_12) ?_
  refine snd_c (s_iconst C dX0_hear_13 rfl) ?_
  refine snd_c (s_putI C (ci := 0) (j := 3) (T := TX0) tyX0 tyX0_ok nmX0 rfl inX0 (by decide) rfl rfl fl_RX0_26 dX0_hear_14) ?_
  refine snd_c (s_aload_n C rfl dX0_hear_17) ?_
  refine snd_c (s_iconst C dX0_hear_18 rfl) ?_
  refine snd_c (s_putI C (ci := 0) (j := 4) (T := TX0) tyX0 tyX0_ok nmX0 rfl inX0 (by decide) rfl rfl fl_RX0_40 dX0_hear_19) ?_
  refine snd_c (s_iconst C dX0_hear_22 rfl) ?_
  refine snd_c (s_istore_n C rfl (by decide) dX0_hear_23) ?_
  refine snd_c (s_aload_n C rfl dX0_hear_24) ?_
  refine snd_c (s_callV C (ci := 3) c_X3_readFirst rfl cw_RX0_43 ⟨rfl, rfl⟩ ⟨by decide +kernel, by decide +kernel, by decide +kernel⟩ ⟨by decide, by decide⟩ ⟨Nat.zero_le _, Nat.zero_le _⟩ dX0_hear_25) ?_
  refine snd_c (s_iconst C dX0_hear_28 rfl) ?_
  refine snd_c (s_istore_n C rfl (by decide) dX0_hear_29) ?_
  refine snd_c (s_iload_n C rfl dX0_hear_30) ?_
  refine snd_c (s_sipush C dX0_hear_31 rfl) ?_
  refine snd_c (s_icmp_ge C dX0_hear_34 (by decide)) ?_
  refine snd_c (s_aload_n C rfl dX0_hear_37) ?_
  refine snd_c (s_getf C (ci := 3) (j := 4) (T := TX3) rfl inX3 (by decide) fl_RX0_48 dX0_hear_38) ?_
  refine snd_c (s_if_eq C dX0_hear_41 (by decide)) ?_
  refine snd_c (s_aload_n C rfl dX0_hear_44) ?_
  refine snd_c (s_aload_n C rfl dX0_hear_45) ?_
  refine snd_c (s_getf C (ci := 3) (j := 4) (T := TX3) rfl inX3 (by decide) fl_RX0_48 dX0_hear_46) ?_
  refine snd_c (s_aload_n C rfl dX0_hear_49) ?_
  refine snd_c (s_getf C (ci := 3) (j := 5) (T := TX3) rfl inX3 (by decide) fl_RX0_51 dX0_hear_50) ?_
  refine snd_c (s_callV C (ci := 0) c_X0_hearToken rfl cw_RX0_54 ⟨rfl, rfl⟩ ⟨by decide +kernel, by decide +kernel, by decide +kernel⟩ ⟨by decide, by decide⟩ ⟨Nat.zero_le _, Nat.zero_le _⟩ dX0_hear_53) ?_
  refine snd_c (s_if_ne C dX0_hear_56 (by decide)) ?_
  refine snd_c (s_bipush C dX0_hear_59 rfl) ?_
  refine snd_c (s_aload_n C rfl dX0_hear_61) ?_
  refine snd_c (s_getf C (ci := 3) (j := 3) (T := TX3) rfl inX3 (by decide) fl_RX0_58 dX0_hear_62) ?_
  refine snd_c (s_isub C dX0_hear_65) ?_
  refine snd_c (s_iret C hr dX0_hear_66) ?_
  refine snd_c (s_iload_n C rfl dX0_hear_67) ?_
  refine snd_c (s_aload_n C rfl dX0_hear_68) ?_
  refine snd_c (s_getf C (ci := 3) (j := 4) (T := TX3) rfl inX3 (by decide) fl_RX0_48 dX0_hear_69) ?_
  refine snd_c (s_iconst C dX0_hear_72 rfl) ?_
  refine snd_c (s_icmp_ne C dX0_hear_73 (by decide)) ?_
  refine snd_c (s_iconst C dX0_hear_76 rfl) ?_
  refine snd_c (s_goto C dX0_hear_77 (by decide)) ?_
  refine snd_c (s_iconst C dX0_hear_80 rfl) ?_
  refine snd_c (s_iadd C dX0_hear_81) ?_
  refine snd_c (s_istore_n C rfl (by decide) dX0_hear_82) ?_
  refine snd_c (s_aload_n C rfl dX0_hear_83) ?_
  refine snd_c (s_callV C (ci := 3) c_X3_readNext rfl cw_RX0_61 ⟨rfl, rfl⟩ ⟨by decide +kernel, by decide +kernel, by decide +kernel⟩ ⟨by decide, by decide⟩ ⟨Nat.zero_le _, Nat.zero_le _⟩ dX0_hear_84) ?_
  refine snd_c (s_iinc C (by decide) rfl dX0_hear_87) ?_
  refine snd_c (s_goto C dX0_hear_90 (by decide)) ?_
  refine snd_c (s_aload_n C rfl dX0_hear_93) ?_
  refine snd_c (s_getf C (ci := 0) (j := 4) (T := TX0) rfl inX0 (by decide) fl_RX0_40 dX0_hear_94) ?_
  refine snd_c (s_if_ne C dX0_hear_97 (by decide)) ?_
  refine snd_c (s_iload_n C rfl dX0_hear_100) ?_
  refine snd_c (s_goto C dX0_hear_101 (by decide)) ?_
  refine snd_c (s_bipush C dX0_hear_104 rfl) ?_
  refine snd_c (s_aload_n C rfl dX0_hear_106) ?_
  refine snd_c (s_getf C (ci := 3) (j := 3) (T := TX3) rfl inX3 (by decide) fl_RX0_58 dX0_hear_107) ?_
  refine snd_c (s_isub C dX0_hear_110) ?_
  refine snd_c (s_iret C hr dX0_hear_111) ?_
  exact trivial
set_option maxRecDepth 100000 in
theorem v_X0_hear : ∀ as M post, S_X0_hear as M post → wsum as ≤ 4 ∧ RUN (T_X0_hear post) 0 (entL 4 as) [] M := by
  rintro as M post ⟨L, t, rfl, hT, hn, hs⟩
  have hT2 := hT.2.1
  have htb : ∀ j, j < L → t j < 256 := fun j hj => (hT.2.2 j hj).2
  refine ⟨by show 2 ≤ 4; omega, run_of [30, 93] (fun μ pc lv st M' => st = [] ∧ frH M M' ∧ M'.1 17 = 0 ∧ ∃ j p w q d v, j ≤ 300 ∧ j ≤ p ∧ p ≤ L ∧ DR M' d ∧ AT M' t L p v ∧ M'.1 14 = nI w ∧ w ≤ 5 ∧ (w = 5 → M'.1 15 = q) ∧ prs t L (301 - j) p w q d = prs t L 301 0 0 0 d0 ∧ lv = [some (VR 12), some (VR 1), some (VI (d 2)), some (VI (nI j))] ∧ ((pc = 30 ∧ 1000 - j = μ) ∨ (pc = 93 ∧ tkK t L p = 0 ∧ 10 = μ))) 60 2000 ?_ ?_⟩
  · rintro μ pc lv st M' ⟨rfl, hf, hk0, j, p, w, q, d, v, hj, hjp, hpL, hD, ⟨a1, a2, a3, a4⟩, hw, hw5, hq, he, rfl, ⟨rfl, rfl⟩ | ⟨rfl, hK, rfl⟩⟩
    · dsimp only [k_X0_hear_0, k_X0_hear_1, k_X0_hear_4, k_X0_hear_7, k_X0_hear_8, k_X0_hear_9, k_X0_hear_12, k_X0_hear_13, k_X0_hear_14, k_X0_hear_17, k_X0_hear_18, k_X0_hear_19, k_X0_hear_22, k_X0_hear_23, k_X0_hear_24, k_X0_hear_25, k_X0_hear_28, k_X0_hear_29, k_X0_hear_30, k_X0_hear_31, k_X0_hear_34, k_X0_hear_37, k_X0_hear_38, k_X0_hear_41, k_X0_hear_44, k_X0_hear_45, k_X0_hear_46, k_X0_hear_49, k_X0_hear_50, k_X0_hear_53, k_X0_hear_56, k_X0_hear_59, k_X0_hear_61, k_X0_hear_62, k_X0_hear_65, k_X0_hear_66, k_X0_hear_67, k_X0_hear_68, k_X0_hear_69, k_X0_hear_72, k_X0_hear_73, k_X0_hear_76, k_X0_hear_77, k_X0_hear_80, k_X0_hear_81, k_X0_hear_82, k_X0_hear_83, k_X0_hear_84, k_X0_hear_87, k_X0_hear_90, k_X0_hear_93, k_X0_hear_94, k_X0_hear_97, k_X0_hear_100, k_X0_hear_101, k_X0_hear_104, k_X0_hear_106, k_X0_hear_107, k_X0_hear_110, k_X0_hear_111, wp1, wp_s, cutIn, kont, Nat.reduceSub, Nat.reduceAdd, nth, o_const, o_lconst, o_ref, o_iload, o_lload, o_aload, o_istore, o_lstore, o_astore, o_iinc, o_bin, o_div, o_un, o_lbin, o_lsh, o_lcmp, o_i2l, o_l2i, o_if, o_icmp, o_goto, o_dup, o_dup2, o_pop, fav, o_getf, o_putI, o_putZ, o_putL, o_ald, o_ast, o_alen, popn, rst, o_callV, o_callT, o_callS, swx, o_sw, o_ret, o_iret, o_zret, o_cret, o_lret, o_aret, lg, lput, lput2, ls1, isL, entL, wsum, rdI1, rdI2, rdA1, rdA21, rdA22, rdL1, rdL22, rdL21, upN_at, rep, sh_0, F_0_0, F_0_1, F_0_2, F_0_3, F_0_4, F_0_5, F_0_6, F_0_7, F_0_8, sh_1, F_1_0, F_1_1, F_1_2, F_1_3, F_1_4, F_1_5, sh_3, F_3_0, F_3_1, F_3_2, F_3_3, F_3_4, F_3_5, sh_5, F_5_0, F_5_1, F_5_2, F_5_3, F_5_4, F_5_5, F_5_6, F_5_7, F_5_8, sh_12, F_12_0, F_12_1, F_12_2, F_12_3, F_12_4, F_12_5, sh_14, F_14_0, F_14_1, F_14_2, F_14_3, F_14_4, F_14_5, F_14_6, F_14_7, F_14_8, sh_21, F_21_0, F_21_1, F_21_2, F_21_3, F_21_4, F_21_5, F_21_6, F_21_7, F_21_8, sh_28, F_28_0, F_28_1, F_28_2, F_28_3, F_28_4, F_28_5, F_28_6, F_28_7, F_28_8, sh_35, F_35_0, sh_39, F_39_0, F_39_1, F_39_2, F_39_3, F_39_4, F_39_5, F_39_6, F_39_7, F_39_8, F_39_9, F_39_10, F_39_11, F_39_12, F_39_13, A_2, A_4, A_6, A_7, A_8, A_9, A_10, A_11, A_13, A_15, A_16, A_17, A_18, A_19, A_20, A_22, A_23, A_24, A_25, A_26, A_27, A_29, A_30, A_31, A_32, A_33, A_34, A_36, A_37, A_38, A_40, A_41, A_42, A_43, A_44, A_45, A_46, A_47]
      rw [a3, show (300 : Int32) = nI 300 from rfl]
      simp (disch := omega) only [nI_leI, nI_ltI, nI_eq, nI_1, nI_add, one_shl, nI_or, nI_xor, nI_and, bit_0, bit_1, true_or, or_true, true_and, and_true, eq_self, not_true_eq_false, not_false_eq_true, forall_const]
      have hS := tkS_ge t hpL
      refine ⟨fun z => cut _ _ ⟨rfl, hf, hk0, j, p, w, q, d, v, hj, hjp, hpL, hD, ⟨a1, a2, a3, a4⟩, hw, hw5, hq, he, rfl, Or.inr ⟨rfl, (tkK_0 t L p).mpr (by omega), rfl⟩⟩ (by omega) ⟨rfl, rfl, rfl, rfl, trivial⟩, fun z => ⟨fun z2 => cut _ _ ⟨rfl, hf, hk0, j, p, w, q, d, v, hj, hjp, hpL, hD, ⟨a1, a2, a3, a4⟩, hw, hw5, hq, he, rfl, Or.inr ⟨rfl, z2, rfl⟩⟩ (by omega) ⟨rfl, rfl, rfl, rfl, trivial⟩, fun z2 => ?_⟩⟩
      rw [show 301 - j = (300 - j) + 1 by omega, prs, if_neg z2] at he
      have ev : stp w q d (tkK t L p) (tkV t L p v) = stp w q d (tkK t L p) (tkV t L p 0) := stp_v (fun e => by obtain ⟨n, -, e1, e2⟩ := tkV_num t L p v htb hpL e; rw [e1, e2]) (fun e => (tkV_row t L p v e).1)
      rw [a4]
      refine ⟨_, _, d, w, q, rfl, hD, hw, hw5, hq, fun e => ?_, fun e M2 hM2 => ?_, fun x e M2 hM2 hD2 hw2 hq2 hx5 => ?_⟩
      · obtain ⟨n, h1, h2, -⟩ := tkV_num t L p v htb hpL e
        exact ⟨n, h1, h2⟩
      · rw [ev] at e
        rw [e] at he
        dsimp only [k_X0_hear_0, k_X0_hear_1, k_X0_hear_4, k_X0_hear_7, k_X0_hear_8, k_X0_hear_9, k_X0_hear_12, k_X0_hear_13, k_X0_hear_14, k_X0_hear_17, k_X0_hear_18, k_X0_hear_19, k_X0_hear_22, k_X0_hear_23, k_X0_hear_24, k_X0_hear_25, k_X0_hear_28, k_X0_hear_29, k_X0_hear_30, k_X0_hear_31, k_X0_hear_34, k_X0_hear_37, k_X0_hear_38, k_X0_hear_41, k_X0_hear_44, k_X0_hear_45, k_X0_hear_46, k_X0_hear_49, k_X0_hear_50, k_X0_hear_53, k_X0_hear_56, k_X0_hear_59, k_X0_hear_61, k_X0_hear_62, k_X0_hear_65, k_X0_hear_66, k_X0_hear_67, k_X0_hear_68, k_X0_hear_69, k_X0_hear_72, k_X0_hear_73, k_X0_hear_76, k_X0_hear_77, k_X0_hear_80, k_X0_hear_81, k_X0_hear_82, k_X0_hear_83, k_X0_hear_84, k_X0_hear_87, k_X0_hear_90, k_X0_hear_93, k_X0_hear_94, k_X0_hear_97, k_X0_hear_100, k_X0_hear_101, k_X0_hear_104, k_X0_hear_106, k_X0_hear_107, k_X0_hear_110, k_X0_hear_111, wp1, wp_s, cutIn, kont, Nat.reduceSub, Nat.reduceAdd, nth, o_const, o_lconst, o_ref, o_iload, o_lload, o_aload, o_istore, o_lstore, o_astore, o_iinc, o_bin, o_div, o_un, o_lbin, o_lsh, o_lcmp, o_i2l, o_l2i, o_if, o_icmp, o_goto, o_dup, o_dup2, o_pop, fav, o_getf, o_putI, o_putZ, o_putL, o_ald, o_ast, o_alen, popn, rst, o_callV, o_callT, o_callS, swx, o_sw, o_ret, o_iret, o_zret, o_cret, o_lret, o_aret, lg, lput, lput2, ls1, isL, entL, wsum, rdI1, rdI2, rdA1, rdA21, rdA22, rdL1, rdL22, rdL21, upN_at, rep, sh_0, F_0_0, F_0_1, F_0_2, F_0_3, F_0_4, F_0_5, F_0_6, F_0_7, F_0_8, sh_1, F_1_0, F_1_1, F_1_2, F_1_3, F_1_4, F_1_5, sh_3, F_3_0, F_3_1, F_3_2, F_3_3, F_3_4, F_3_5, sh_5, F_5_0, F_5_1, F_5_2, F_5_3, F_5_4, F_5_5, F_5_6, F_5_7, F_5_8, sh_12, F_12_0, F_12_1, F_12_2, F_12_3, F_12_4, F_12_5, sh_14, F_14_0, F_14_1, F_14_2, F_14_3, F_14_4, F_14_5, F_14_6, F_14_7, F_14_8, sh_21, F_21_0, F_21_1, F_21_2, F_21_3, F_21_4, F_21_5, F_21_6, F_21_7, F_21_8, sh_28, F_28_0, F_28_1, F_28_2, F_28_3, F_28_4, F_28_5, F_28_6, F_28_7, F_28_8, sh_35, F_35_0, sh_39, F_39_0, F_39_1, F_39_2, F_39_3, F_39_4, F_39_5, F_39_6, F_39_7, F_39_8, F_39_9, F_39_10, F_39_11, F_39_12, F_39_13, A_2, A_4, A_6, A_7, A_8, A_9, A_10, A_11, A_13, A_15, A_16, A_17, A_18, A_19, A_20, A_22, A_23, A_24, A_25, A_26, A_27, A_29, A_30, A_31, A_32, A_33, A_34, A_36, A_37, A_38, A_40, A_41, A_42, A_43, A_44, A_45, A_46, A_47]
        refine ⟨fun _ => ?_, fun z => absurd rfl z⟩
        rw [hM2.1 2 (by omega), a2]
        exact hn _ he.symm _ (frH_D hf hM2)
      · rw [ev] at e
        rw [e] at he
        dsimp only at he
        have hP := tkP_ge t hpL
        have hgt := tkP_gt t hpL z2 (fun z4 => by rw [z4, stp_4] at e; cases e)
        have hd2 := stp_2 e
        have hf2 := frH_D hf hM2
        have ha2 := AT_D hM2 ⟨a1, a2, a3, a4⟩
        dsimp only [k_X0_hear_0, k_X0_hear_1, k_X0_hear_4, k_X0_hear_7, k_X0_hear_8, k_X0_hear_9, k_X0_hear_12, k_X0_hear_13, k_X0_hear_14, k_X0_hear_17, k_X0_hear_18, k_X0_hear_19, k_X0_hear_22, k_X0_hear_23, k_X0_hear_24, k_X0_hear_25, k_X0_hear_28, k_X0_hear_29, k_X0_hear_30, k_X0_hear_31, k_X0_hear_34, k_X0_hear_37, k_X0_hear_38, k_X0_hear_41, k_X0_hear_44, k_X0_hear_45, k_X0_hear_46, k_X0_hear_49, k_X0_hear_50, k_X0_hear_53, k_X0_hear_56, k_X0_hear_59, k_X0_hear_61, k_X0_hear_62, k_X0_hear_65, k_X0_hear_66, k_X0_hear_67, k_X0_hear_68, k_X0_hear_69, k_X0_hear_72, k_X0_hear_73, k_X0_hear_76, k_X0_hear_77, k_X0_hear_80, k_X0_hear_81, k_X0_hear_82, k_X0_hear_83, k_X0_hear_84, k_X0_hear_87, k_X0_hear_90, k_X0_hear_93, k_X0_hear_94, k_X0_hear_97, k_X0_hear_100, k_X0_hear_101, k_X0_hear_104, k_X0_hear_106, k_X0_hear_107, k_X0_hear_110, k_X0_hear_111, wp1, wp_s, cutIn, kont, Nat.reduceSub, Nat.reduceAdd, nth, o_const, o_lconst, o_ref, o_iload, o_lload, o_aload, o_istore, o_lstore, o_astore, o_iinc, o_bin, o_div, o_un, o_lbin, o_lsh, o_lcmp, o_i2l, o_l2i, o_if, o_icmp, o_goto, o_dup, o_dup2, o_pop, fav, o_getf, o_putI, o_putZ, o_putL, o_ald, o_ast, o_alen, popn, rst, o_callV, o_callT, o_callS, swx, o_sw, o_ret, o_iret, o_zret, o_cret, o_lret, o_aret, lg, lput, lput2, ls1, isL, entL, wsum, rdI1, rdI2, rdA1, rdA21, rdA22, rdL1, rdL22, rdL21, upN_at, rep, sh_0, F_0_0, F_0_1, F_0_2, F_0_3, F_0_4, F_0_5, F_0_6, F_0_7, F_0_8, sh_1, F_1_0, F_1_1, F_1_2, F_1_3, F_1_4, F_1_5, sh_3, F_3_0, F_3_1, F_3_2, F_3_3, F_3_4, F_3_5, sh_5, F_5_0, F_5_1, F_5_2, F_5_3, F_5_4, F_5_5, F_5_6, F_5_7, F_5_8, sh_12, F_12_0, F_12_1, F_12_2, F_12_3, F_12_4, F_12_5, sh_14, F_14_0, F_14_1, F_14_2, F_14_3, F_14_4, F_14_5, F_14_6, F_14_7, F_14_8, sh_21, F_21_0, F_21_1, F_21_2, F_21_3, F_21_4, F_21_5, F_21_6, F_21_7, F_21_8, sh_28, F_28_0, F_28_1, F_28_2, F_28_3, F_28_4, F_28_5, F_28_6, F_28_7, F_28_8, sh_35, F_35_0, sh_39, F_39_0, F_39_1, F_39_2, F_39_3, F_39_4, F_39_5, F_39_6, F_39_7, F_39_8, F_39_9, F_39_10, F_39_11, F_39_12, F_39_13, A_2, A_4, A_6, A_7, A_8, A_9, A_10, A_11, A_13, A_15, A_16, A_17, A_18, A_19, A_20, A_22, A_23, A_24, A_25, A_26, A_27, A_29, A_30, A_31, A_32, A_33, A_34, A_36, A_37, A_38, A_40, A_41, A_42, A_43, A_44, A_45, A_46, A_47]
        rw [ha2.2.2.1]
        refine ⟨fun z => absurd z (by decide), fun _ => ⟨fun z3 => ?_, fun z3 => ?_⟩⟩
        · rw [if_pos z3] at he
          refine ⟨L, t, tkP t L p, rfl, frH_TX hf2 hT, ha2.1, hP.2, ?_⟩
          dsimp only [k_X0_hear_0, k_X0_hear_1, k_X0_hear_4, k_X0_hear_7, k_X0_hear_8, k_X0_hear_9, k_X0_hear_12, k_X0_hear_13, k_X0_hear_14, k_X0_hear_17, k_X0_hear_18, k_X0_hear_19, k_X0_hear_22, k_X0_hear_23, k_X0_hear_24, k_X0_hear_25, k_X0_hear_28, k_X0_hear_29, k_X0_hear_30, k_X0_hear_31, k_X0_hear_34, k_X0_hear_37, k_X0_hear_38, k_X0_hear_41, k_X0_hear_44, k_X0_hear_45, k_X0_hear_46, k_X0_hear_49, k_X0_hear_50, k_X0_hear_53, k_X0_hear_56, k_X0_hear_59, k_X0_hear_61, k_X0_hear_62, k_X0_hear_65, k_X0_hear_66, k_X0_hear_67, k_X0_hear_68, k_X0_hear_69, k_X0_hear_72, k_X0_hear_73, k_X0_hear_76, k_X0_hear_77, k_X0_hear_80, k_X0_hear_81, k_X0_hear_82, k_X0_hear_83, k_X0_hear_84, k_X0_hear_87, k_X0_hear_90, k_X0_hear_93, k_X0_hear_94, k_X0_hear_97, k_X0_hear_100, k_X0_hear_101, k_X0_hear_104, k_X0_hear_106, k_X0_hear_107, k_X0_hear_110, k_X0_hear_111, wp1, wp_s, cutIn, kont, Nat.reduceSub, Nat.reduceAdd, nth, o_const, o_lconst, o_ref, o_iload, o_lload, o_aload, o_istore, o_lstore, o_astore, o_iinc, o_bin, o_div, o_un, o_lbin, o_lsh, o_lcmp, o_i2l, o_l2i, o_if, o_icmp, o_goto, o_dup, o_dup2, o_pop, fav, o_getf, o_putI, o_putZ, o_putL, o_ald, o_ast, o_alen, popn, rst, o_callV, o_callT, o_callS, swx, o_sw, o_ret, o_iret, o_zret, o_cret, o_lret, o_aret, lg, lput, lput2, ls1, isL, entL, wsum, rdI1, rdI2, rdA1, rdA21, rdA22, rdL1, rdL22, rdL21, upN_at, rep, sh_0, F_0_0, F_0_1, F_0_2, F_0_3, F_0_4, F_0_5, F_0_6, F_0_7, F_0_8, sh_1, F_1_0, F_1_1, F_1_2, F_1_3, F_1_4, F_1_5, sh_3, F_3_0, F_3_1, F_3_2, F_3_3, F_3_4, F_3_5, sh_5, F_5_0, F_5_1, F_5_2, F_5_3, F_5_4, F_5_5, F_5_6, F_5_7, F_5_8, sh_12, F_12_0, F_12_1, F_12_2, F_12_3, F_12_4, F_12_5, sh_14, F_14_0, F_14_1, F_14_2, F_14_3, F_14_4, F_14_5, F_14_6, F_14_7, F_14_8, sh_21, F_21_0, F_21_1, F_21_2, F_21_3, F_21_4, F_21_5, F_21_6, F_21_7, F_21_8, sh_28, F_28_0, F_28_1, F_28_2, F_28_3, F_28_4, F_28_5, F_28_6, F_28_7, F_28_8, sh_35, F_35_0, sh_39, F_39_0, F_39_1, F_39_2, F_39_3, F_39_4, F_39_5, F_39_6, F_39_7, F_39_8, F_39_9, F_39_10, F_39_11, F_39_12, F_39_13, A_2, A_4, A_6, A_7, A_8, A_9, A_10, A_11, A_13, A_15, A_16, A_17, A_18, A_19, A_20, A_22, A_23, A_24, A_25, A_26, A_27, A_29, A_30, A_31, A_32, A_33, A_34, A_36, A_37, A_38, A_40, A_41, A_42, A_43, A_44, A_45, A_46, A_47]
          refine cut _ _ ⟨rfl, frH_I (frH_I (frH_I (frH_I hf2 (by omega) _) (by omega) _) (by omega) _) (by omega) _, ?_, j + 1, tkP t L p, x.1, x.2.1, upd x.2.2 2 (x.2.2 2 + 1), _, by omega, by omega, hP.2, ?_, ⟨rfl, rfl, rfl, rfl⟩, hw2, hx5, hq2, ?_, rfl, Or.inl ⟨rfl, rfl⟩⟩ (by omega) ⟨rfl, rfl, ?_, vi_eq (nI_1 _), trivial⟩
          · rw [← hk0]; exact hM2.1 17 (by omega)
          · obtain ⟨c, p', n, hc, hp', hn8, e0, e1, e3, m12, m13, m16, hl, hk, hz⟩ := hD2
            refine ⟨c, p', n, hc, hp', hn8, ?_, ?_, ?_, m12, m13, m16, fun l hl2 => ?_, fun k2 hk2 => ?_, fun k2 hk2 hk3 => ?_⟩
            all_goals simp (disch := omega) only [upd_s, upd_n]
            · exact e0
            · exact e1
            · exact e3
            · exact hl l hl2
            · exact hk k2 hk2
            · exact hz k2 hk2 hk3
          · rw [show 301 - (j + 1) = 300 - j by omega]; exact he
          · rw [upd_s, hd2]
        · rw [if_neg z3] at he
          refine ⟨L, t, tkP t L p, rfl, frH_TX hf2 hT, ha2.1, hP.2, ?_⟩
          dsimp only [k_X0_hear_0, k_X0_hear_1, k_X0_hear_4, k_X0_hear_7, k_X0_hear_8, k_X0_hear_9, k_X0_hear_12, k_X0_hear_13, k_X0_hear_14, k_X0_hear_17, k_X0_hear_18, k_X0_hear_19, k_X0_hear_22, k_X0_hear_23, k_X0_hear_24, k_X0_hear_25, k_X0_hear_28, k_X0_hear_29, k_X0_hear_30, k_X0_hear_31, k_X0_hear_34, k_X0_hear_37, k_X0_hear_38, k_X0_hear_41, k_X0_hear_44, k_X0_hear_45, k_X0_hear_46, k_X0_hear_49, k_X0_hear_50, k_X0_hear_53, k_X0_hear_56, k_X0_hear_59, k_X0_hear_61, k_X0_hear_62, k_X0_hear_65, k_X0_hear_66, k_X0_hear_67, k_X0_hear_68, k_X0_hear_69, k_X0_hear_72, k_X0_hear_73, k_X0_hear_76, k_X0_hear_77, k_X0_hear_80, k_X0_hear_81, k_X0_hear_82, k_X0_hear_83, k_X0_hear_84, k_X0_hear_87, k_X0_hear_90, k_X0_hear_93, k_X0_hear_94, k_X0_hear_97, k_X0_hear_100, k_X0_hear_101, k_X0_hear_104, k_X0_hear_106, k_X0_hear_107, k_X0_hear_110, k_X0_hear_111, wp1, wp_s, cutIn, kont, Nat.reduceSub, Nat.reduceAdd, nth, o_const, o_lconst, o_ref, o_iload, o_lload, o_aload, o_istore, o_lstore, o_astore, o_iinc, o_bin, o_div, o_un, o_lbin, o_lsh, o_lcmp, o_i2l, o_l2i, o_if, o_icmp, o_goto, o_dup, o_dup2, o_pop, fav, o_getf, o_putI, o_putZ, o_putL, o_ald, o_ast, o_alen, popn, rst, o_callV, o_callT, o_callS, swx, o_sw, o_ret, o_iret, o_zret, o_cret, o_lret, o_aret, lg, lput, lput2, ls1, isL, entL, wsum, rdI1, rdI2, rdA1, rdA21, rdA22, rdL1, rdL22, rdL21, upN_at, rep, sh_0, F_0_0, F_0_1, F_0_2, F_0_3, F_0_4, F_0_5, F_0_6, F_0_7, F_0_8, sh_1, F_1_0, F_1_1, F_1_2, F_1_3, F_1_4, F_1_5, sh_3, F_3_0, F_3_1, F_3_2, F_3_3, F_3_4, F_3_5, sh_5, F_5_0, F_5_1, F_5_2, F_5_3, F_5_4, F_5_5, F_5_6, F_5_7, F_5_8, sh_12, F_12_0, F_12_1, F_12_2, F_12_3, F_12_4, F_12_5, sh_14, F_14_0, F_14_1, F_14_2, F_14_3, F_14_4, F_14_5, F_14_6, F_14_7, F_14_8, sh_21, F_21_0, F_21_1, F_21_2, F_21_3, F_21_4, F_21_5, F_21_6, F_21_7, F_21_8, sh_28, F_28_0, F_28_1, F_28_2, F_28_3, F_28_4, F_28_5, F_28_6, F_28_7, F_28_8, sh_35, F_35_0, sh_39, F_39_0, F_39_1, F_39_2, F_39_3, F_39_4, F_39_5, F_39_6, F_39_7, F_39_8, F_39_9, F_39_10, F_39_11, F_39_12, F_39_13, A_2, A_4, A_6, A_7, A_8, A_9, A_10, A_11, A_13, A_15, A_16, A_17, A_18, A_19, A_20, A_22, A_23, A_24, A_25, A_26, A_27, A_29, A_30, A_31, A_32, A_33, A_34, A_36, A_37, A_38, A_40, A_41, A_42, A_43, A_44, A_45, A_46, A_47]
          refine cut _ _ ⟨rfl, frH_I (frH_I (frH_I (frH_I hf2 (by omega) _) (by omega) _) (by omega) _) (by omega) _, ?_, j + 1, tkP t L p, x.1, x.2.1, x.2.2, _, by omega, by omega, hP.2, hD2, ⟨rfl, rfl, rfl, rfl⟩, hw2, hx5, hq2, ?_, rfl, Or.inl ⟨rfl, rfl⟩⟩ (by omega) ⟨rfl, rfl, vi_eq (by rw [hd2, Int32.add_zero]), vi_eq (nI_1 _), trivial⟩
          · rw [← hk0]; exact hM2.1 17 (by omega)
          · rw [show 301 - (j + 1) = 300 - j by omega]; exact he
    · rw [show 301 - j = (300 - j) + 1 by omega, prs, if_pos hK] at he
      dsimp only [k_X0_hear_0, k_X0_hear_1, k_X0_hear_4, k_X0_hear_7, k_X0_hear_8, k_X0_hear_9, k_X0_hear_12, k_X0_hear_13, k_X0_hear_14, k_X0_hear_17, k_X0_hear_18, k_X0_hear_19, k_X0_hear_22, k_X0_hear_23, k_X0_hear_24, k_X0_hear_25, k_X0_hear_28, k_X0_hear_29, k_X0_hear_30, k_X0_hear_31, k_X0_hear_34, k_X0_hear_37, k_X0_hear_38, k_X0_hear_41, k_X0_hear_44, k_X0_hear_45, k_X0_hear_46, k_X0_hear_49, k_X0_hear_50, k_X0_hear_53, k_X0_hear_56, k_X0_hear_59, k_X0_hear_61, k_X0_hear_62, k_X0_hear_65, k_X0_hear_66, k_X0_hear_67, k_X0_hear_68, k_X0_hear_69, k_X0_hear_72, k_X0_hear_73, k_X0_hear_76, k_X0_hear_77, k_X0_hear_80, k_X0_hear_81, k_X0_hear_82, k_X0_hear_83, k_X0_hear_84, k_X0_hear_87, k_X0_hear_90, k_X0_hear_93, k_X0_hear_94, k_X0_hear_97, k_X0_hear_100, k_X0_hear_101, k_X0_hear_104, k_X0_hear_106, k_X0_hear_107, k_X0_hear_110, k_X0_hear_111, wp1, wp_s, cutIn, kont, Nat.reduceSub, Nat.reduceAdd, nth, o_const, o_lconst, o_ref, o_iload, o_lload, o_aload, o_istore, o_lstore, o_astore, o_iinc, o_bin, o_div, o_un, o_lbin, o_lsh, o_lcmp, o_i2l, o_l2i, o_if, o_icmp, o_goto, o_dup, o_dup2, o_pop, fav, o_getf, o_putI, o_putZ, o_putL, o_ald, o_ast, o_alen, popn, rst, o_callV, o_callT, o_callS, swx, o_sw, o_ret, o_iret, o_zret, o_cret, o_lret, o_aret, lg, lput, lput2, ls1, isL, entL, wsum, rdI1, rdI2, rdA1, rdA21, rdA22, rdL1, rdL22, rdL21, upN_at, rep, sh_0, F_0_0, F_0_1, F_0_2, F_0_3, F_0_4, F_0_5, F_0_6, F_0_7, F_0_8, sh_1, F_1_0, F_1_1, F_1_2, F_1_3, F_1_4, F_1_5, sh_3, F_3_0, F_3_1, F_3_2, F_3_3, F_3_4, F_3_5, sh_5, F_5_0, F_5_1, F_5_2, F_5_3, F_5_4, F_5_5, F_5_6, F_5_7, F_5_8, sh_12, F_12_0, F_12_1, F_12_2, F_12_3, F_12_4, F_12_5, sh_14, F_14_0, F_14_1, F_14_2, F_14_3, F_14_4, F_14_5, F_14_6, F_14_7, F_14_8, sh_21, F_21_0, F_21_1, F_21_2, F_21_3, F_21_4, F_21_5, F_21_6, F_21_7, F_21_8, sh_28, F_28_0, F_28_1, F_28_2, F_28_3, F_28_4, F_28_5, F_28_6, F_28_7, F_28_8, sh_35, F_35_0, sh_39, F_39_0, F_39_1, F_39_2, F_39_3, F_39_4, F_39_5, F_39_6, F_39_7, F_39_8, F_39_9, F_39_10, F_39_11, F_39_12, F_39_13, A_2, A_4, A_6, A_7, A_8, A_9, A_10, A_11, A_13, A_15, A_16, A_17, A_18, A_19, A_20, A_22, A_23, A_24, A_25, A_26, A_27, A_29, A_30, A_31, A_32, A_33, A_34, A_36, A_37, A_38, A_40, A_41, A_42, A_43, A_44, A_45, A_46, A_47]
      rw [hw, show (0 : Int32) = nI 0 from rfl]
      simp (disch := omega) only [nI_leI, nI_ltI, nI_eq, nI_1, nI_add, one_shl, nI_or, nI_xor, nI_and, bit_0, bit_1, true_or, or_true, true_and, and_true, eq_self, not_true_eq_false, not_false_eq_true, forall_const]
      refine ⟨fun z => ?_, fun z => ?_⟩
      · rw [if_pos z] at he
        exact hs d he.symm M' hf hD hk0
      · rw [if_neg z] at he
        rw [a2]
        exact hn _ he.symm M' hf
  · dsimp only [k_X0_hear_0, k_X0_hear_1, k_X0_hear_4, k_X0_hear_7, k_X0_hear_8, k_X0_hear_9, k_X0_hear_12, k_X0_hear_13, k_X0_hear_14, k_X0_hear_17, k_X0_hear_18, k_X0_hear_19, k_X0_hear_22, k_X0_hear_23, k_X0_hear_24, k_X0_hear_25, k_X0_hear_28, k_X0_hear_29, k_X0_hear_30, k_X0_hear_31, k_X0_hear_34, k_X0_hear_37, k_X0_hear_38, k_X0_hear_41, k_X0_hear_44, k_X0_hear_45, k_X0_hear_46, k_X0_hear_49, k_X0_hear_50, k_X0_hear_53, k_X0_hear_56, k_X0_hear_59, k_X0_hear_61, k_X0_hear_62, k_X0_hear_65, k_X0_hear_66, k_X0_hear_67, k_X0_hear_68, k_X0_hear_69, k_X0_hear_72, k_X0_hear_73, k_X0_hear_76, k_X0_hear_77, k_X0_hear_80, k_X0_hear_81, k_X0_hear_82, k_X0_hear_83, k_X0_hear_84, k_X0_hear_87, k_X0_hear_90, k_X0_hear_93, k_X0_hear_94, k_X0_hear_97, k_X0_hear_100, k_X0_hear_101, k_X0_hear_104, k_X0_hear_106, k_X0_hear_107, k_X0_hear_110, k_X0_hear_111, wp1, wp_s, cutIn, kont, Nat.reduceSub, Nat.reduceAdd, nth, o_const, o_lconst, o_ref, o_iload, o_lload, o_aload, o_istore, o_lstore, o_astore, o_iinc, o_bin, o_div, o_un, o_lbin, o_lsh, o_lcmp, o_i2l, o_l2i, o_if, o_icmp, o_goto, o_dup, o_dup2, o_pop, fav, o_getf, o_putI, o_putZ, o_putL, o_ald, o_ast, o_alen, popn, rst, o_callV, o_callT, o_callS, swx, o_sw, o_ret, o_iret, o_zret, o_cret, o_lret, o_aret, lg, lput, lput2, ls1, isL, entL, wsum, rdI1, rdI2, rdA1, rdA21, rdA22, rdL1, rdL22, rdL21, upN_at, rep, sh_0, F_0_0, F_0_1, F_0_2, F_0_3, F_0_4, F_0_5, F_0_6, F_0_7, F_0_8, sh_1, F_1_0, F_1_1, F_1_2, F_1_3, F_1_4, F_1_5, sh_3, F_3_0, F_3_1, F_3_2, F_3_3, F_3_4, F_3_5, sh_5, F_5_0, F_5_1, F_5_2, F_5_3, F_5_4, F_5_5, F_5_6, F_5_7, F_5_8, sh_12, F_12_0, F_12_1, F_12_2, F_12_3, F_12_4, F_12_5, sh_14, F_14_0, F_14_1, F_14_2, F_14_3, F_14_4, F_14_5, F_14_6, F_14_7, F_14_8, sh_21, F_21_0, F_21_1, F_21_2, F_21_3, F_21_4, F_21_5, F_21_6, F_21_7, F_21_8, sh_28, F_28_0, F_28_1, F_28_2, F_28_3, F_28_4, F_28_5, F_28_6, F_28_7, F_28_8, sh_35, F_35_0, sh_39, F_39_0, F_39_1, F_39_2, F_39_3, F_39_4, F_39_5, F_39_6, F_39_7, F_39_8, F_39_9, F_39_10, F_39_11, F_39_12, F_39_13, A_2, A_4, A_6, A_7, A_8, A_9, A_10, A_11, A_13, A_15, A_16, A_17, A_18, A_19, A_20, A_22, A_23, A_24, A_25, A_26, A_27, A_29, A_30, A_31, A_32, A_33, A_34, A_36, A_37, A_38, A_40, A_41, A_42, A_43, A_44, A_45, A_46, A_47]
    refine ⟨rfl, ?_⟩
    dsimp only [k_X0_hear_0, k_X0_hear_1, k_X0_hear_4, k_X0_hear_7, k_X0_hear_8, k_X0_hear_9, k_X0_hear_12, k_X0_hear_13, k_X0_hear_14, k_X0_hear_17, k_X0_hear_18, k_X0_hear_19, k_X0_hear_22, k_X0_hear_23, k_X0_hear_24, k_X0_hear_25, k_X0_hear_28, k_X0_hear_29, k_X0_hear_30, k_X0_hear_31, k_X0_hear_34, k_X0_hear_37, k_X0_hear_38, k_X0_hear_41, k_X0_hear_44, k_X0_hear_45, k_X0_hear_46, k_X0_hear_49, k_X0_hear_50, k_X0_hear_53, k_X0_hear_56, k_X0_hear_59, k_X0_hear_61, k_X0_hear_62, k_X0_hear_65, k_X0_hear_66, k_X0_hear_67, k_X0_hear_68, k_X0_hear_69, k_X0_hear_72, k_X0_hear_73, k_X0_hear_76, k_X0_hear_77, k_X0_hear_80, k_X0_hear_81, k_X0_hear_82, k_X0_hear_83, k_X0_hear_84, k_X0_hear_87, k_X0_hear_90, k_X0_hear_93, k_X0_hear_94, k_X0_hear_97, k_X0_hear_100, k_X0_hear_101, k_X0_hear_104, k_X0_hear_106, k_X0_hear_107, k_X0_hear_110, k_X0_hear_111, wp1, wp_s, cutIn, kont, Nat.reduceSub, Nat.reduceAdd, nth, o_const, o_lconst, o_ref, o_iload, o_lload, o_aload, o_istore, o_lstore, o_astore, o_iinc, o_bin, o_div, o_un, o_lbin, o_lsh, o_lcmp, o_i2l, o_l2i, o_if, o_icmp, o_goto, o_dup, o_dup2, o_pop, fav, o_getf, o_putI, o_putZ, o_putL, o_ald, o_ast, o_alen, popn, rst, o_callV, o_callT, o_callS, swx, o_sw, o_ret, o_iret, o_zret, o_cret, o_lret, o_aret, lg, lput, lput2, ls1, isL, entL, wsum, rdI1, rdI2, rdA1, rdA21, rdA22, rdL1, rdL22, rdL21, upN_at, rep, sh_0, F_0_0, F_0_1, F_0_2, F_0_3, F_0_4, F_0_5, F_0_6, F_0_7, F_0_8, sh_1, F_1_0, F_1_1, F_1_2, F_1_3, F_1_4, F_1_5, sh_3, F_3_0, F_3_1, F_3_2, F_3_3, F_3_4, F_3_5, sh_5, F_5_0, F_5_1, F_5_2, F_5_3, F_5_4, F_5_5, F_5_6, F_5_7, F_5_8, sh_12, F_12_0, F_12_1, F_12_2, F_12_3, F_12_4, F_12_5, sh_14, F_14_0, F_14_1, F_14_2, F_14_3, F_14_4, F_14_5, F_14_6, F_14_7, F_14_8, sh_21, F_21_0, F_21_1, F_21_2, F_21_3, F_21_4, F_21_5, F_21_6, F_21_7, F_21_8, sh_28, F_28_0, F_28_1, F_28_2, F_28_3, F_28_4, F_28_5, F_28_6, F_28_7, F_28_8, sh_35, F_35_0, sh_39, F_39_0, F_39_1, F_39_2, F_39_3, F_39_4, F_39_5, F_39_6, F_39_7, F_39_8, F_39_9, F_39_10, F_39_11, F_39_12, F_39_13, A_2, A_4, A_6, A_7, A_8, A_9, A_10, A_11, A_13, A_15, A_16, A_17, A_18, A_19, A_20, A_22, A_23, A_24, A_25, A_26, A_27, A_29, A_30, A_31, A_32, A_33, A_34, A_36, A_37, A_38, A_40, A_41, A_42, A_43, A_44, A_45, A_46, A_47]
    refine ⟨L, t, rfl, hT, ?_⟩
    dsimp only [k_X0_hear_0, k_X0_hear_1, k_X0_hear_4, k_X0_hear_7, k_X0_hear_8, k_X0_hear_9, k_X0_hear_12, k_X0_hear_13, k_X0_hear_14, k_X0_hear_17, k_X0_hear_18, k_X0_hear_19, k_X0_hear_22, k_X0_hear_23, k_X0_hear_24, k_X0_hear_25, k_X0_hear_28, k_X0_hear_29, k_X0_hear_30, k_X0_hear_31, k_X0_hear_34, k_X0_hear_37, k_X0_hear_38, k_X0_hear_41, k_X0_hear_44, k_X0_hear_45, k_X0_hear_46, k_X0_hear_49, k_X0_hear_50, k_X0_hear_53, k_X0_hear_56, k_X0_hear_59, k_X0_hear_61, k_X0_hear_62, k_X0_hear_65, k_X0_hear_66, k_X0_hear_67, k_X0_hear_68, k_X0_hear_69, k_X0_hear_72, k_X0_hear_73, k_X0_hear_76, k_X0_hear_77, k_X0_hear_80, k_X0_hear_81, k_X0_hear_82, k_X0_hear_83, k_X0_hear_84, k_X0_hear_87, k_X0_hear_90, k_X0_hear_93, k_X0_hear_94, k_X0_hear_97, k_X0_hear_100, k_X0_hear_101, k_X0_hear_104, k_X0_hear_106, k_X0_hear_107, k_X0_hear_110, k_X0_hear_111, wp1, wp_s, cutIn, kont, Nat.reduceSub, Nat.reduceAdd, nth, o_const, o_lconst, o_ref, o_iload, o_lload, o_aload, o_istore, o_lstore, o_astore, o_iinc, o_bin, o_div, o_un, o_lbin, o_lsh, o_lcmp, o_i2l, o_l2i, o_if, o_icmp, o_goto, o_dup, o_dup2, o_pop, fav, o_getf, o_putI, o_putZ, o_putL, o_ald, o_ast, o_alen, popn, rst, o_callV, o_callT, o_callS, swx, o_sw, o_ret, o_iret, o_zret, o_cret, o_lret, o_aret, lg, lput, lput2, ls1, isL, entL, wsum, rdI1, rdI2, rdA1, rdA21, rdA22, rdL1, rdL22, rdL21, upN_at, rep, sh_0, F_0_0, F_0_1, F_0_2, F_0_3, F_0_4, F_0_5, F_0_6, F_0_7, F_0_8, sh_1, F_1_0, F_1_1, F_1_2, F_1_3, F_1_4, F_1_5, sh_3, F_3_0, F_3_1, F_3_2, F_3_3, F_3_4, F_3_5, sh_5, F_5_0, F_5_1, F_5_2, F_5_3, F_5_4, F_5_5, F_5_6, F_5_7, F_5_8, sh_12, F_12_0, F_12_1, F_12_2, F_12_3, F_12_4, F_12_5, sh_14, F_14_0, F_14_1, F_14_2, F_14_3, F_14_4, F_14_5, F_14_6, F_14_7, F_14_8, sh_21, F_21_0, F_21_1, F_21_2, F_21_3, F_21_4, F_21_5, F_21_6, F_21_7, F_21_8, sh_28, F_28_0, F_28_1, F_28_2, F_28_3, F_28_4, F_28_5, F_28_6, F_28_7, F_28_8, sh_35, F_35_0, sh_39, F_39_0, F_39_1, F_39_2, F_39_3, F_39_4, F_39_5, F_39_6, F_39_7, F_39_8, F_39_9, F_39_10, F_39_11, F_39_12, F_39_13, A_2, A_4, A_6, A_7, A_8, A_9, A_10, A_11, A_13, A_15, A_16, A_17, A_18, A_19, A_20, A_22, A_23, A_24, A_25, A_26, A_27, A_29, A_30, A_31, A_32, A_33, A_34, A_36, A_37, A_38, A_40, A_41, A_42, A_43, A_44, A_45, A_46, A_47]
    exact cut _ _ ⟨rfl, frH_I (frH_I (frH_I (frH_I (frH_I (frH_I (frH_I (frH_I (frH_I (frH_rf M) (by omega) _) (by omega) _) (by omega) _) (by omega) _) (by omega) _) (by omega) _) (by omega) _) (by omega) _) (by omega) _, rfl, 0, 0, 0, 0, d0, _, by omega, by omega, by omega, ⟨0, 0, 0, by omega, by omega, by omega, rfl, rfl, rfl, rfl, rfl, rfl, fun l hl => absurd hl (by omega), fun k hk => absurd hk (by omega), (fun k _ hk => by unfold d0; rw [if_pos (by omega)])⟩, ⟨rfl, rfl, rfl, rfl⟩, rfl, by omega, (fun z => by cases z), rfl, rfl, Or.inl ⟨rfl, rfl⟩⟩ (by omega) ⟨rfl, rfl, rfl, rfl, trivial⟩
theorem c_X0_hear : Ctr yX0_hear cX0_hear 4 (some .int) ({ frames := 8, cells := 0, slots := 0, locals := 168 } : Room) S_X0_hear := ctr_of (T := T_X0_hear) (by decide +kernel) (fun post C hr => t_X0_hear post C hr) v_X0_hear
