/-! The model reads a text. -/
/-- all but the token at hand and the draft stays -/
def frM (M M' : AM) : Prop := (∀ i, ¬ (26 ≤ i ∧ i ≤ 29) → M'.1 i = M.1 i) ∧ M'.2.1 = M.2.1 ∧ ∀ a, a ≠ 32 → M'.2.2 a = M.2.2 a
theorem frM_rf (M : AM) : frM M M := ⟨fun _ _ => rfl, rfl, fun _ _ => rfl⟩
theorem frM_I {M M' : AM} (h : frM M M') {i : Nat} (hi : 26 ≤ i ∧ i ≤ 29) (x : Int32) : frM M (sI i x M') :=
  ⟨fun j hj => by
    rw [rdI1, upN_n _ _ (fun e => hj (by rw [e]; exact hi))]
    exact h.1 j hj, h.2.1, h.2.2⟩
theorem frM_A {M M' : AM} (h : frM M M') (f : Nat → Int32) : frM M (sA 32 f M') :=
  ⟨h.1, h.2.1, fun b hb => by
    rw [rdA22, upN_n _ _ hb]
    exact h.2.2 b hb⟩
theorem frM_N {M M' : AM} (h : frM M M') (t : Nat → Nat) (L p : Nat) : frM M (tkN t L p M') := frM_I (frM_I (frM_I (frM_I h (by omega) _) (by omega) _) (by omega) _) (by omega) _
theorem frM_tr {M M' M2 : AM} (h : frM M M') (h2 : frM M' M2) : frM M M2 :=
  ⟨fun i hi => by rw [h2.1 i hi]; exact h.1 i hi, by rw [h2.2.1]; exact h.2.1, fun a ha => by rw [h2.2.2 a ha]; exact h.2.2 a ha⟩
theorem frM_TT {M M' : AM} (h : frM M M') {L : Nat} {t : Nat → Nat} (hT : TT M L t) : TT M' L t := TT_of hT (h.1 25 (by omega)) (h.2.2 30 (by omega))
/-- the draft tells d -/
def DM (M : AM) (d : Nat → Int32) : Prop := (∀ k, k < 28 → M.2.2 32 k = d k) ∧ ∃ c p n, c ≤ 6 ∧ p ≤ 4 ∧ n ≤ 8 ∧ d 0 = nI c ∧ d 1 = nI p ∧ d 3 = nI n
theorem DM_of {M M' : AM} {d : Nat → Int32} (h : DM M d) (e : M'.2.2 32 = M.2.2 32) : DM M' d := by
  unfold DM at h ⊢
  rw [e]; exact h
theorem upd_cg {f d : Nat → Int32} {m : Nat} (h : ∀ k, k < m → f k = d k) (i : Nat) (x : Int32) : ∀ k, k < m → upd f i x k = upd d i x k := by
  intro k hk
  by_cases e : k = i
  · rw [e, upd_s, upd_s]
  · rw [upd_n _ _ e, upd_n _ _ e]; exact h k hk
def S_X5_readsHolds : SP := fun as M post => ∃ L t p q d, as = [VR 39] ∧ TT M L t ∧ M.1 26 = nI p ∧ p ≤ L ∧ DM M d ∧
  (∀ s, PR t L p 4 q d = .inl s → ∀ M', frM M M' → M'.1 28 = nI s → post (some (VI 0)) M') ∧
  (∀ p2 q2 d2, p < p2 → p2 ≤ L → PR t L p 4 q d = PR t L p2 1 q2 d2 → ∀ M', frM M M' → M'.1 26 = nI p2 → DM M' d2 → post (some (VI 1)) M')
def S_X5_readsItem : SP := fun as M post => ∃ L t p q d M0, as = [VR 39, VI (vbV t L (tkS t L p) (tkE t L p))] ∧ TT M0 L t ∧ p ≤ L ∧ M = tkN t L p M0 ∧ DM M0 d ∧ tkK t L p ≠ 0 ∧
  (∀ s, PR t L p 0 q d = .inl s → ∀ M', frM M M' → M'.1 28 = nI s → post (some (VI 0)) M') ∧
  (∀ p2 q2 d2, p < p2 → p2 ≤ L → PR t L p 0 q d = PR t L p2 1 q2 d2 → ∀ M', frM M M' → M'.1 26 = nI p2 → DM M' d2 → post (some (VI 1)) M')
def S_X5_reads : SP := fun as M post => ∃ L t, as = [VR 39] ∧ TT M L t ∧ (∀ s, prs t L 301 0 0 0 d0 = .inl s → ∀ M', frM M M' → M'.1 28 = nI s → post (some (VI 0)) M') ∧ (∀ d, prs t L 301 0 0 0 d0 = .inr d → ∀ M', frM M M' → DM M' d → post (some (VI 1)) M')
theorem fl_RX5_16 : Cond.fieldLink RX5 16 (TX5 4).1 (TX5 4).2.1 (TX5 4).2.2.1 ∈ tb := tb_of 637 (by decide +kernel) (by decide +kernel)
theorem cw_RX5_77 : ∀ w ∈ ([.methodLink RX5 77 yX5_number, .instanceMethod yX5_number, .selects yX5_number.cls yX5_number yX5_number, .initialized yX5_number.cls, .code yX5_number cX5_number 3 (some .int)] : List Cond), w ∈ tb := tb_all [724, 726, 36, 59, 727] (by decide +kernel) (by decide +kernel)
theorem dX5_readsHolds_0 : decode cX5_readsHolds 0 = .ok (.aload_n 0, 1) := by decide +kernel
theorem dX5_readsHolds_1 : decode cX5_readsHolds 1 = .ok (.aload_n 0, 1) := by decide +kernel
theorem dX5_readsHolds_2 : decode cX5_readsHolds 2 = .ok (.getfield 16, 3) := by decide +kernel
theorem dX5_readsHolds_5 : decode cX5_readsHolds 5 = .ok (.iconst 1, 1) := by decide +kernel
theorem dX5_readsHolds_6 : decode cX5_readsHolds 6 = .ok (.iaload, 1) := by decide +kernel
theorem dX5_readsHolds_7 : decode cX5_readsHolds 7 = .ok (.invokevirtual 77, 3) := by decide +kernel
theorem dX5_readsHolds_10 : decode cX5_readsHolds 10 = .ok (.istore_n 1, 1) := by decide +kernel
theorem dX5_readsHolds_11 : decode cX5_readsHolds 11 = .ok (.iload_n 1, 1) := by decide +kernel
theorem dX5_readsHolds_12 : decode cX5_readsHolds 12 = .ok (.bipush (-9), 2) := by decide +kernel
theorem dX5_readsHolds_14 : decode cX5_readsHolds 14 = .ok (.if_icmp .ne 5, 3) := by decide +kernel
theorem dX5_readsHolds_17 : decode cX5_readsHolds 17 = .ok (.iconst 0, 1) := by decide +kernel
theorem dX5_readsHolds_18 : decode cX5_readsHolds 18 = .ok (.ireturn, 1) := by decide +kernel
theorem dX5_readsHolds_19 : decode cX5_readsHolds 19 = .ok (.aload_n 0, 1) := by decide +kernel
theorem dX5_readsHolds_20 : decode cX5_readsHolds 20 = .ok (.aload_n 0, 1) := by decide +kernel
theorem dX5_readsHolds_21 : decode cX5_readsHolds 21 = .ok (.getfield 16, 3) := by decide +kernel
theorem dX5_readsHolds_24 : decode cX5_readsHolds 24 = .ok (.iconst 3, 1) := by decide +kernel
theorem dX5_readsHolds_25 : decode cX5_readsHolds 25 = .ok (.iaload, 1) := by decide +kernel
theorem dX5_readsHolds_26 : decode cX5_readsHolds 26 = .ok (.invokevirtual 77, 3) := by decide +kernel
theorem dX5_readsHolds_29 : decode cX5_readsHolds 29 = .ok (.istore_n 2, 1) := by decide +kernel
theorem dX5_readsHolds_30 : decode cX5_readsHolds 30 = .ok (.iload_n 2, 1) := by decide +kernel
theorem dX5_readsHolds_31 : decode cX5_readsHolds 31 = .ok (.bipush (-9), 2) := by decide +kernel
theorem dX5_readsHolds_33 : decode cX5_readsHolds 33 = .ok (.if_icmp .eq 17, 3) := by decide +kernel
theorem dX5_readsHolds_36 : decode cX5_readsHolds 36 = .ok (.aload_n 0, 1) := by decide +kernel
theorem dX5_readsHolds_37 : decode cX5_readsHolds 37 = .ok (.getfield 16, 3) := by decide +kernel
theorem dX5_readsHolds_40 : decode cX5_readsHolds 40 = .ok (.bipush 18, 2) := by decide +kernel
theorem dX5_readsHolds_42 : decode cX5_readsHolds 42 = .ok (.iload_n 2, 1) := by decide +kernel
theorem dX5_readsHolds_43 : decode cX5_readsHolds 43 = .ok (.iadd, 1) := by decide +kernel
theorem dX5_readsHolds_44 : decode cX5_readsHolds 44 = .ok (.iaload, 1) := by decide +kernel
theorem dX5_readsHolds_45 : decode cX5_readsHolds 45 = .ok (.bipush (-4), 2) := by decide +kernel
theorem dX5_readsHolds_47 : decode cX5_readsHolds 47 = .ok (.if_icmp .eq 5, 3) := by decide +kernel
theorem dX5_readsHolds_50 : decode cX5_readsHolds 50 = .ok (.iconst 0, 1) := by decide +kernel
theorem dX5_readsHolds_51 : decode cX5_readsHolds 51 = .ok (.ireturn, 1) := by decide +kernel
theorem dX5_readsHolds_52 : decode cX5_readsHolds 52 = .ok (.aload_n 0, 1) := by decide +kernel
theorem dX5_readsHolds_53 : decode cX5_readsHolds 53 = .ok (.getfield 16, 3) := by decide +kernel
theorem dX5_readsHolds_56 : decode cX5_readsHolds 56 = .ok (.bipush 18, 2) := by decide +kernel
theorem dX5_readsHolds_58 : decode cX5_readsHolds 58 = .ok (.iload_n 2, 1) := by decide +kernel
theorem dX5_readsHolds_59 : decode cX5_readsHolds 59 = .ok (.iadd, 1) := by decide +kernel
theorem dX5_readsHolds_60 : decode cX5_readsHolds 60 = .ok (.iload_n 1, 1) := by decide +kernel
theorem dX5_readsHolds_61 : decode cX5_readsHolds 61 = .ok (.iastore, 1) := by decide +kernel
theorem dX5_readsHolds_62 : decode cX5_readsHolds 62 = .ok (.iconst 1, 1) := by decide +kernel
theorem dX5_readsHolds_63 : decode cX5_readsHolds 63 = .ok (.ireturn, 1) := by decide +kernel
def T_X5_readsHolds (post : PO) : List (Nat × OP) := [(0, o_aload 0 1), (1, o_aload 0 2), (2, o_getf 5 4 5), (5, o_const 1 6), (6, o_ald 0 7), (7, o_callV 5 S_X5_number 1 10), (10, o_istore 1 11), (11, o_iload 1 12), (12, o_const (-9) 14), (14, o_icmp (fun x y => x = y) 17 19), (17, o_const 0 18), (18, o_zret post), (19, o_aload 0 20), (20, o_aload 0 21), (21, o_getf 5 4 24), (24, o_const 3 25), (25, o_ald 0 26), (26, o_callV 5 S_X5_number 1 29), (29, o_istore 2 30), (30, o_iload 2 31), (31, o_const (-9) 33), (33, o_icmp (fun x y => x = y) 50 36), (36, o_aload 0 37), (37, o_getf 5 4 40), (40, o_const 18 42), (42, o_iload 2 43), (43, o_bin (fun x y => x + y) 44), (44, o_ald 0 45), (45, o_const (-4) 47), (47, o_icmp (fun x y => x = y) 52 50), (50, o_const 0 51), (51, o_zret post), (52, o_aload 0 53), (53, o_getf 5 4 56), (56, o_const 18 58), (58, o_iload 2 59), (59, o_bin (fun x y => x + y) 60), (60, o_iload 1 61), (61, o_ast 0 (fun x => x) 62), (62, o_const 1 63), (63, o_zret post)]
theorem k_X5_readsHolds_0 (post : PO) : lk (T_X5_readsHolds post) 0 = o_aload 0 1 := rfl
theorem k_X5_readsHolds_1 (post : PO) : lk (T_X5_readsHolds post) 1 = o_aload 0 2 := rfl
theorem k_X5_readsHolds_2 (post : PO) : lk (T_X5_readsHolds post) 2 = o_getf 5 4 5 := rfl
theorem k_X5_readsHolds_5 (post : PO) : lk (T_X5_readsHolds post) 5 = o_const 1 6 := rfl
theorem k_X5_readsHolds_6 (post : PO) : lk (T_X5_readsHolds post) 6 = o_ald 0 7 := rfl
theorem k_X5_readsHolds_7 (post : PO) : lk (T_X5_readsHolds post) 7 = o_callV 5 S_X5_number 1 10 := rfl
theorem k_X5_readsHolds_10 (post : PO) : lk (T_X5_readsHolds post) 10 = o_istore 1 11 := rfl
theorem k_X5_readsHolds_11 (post : PO) : lk (T_X5_readsHolds post) 11 = o_iload 1 12 := rfl
theorem k_X5_readsHolds_12 (post : PO) : lk (T_X5_readsHolds post) 12 = o_const (-9) 14 := rfl
theorem k_X5_readsHolds_14 (post : PO) : lk (T_X5_readsHolds post) 14 = o_icmp (fun x y => x = y) 17 19 := rfl
theorem k_X5_readsHolds_17 (post : PO) : lk (T_X5_readsHolds post) 17 = o_const 0 18 := rfl
theorem k_X5_readsHolds_18 (post : PO) : lk (T_X5_readsHolds post) 18 = o_zret post := rfl
theorem k_X5_readsHolds_19 (post : PO) : lk (T_X5_readsHolds post) 19 = o_aload 0 20 := rfl
theorem k_X5_readsHolds_20 (post : PO) : lk (T_X5_readsHolds post) 20 = o_aload 0 21 := rfl
theorem k_X5_readsHolds_21 (post : PO) : lk (T_X5_readsHolds post) 21 = o_getf 5 4 24 := rfl
theorem k_X5_readsHolds_24 (post : PO) : lk (T_X5_readsHolds post) 24 = o_const 3 25 := rfl
theorem k_X5_readsHolds_25 (post : PO) : lk (T_X5_readsHolds post) 25 = o_ald 0 26 := rfl
theorem k_X5_readsHolds_26 (post : PO) : lk (T_X5_readsHolds post) 26 = o_callV 5 S_X5_number 1 29 := rfl
theorem k_X5_readsHolds_29 (post : PO) : lk (T_X5_readsHolds post) 29 = o_istore 2 30 := rfl
theorem k_X5_readsHolds_30 (post : PO) : lk (T_X5_readsHolds post) 30 = o_iload 2 31 := rfl
theorem k_X5_readsHolds_31 (post : PO) : lk (T_X5_readsHolds post) 31 = o_const (-9) 33 := rfl
theorem k_X5_readsHolds_33 (post : PO) : lk (T_X5_readsHolds post) 33 = o_icmp (fun x y => x = y) 50 36 := rfl
theorem k_X5_readsHolds_36 (post : PO) : lk (T_X5_readsHolds post) 36 = o_aload 0 37 := rfl
theorem k_X5_readsHolds_37 (post : PO) : lk (T_X5_readsHolds post) 37 = o_getf 5 4 40 := rfl
theorem k_X5_readsHolds_40 (post : PO) : lk (T_X5_readsHolds post) 40 = o_const 18 42 := rfl
theorem k_X5_readsHolds_42 (post : PO) : lk (T_X5_readsHolds post) 42 = o_iload 2 43 := rfl
theorem k_X5_readsHolds_43 (post : PO) : lk (T_X5_readsHolds post) 43 = o_bin (fun x y => x + y) 44 := rfl
theorem k_X5_readsHolds_44 (post : PO) : lk (T_X5_readsHolds post) 44 = o_ald 0 45 := rfl
theorem k_X5_readsHolds_45 (post : PO) : lk (T_X5_readsHolds post) 45 = o_const (-4) 47 := rfl
theorem k_X5_readsHolds_47 (post : PO) : lk (T_X5_readsHolds post) 47 = o_icmp (fun x y => x = y) 52 50 := rfl
theorem k_X5_readsHolds_50 (post : PO) : lk (T_X5_readsHolds post) 50 = o_const 0 51 := rfl
theorem k_X5_readsHolds_51 (post : PO) : lk (T_X5_readsHolds post) 51 = o_zret post := rfl
theorem k_X5_readsHolds_52 (post : PO) : lk (T_X5_readsHolds post) 52 = o_aload 0 53 := rfl
theorem k_X5_readsHolds_53 (post : PO) : lk (T_X5_readsHolds post) 53 = o_getf 5 4 56 := rfl
theorem k_X5_readsHolds_56 (post : PO) : lk (T_X5_readsHolds post) 56 = o_const 18 58 := rfl
theorem k_X5_readsHolds_58 (post : PO) : lk (T_X5_readsHolds post) 58 = o_iload 2 59 := rfl
theorem k_X5_readsHolds_59 (post : PO) : lk (T_X5_readsHolds post) 59 = o_bin (fun x y => x + y) 60 := rfl
theorem k_X5_readsHolds_60 (post : PO) : lk (T_X5_readsHolds post) 60 = o_iload 1 61 := rfl
theorem k_X5_readsHolds_61 (post : PO) : lk (T_X5_readsHolds post) 61 = o_ast 0 (fun x => x) 62 := rfl
theorem k_X5_readsHolds_62 (post : PO) : lk (T_X5_readsHolds post) 62 = o_const 1 63 := rfl
theorem k_X5_readsHolds_63 (post : PO) : lk (T_X5_readsHolds post) 63 = o_zret post := rfl
set_option maxRecDepth 100000 in
theorem t_X5_readsHolds {p : Program} {l : Launch} {e : Env} {s : State} {m : MethodId} {args : Array Value} {below : List Frame} {meth : Method} {c : Code} {D : va_G} {dA : Nat → ClassId} {ad : Nat → Nat} (post : PO) (C : CX p s m args meth c cX5_readsHolds 3 yX5_readsHolds.cls D dA ad (AA ad s.heap.size)) (hr : meth.sig.returnType = (some .boolean)) : SndL (WW p l e ({ frames := 4, cells := 0, slots := 0, locals := 84 } : Room) s m args below meth c 0 0 (MQ below (CQ D dA ad post (AA ad s.heap.size)) args s 0 0 (AA ad s.heap.size)) 3 D dA ad (AA ad s.heap.size)) (T_X5_readsHolds post) := by
  refine snd_c (s_aload_n C rfl dX5_readsHolds_0) ?_
  refine snd_c (s_aload_n C rfl dX5_readsHolds_1) ?_
  refine snd_c (s_getf C (ci := 5) (j := 4) (T := TX5) rfl inX5 (by decide) fl_RX5_16 dX5_readsHolds_2) ?_
  refine snd_c (s_iconst C dX5_readsHolds_5 rfl) ?_
  refine snd_c (s_iald C dX5_readsHolds_6) ?_
  refine snd_c (s_callV C (ci := 5) c_X5_number rfl cw_RX5_77 ⟨rfl, rfl⟩ ⟨by decide +kernel, by decide +kernel, by decide +kernel⟩ ⟨by decide, by decide⟩ ⟨Nat.zero_le _, Nat.zero_le _⟩ dX5_readsHolds_7) ?_
  refine snd_c (s_istore_n C rfl (by decide) dX5_readsHolds_10) ?_
  refine snd_c (s_iload_n C rfl dX5_readsHolds_11) ?_
  refine snd_c (s_bipush C dX5_readsHolds_12 rfl) ?_
  refine snd_c (s_icmp_ne C dX5_readsHolds_14 (by decide)) ?_
  refine snd_c (s_iconst C dX5_readsHolds_17 rfl) ?_
  refine snd_c (s_zret C hr ⟨rfl, rfl⟩ dX5_readsHolds_18) ?_
  refine snd_c (s_aload_n C rfl dX5_readsHolds_19) ?_
  refine snd_c (s_aload_n C rfl dX5_readsHolds_20) ?_
  refine snd_c (s_getf C (ci := 5) (j := 4) (T := TX5) rfl inX5 (by decide) fl_RX5_16 dX5_readsHolds_21) ?_
  refine snd_c (s_iconst C dX5_readsHolds_24 rfl) ?_
  refine snd_c (s_iald C dX5_readsHolds_25) ?_
  refine snd_c (s_callV C (ci := 5) c_X5_number rfl cw_RX5_77 ⟨rfl, rfl⟩ ⟨by decide +kernel, by decide +kernel, by decide +kernel⟩ ⟨by decide, by decide⟩ ⟨Nat.zero_le _, Nat.zero_le _⟩ dX5_readsHolds_26) ?_
  refine snd_c (s_istore_n C rfl (by decide) dX5_readsHolds_29) ?_
  refine snd_c (s_iload_n C rfl dX5_readsHolds_30) ?_
  refine snd_c (s_bipush C dX5_readsHolds_31 rfl) ?_
  refine snd_c (s_icmp_eq C dX5_readsHolds_33 (by decide)) ?_
  refine snd_c (s_aload_n C rfl dX5_readsHolds_36) ?_
  refine snd_c (s_getf C (ci := 5) (j := 4) (T := TX5) rfl inX5 (by decide) fl_RX5_16 dX5_readsHolds_37) ?_
  refine snd_c (s_bipush C dX5_readsHolds_40 rfl) ?_
  refine snd_c (s_iload_n C rfl dX5_readsHolds_42) ?_
  refine snd_c (s_iadd C dX5_readsHolds_43) ?_
  refine snd_c (s_iald C dX5_readsHolds_44) ?_
  refine snd_c (s_bipush C dX5_readsHolds_45 rfl) ?_
  refine snd_c (s_icmp_eq C dX5_readsHolds_47 (by decide)) ?_
  refine snd_c (s_iconst C dX5_readsHolds_50 rfl) ?_
  refine snd_c (s_zret C hr ⟨rfl, rfl⟩ dX5_readsHolds_51) ?_
  refine snd_c (s_aload_n C rfl dX5_readsHolds_52) ?_
  refine snd_c (s_getf C (ci := 5) (j := 4) (T := TX5) rfl inX5 (by decide) fl_RX5_16 dX5_readsHolds_53) ?_
  refine snd_c (s_bipush C dX5_readsHolds_56 rfl) ?_
  refine snd_c (s_iload_n C rfl dX5_readsHolds_58) ?_
  refine snd_c (s_iadd C dX5_readsHolds_59) ?_
  refine snd_c (s_iload_n C rfl dX5_readsHolds_60) ?_
  refine snd_c (s_iast C dX5_readsHolds_61) ?_
  refine snd_c (s_iconst C dX5_readsHolds_62 rfl) ?_
  refine snd_c (s_zret C hr ⟨rfl, rfl⟩ dX5_readsHolds_63) ?_
  exact trivial
set_option maxRecDepth 100000 in
theorem v_X5_readsHolds : ∀ as M post, S_X5_readsHolds as M post → wsum as ≤ 3 ∧ RUN (T_X5_readsHolds post) 0 (entL 3 as) [] M := by
  rintro as M post ⟨L, t, p, q, d, rfl, hT, hp, hpL, hD, h1, h2⟩
  have hT2 := hT.2.1
  have htb : ∀ j, j < L → t j < 256 := fun j hj => (hT.2.2 j hj).2
  obtain ⟨hd, c, pp, n, hc, hpp, hn, e0, e1, e3⟩ := hD
  have r1 : M.2.2 32 1 = nI pp := by rw [hd 1 (by omega), e1]
  have sn : ∀ k v, ¬ (k = 2 ∧ v < nI pp) → stp 4 q d k v = none := fun k v z => by
    show (if k = 2 ∧ v < d 1 then some (5, v, d) else none) = none
    rw [e1, if_neg z]
  have sy : ∀ v, v < nI pp → stp 4 q d 2 v = some (5, v, d) := fun v z => by
    show (if (2 : Int32) = 2 ∧ v < d 1 then some (5, v, d) else none) = _
    rw [e1, if_pos ⟨rfl, z⟩]
  refine ⟨by show 1 ≤ 3; omega, run_wp 80 ?_⟩
  dsimp only [k_X5_readsHolds_0, k_X5_readsHolds_1, k_X5_readsHolds_2, k_X5_readsHolds_5, k_X5_readsHolds_6, k_X5_readsHolds_7, k_X5_readsHolds_10, k_X5_readsHolds_11, k_X5_readsHolds_12, k_X5_readsHolds_14, k_X5_readsHolds_17, k_X5_readsHolds_18, k_X5_readsHolds_19, k_X5_readsHolds_20, k_X5_readsHolds_21, k_X5_readsHolds_24, k_X5_readsHolds_25, k_X5_readsHolds_26, k_X5_readsHolds_29, k_X5_readsHolds_30, k_X5_readsHolds_31, k_X5_readsHolds_33, k_X5_readsHolds_36, k_X5_readsHolds_37, k_X5_readsHolds_40, k_X5_readsHolds_42, k_X5_readsHolds_43, k_X5_readsHolds_44, k_X5_readsHolds_45, k_X5_readsHolds_47, k_X5_readsHolds_50, k_X5_readsHolds_51, k_X5_readsHolds_52, k_X5_readsHolds_53, k_X5_readsHolds_56, k_X5_readsHolds_58, k_X5_readsHolds_59, k_X5_readsHolds_60, k_X5_readsHolds_61, k_X5_readsHolds_62, k_X5_readsHolds_63, wp1, wp_s, cutIn, kont, Nat.reduceSub, Nat.reduceAdd, nth, o_const, o_lconst, o_ref, o_iload, o_lload, o_aload, o_istore, o_lstore, o_astore, o_iinc, o_bin, o_div, o_un, o_lbin, o_lsh, o_lcmp, o_i2l, o_l2i, o_if, o_icmp, o_goto, o_dup, o_dup2, o_pop, fav, o_getf, o_putI, o_putZ, o_putL, o_ald, o_ast, o_alen, popn, rst, o_callV, o_callT, o_callS, swx, o_sw, o_ret, o_iret, o_zret, o_cret, o_lret, o_aret, lg, lput, lput2, ls1, isL, entL, wsum, rdI1, rdI2, rdA1, rdA21, rdA22, rdL1, rdL22, rdL21, upN_at, rep, sh_0, F_0_0, F_0_1, F_0_2, F_0_3, F_0_4, F_0_5, F_0_6, F_0_7, F_0_8, sh_1, F_1_0, F_1_1, F_1_2, F_1_3, F_1_4, F_1_5, sh_3, F_3_0, F_3_1, F_3_2, F_3_3, F_3_4, F_3_5, sh_5, F_5_0, F_5_1, F_5_2, F_5_3, F_5_4, F_5_5, F_5_6, F_5_7, F_5_8, sh_12, F_12_0, F_12_1, F_12_2, F_12_3, F_12_4, F_12_5, sh_14, F_14_0, F_14_1, F_14_2, F_14_3, F_14_4, F_14_5, F_14_6, F_14_7, F_14_8, sh_21, F_21_0, F_21_1, F_21_2, F_21_3, F_21_4, F_21_5, F_21_6, F_21_7, F_21_8, sh_28, F_28_0, F_28_1, F_28_2, F_28_3, F_28_4, F_28_5, F_28_6, F_28_7, F_28_8, sh_35, F_35_0, sh_39, F_39_0, F_39_1, F_39_2, F_39_3, F_39_4, F_39_5, F_39_6, F_39_7, F_39_8, F_39_9, F_39_10, F_39_11, F_39_12, F_39_13, A_2, A_4, A_6, A_7, A_8, A_9, A_10, A_11, A_13, A_15, A_16, A_17, A_18, A_19, A_20, A_22, A_23, A_24, A_25, A_26, A_27, A_29, A_30, A_31, A_32, A_33, A_34, A_36, A_37, A_38, A_40, A_41, A_42, A_43, A_44, A_45, A_46, A_47]
  refine ⟨1, by omega, rfl, ?_⟩
  rw [r1]
  refine ⟨L, t, p, _, rfl, hT, hp, by omega, fun j g1 g2 g3 g4 => ?_, fun g => ?_⟩
  · obtain ⟨k1, k2, k3⟩ := tk_numV g1 g2 g3
    have hk0 : tkK t L p ≠ 0 := by rw [k1]; decide
    have hst : stp 4 q d (tkK t L p) (tkV t L p 0) = some (5, nI j, d) := by rw [k1, k2]; exact sy _ g4
    obtain ⟨w1, w2, w3⟩ := PR_s hpL hT2 hk0 hst
    rw [if_neg (by rw [k1]; decide)] at w1
    dsimp only at w1
    rw [k3] at w1 w2 w3
    have hjp : j < 1000 := by
      have := (hT.2.2 _ (sr_2.mp g1).1).2
      omega
    dsimp only [k_X5_readsHolds_0, k_X5_readsHolds_1, k_X5_readsHolds_2, k_X5_readsHolds_5, k_X5_readsHolds_6, k_X5_readsHolds_7, k_X5_readsHolds_10, k_X5_readsHolds_11, k_X5_readsHolds_12, k_X5_readsHolds_14, k_X5_readsHolds_17, k_X5_readsHolds_18, k_X5_readsHolds_19, k_X5_readsHolds_20, k_X5_readsHolds_21, k_X5_readsHolds_24, k_X5_readsHolds_25, k_X5_readsHolds_26, k_X5_readsHolds_29, k_X5_readsHolds_30, k_X5_readsHolds_31, k_X5_readsHolds_33, k_X5_readsHolds_36, k_X5_readsHolds_37, k_X5_readsHolds_40, k_X5_readsHolds_42, k_X5_readsHolds_43, k_X5_readsHolds_44, k_X5_readsHolds_45, k_X5_readsHolds_47, k_X5_readsHolds_50, k_X5_readsHolds_51, k_X5_readsHolds_52, k_X5_readsHolds_53, k_X5_readsHolds_56, k_X5_readsHolds_58, k_X5_readsHolds_59, k_X5_readsHolds_60, k_X5_readsHolds_61, k_X5_readsHolds_62, k_X5_readsHolds_63, wp1, wp_s, cutIn, kont, Nat.reduceSub, Nat.reduceAdd, nth, o_const, o_lconst, o_ref, o_iload, o_lload, o_aload, o_istore, o_lstore, o_astore, o_iinc, o_bin, o_div, o_un, o_lbin, o_lsh, o_lcmp, o_i2l, o_l2i, o_if, o_icmp, o_goto, o_dup, o_dup2, o_pop, fav, o_getf, o_putI, o_putZ, o_putL, o_ald, o_ast, o_alen, popn, rst, o_callV, o_callT, o_callS, swx, o_sw, o_ret, o_iret, o_zret, o_cret, o_lret, o_aret, lg, lput, lput2, ls1, isL, entL, wsum, rdI1, rdI2, rdA1, rdA21, rdA22, rdL1, rdL22, rdL21, upN_at, rep, sh_0, F_0_0, F_0_1, F_0_2, F_0_3, F_0_4, F_0_5, F_0_6, F_0_7, F_0_8, sh_1, F_1_0, F_1_1, F_1_2, F_1_3, F_1_4, F_1_5, sh_3, F_3_0, F_3_1, F_3_2, F_3_3, F_3_4, F_3_5, sh_5, F_5_0, F_5_1, F_5_2, F_5_3, F_5_4, F_5_5, F_5_6, F_5_7, F_5_8, sh_12, F_12_0, F_12_1, F_12_2, F_12_3, F_12_4, F_12_5, sh_14, F_14_0, F_14_1, F_14_2, F_14_3, F_14_4, F_14_5, F_14_6, F_14_7, F_14_8, sh_21, F_21_0, F_21_1, F_21_2, F_21_3, F_21_4, F_21_5, F_21_6, F_21_7, F_21_8, sh_28, F_28_0, F_28_1, F_28_2, F_28_3, F_28_4, F_28_5, F_28_6, F_28_7, F_28_8, sh_35, F_35_0, sh_39, F_39_0, F_39_1, F_39_2, F_39_3, F_39_4, F_39_5, F_39_6, F_39_7, F_39_8, F_39_9, F_39_10, F_39_11, F_39_12, F_39_13, A_2, A_4, A_6, A_7, A_8, A_9, A_10, A_11, A_13, A_15, A_16, A_17, A_18, A_19, A_20, A_22, A_23, A_24, A_25, A_26, A_27, A_29, A_30, A_31, A_32, A_33, A_34, A_36, A_37, A_38, A_40, A_41, A_42, A_43, A_44, A_45, A_46, A_47]
    simp (config := { decide := true }) only [true_implies, false_implies, and_true, true_and, not_true_eq_false, not_false_eq_true, forall_const]
    refine ⟨fun z => absurd z (ne9 hjp), fun _ => ⟨3, by omega, rfl, ?_⟩⟩
    have r3 : (tkN t L p M).2.2 32 3 = nI n := by
      show M.2.2 32 3 = nI n
      rw [hd 3 (by omega), e3]
    rw [r3]
    have sn5 : ∀ k v, ¬ (k = 2 ∧ v < nI n ∧ d (18 + v.toNatClampNeg) = -4) → stp 5 (nI j) d k v = none := fun k v z => by
      show (if k = 2 ∧ v < d 3 ∧ d (18 + v.toNatClampNeg) = -4 then some (1, nI j, upd d (18 + v.toNatClampNeg) (nI j)) else none) = none
      rw [e3, if_neg z]
    refine ⟨L, t, tkE t L p, _, rfl, frM_TT (frM_N (frM_rf M) t L p) hT, rfl, by omega, fun k b1 b2 b3 b4 => ?_, fun b => ?_⟩
    · obtain ⟨c1, c2, c3⟩ := tk_numV b1 b2 b3
      have hkn : k < n := by
        have : k < 1000 := by
          have := (hT.2.2 _ (sr_2.mp b1).1).2
          omega
        rwa [nI_ltI (by omega) (by omega)] at b4
      have hk0' : tkK t L (tkE t L p) ≠ 0 := by rw [c1]; decide
      have r18 : (tkN t L (tkE t L p) (tkN t L p M)).2.2 32 (18 + k) = d (18 + k) := hd (18 + k) (by omega)
      have hf : frM M (tkN t L (tkE t L p) (tkN t L p M)) := frM_N (frM_N (frM_rf M) t L p) t L _
      dsimp only [k_X5_readsHolds_0, k_X5_readsHolds_1, k_X5_readsHolds_2, k_X5_readsHolds_5, k_X5_readsHolds_6, k_X5_readsHolds_7, k_X5_readsHolds_10, k_X5_readsHolds_11, k_X5_readsHolds_12, k_X5_readsHolds_14, k_X5_readsHolds_17, k_X5_readsHolds_18, k_X5_readsHolds_19, k_X5_readsHolds_20, k_X5_readsHolds_21, k_X5_readsHolds_24, k_X5_readsHolds_25, k_X5_readsHolds_26, k_X5_readsHolds_29, k_X5_readsHolds_30, k_X5_readsHolds_31, k_X5_readsHolds_33, k_X5_readsHolds_36, k_X5_readsHolds_37, k_X5_readsHolds_40, k_X5_readsHolds_42, k_X5_readsHolds_43, k_X5_readsHolds_44, k_X5_readsHolds_45, k_X5_readsHolds_47, k_X5_readsHolds_50, k_X5_readsHolds_51, k_X5_readsHolds_52, k_X5_readsHolds_53, k_X5_readsHolds_56, k_X5_readsHolds_58, k_X5_readsHolds_59, k_X5_readsHolds_60, k_X5_readsHolds_61, k_X5_readsHolds_62, k_X5_readsHolds_63, wp1, wp_s, cutIn, kont, Nat.reduceSub, Nat.reduceAdd, nth, o_const, o_lconst, o_ref, o_iload, o_lload, o_aload, o_istore, o_lstore, o_astore, o_iinc, o_bin, o_div, o_un, o_lbin, o_lsh, o_lcmp, o_i2l, o_l2i, o_if, o_icmp, o_goto, o_dup, o_dup2, o_pop, fav, o_getf, o_putI, o_putZ, o_putL, o_ald, o_ast, o_alen, popn, rst, o_callV, o_callT, o_callS, swx, o_sw, o_ret, o_iret, o_zret, o_cret, o_lret, o_aret, lg, lput, lput2, ls1, isL, entL, wsum, rdI1, rdI2, rdA1, rdA21, rdA22, rdL1, rdL22, rdL21, upN_at, rep, sh_0, F_0_0, F_0_1, F_0_2, F_0_3, F_0_4, F_0_5, F_0_6, F_0_7, F_0_8, sh_1, F_1_0, F_1_1, F_1_2, F_1_3, F_1_4, F_1_5, sh_3, F_3_0, F_3_1, F_3_2, F_3_3, F_3_4, F_3_5, sh_5, F_5_0, F_5_1, F_5_2, F_5_3, F_5_4, F_5_5, F_5_6, F_5_7, F_5_8, sh_12, F_12_0, F_12_1, F_12_2, F_12_3, F_12_4, F_12_5, sh_14, F_14_0, F_14_1, F_14_2, F_14_3, F_14_4, F_14_5, F_14_6, F_14_7, F_14_8, sh_21, F_21_0, F_21_1, F_21_2, F_21_3, F_21_4, F_21_5, F_21_6, F_21_7, F_21_8, sh_28, F_28_0, F_28_1, F_28_2, F_28_3, F_28_4, F_28_5, F_28_6, F_28_7, F_28_8, sh_35, F_35_0, sh_39, F_39_0, F_39_1, F_39_2, F_39_3, F_39_4, F_39_5, F_39_6, F_39_7, F_39_8, F_39_9, F_39_10, F_39_11, F_39_12, F_39_13, A_2, A_4, A_6, A_7, A_8, A_9, A_10, A_11, A_13, A_15, A_16, A_17, A_18, A_19, A_20, A_22, A_23, A_24, A_25, A_26, A_27, A_29, A_30, A_31, A_32, A_33, A_34, A_36, A_37, A_38, A_40, A_41, A_42, A_43, A_44, A_45, A_46, A_47]
      simp (config := { decide := true }) only [true_implies, false_implies, and_true, true_and, not_true_eq_false, not_false_eq_true, forall_const]
      refine ⟨fun z => absurd z (ne9 (by omega)), fun _ => ⟨18 + k, by omega, nI_add 18 k, ?_⟩⟩
      rw [r18]
      refine ⟨fun z => ⟨18 + k, by omega, nI_add 18 k, ?_⟩, fun z => ?_⟩
      · have hst2 : stp 5 (nI j) d (tkK t L (tkE t L p)) (tkV t L (tkE t L p) 0) = some (1, nI j, upd d (18 + k) (nI j)) := by
          rw [c1, c2]
          show (if (2 : Int32) = 2 ∧ nI k < d 3 ∧ d (18 + (nI k).toNatClampNeg) = -4 then some (1, nI j, upd d (18 + (nI k).toNatClampNeg) (nI j)) else none) = _
          rw [nI_clamp (by omega), e3, if_pos ⟨rfl, b4, z⟩]
        obtain ⟨y1, y2, y3⟩ := PR_s w3 hT2 hk0' hst2
        rw [if_neg (by rw [c1]; decide)] at y1
        dsimp only at y1
        rw [c3] at y1 y2 y3
        refine h2 (tkE t L (tkE t L p)) (nI j) (upd d (18 + k) (nI j)) (by omega) y3 (w1.trans y1) _ (frM_A hf _) rfl ⟨?_, c, pp, n, hc, hpp, hn, ?_, ?_, ?_⟩
        · exact upd_cg hd (18 + k) (nI j)
        · rw [upd_n _ _ (by omega)]; exact e0
        · rw [upd_n _ _ (by omega)]; exact e1
        · rw [upd_n _ _ (by omega)]; exact e3
      · have y := PR_n (w := 5) (q := nI j) (d := d) w3 hT2 (Or.inl (by omega)) (sn5 (tkK t L (tkE t L p)) (tkV t L (tkE t L p) 0) (fun z3 => z (by have z4 := z3.2.2; rw [c2, nI_clamp (by omega)] at z4; exact z4)))
        exact h1 _ (w1.trans y) _ hf rfl
    · have y := PR_n (w := 5) (q := nI j) (d := d) w3 hT2 (Or.inl (by omega)) (sn5 (tkK t L (tkE t L p)) (tkV t L (tkE t L p) 0) (fun z3 => b ((tk_num hn htb).mp ⟨z3.1, z3.2.1⟩)))
      have hf : frM M (tkN t L (tkE t L p) (tkN t L p M)) := frM_N (frM_N (frM_rf M) t L p) t L _
      dsimp only [k_X5_readsHolds_0, k_X5_readsHolds_1, k_X5_readsHolds_2, k_X5_readsHolds_5, k_X5_readsHolds_6, k_X5_readsHolds_7, k_X5_readsHolds_10, k_X5_readsHolds_11, k_X5_readsHolds_12, k_X5_readsHolds_14, k_X5_readsHolds_17, k_X5_readsHolds_18, k_X5_readsHolds_19, k_X5_readsHolds_20, k_X5_readsHolds_21, k_X5_readsHolds_24, k_X5_readsHolds_25, k_X5_readsHolds_26, k_X5_readsHolds_29, k_X5_readsHolds_30, k_X5_readsHolds_31, k_X5_readsHolds_33, k_X5_readsHolds_36, k_X5_readsHolds_37, k_X5_readsHolds_40, k_X5_readsHolds_42, k_X5_readsHolds_43, k_X5_readsHolds_44, k_X5_readsHolds_45, k_X5_readsHolds_47, k_X5_readsHolds_50, k_X5_readsHolds_51, k_X5_readsHolds_52, k_X5_readsHolds_53, k_X5_readsHolds_56, k_X5_readsHolds_58, k_X5_readsHolds_59, k_X5_readsHolds_60, k_X5_readsHolds_61, k_X5_readsHolds_62, k_X5_readsHolds_63, wp1, wp_s, cutIn, kont, Nat.reduceSub, Nat.reduceAdd, nth, o_const, o_lconst, o_ref, o_iload, o_lload, o_aload, o_istore, o_lstore, o_astore, o_iinc, o_bin, o_div, o_un, o_lbin, o_lsh, o_lcmp, o_i2l, o_l2i, o_if, o_icmp, o_goto, o_dup, o_dup2, o_pop, fav, o_getf, o_putI, o_putZ, o_putL, o_ald, o_ast, o_alen, popn, rst, o_callV, o_callT, o_callS, swx, o_sw, o_ret, o_iret, o_zret, o_cret, o_lret, o_aret, lg, lput, lput2, ls1, isL, entL, wsum, rdI1, rdI2, rdA1, rdA21, rdA22, rdL1, rdL22, rdL21, upN_at, rep, sh_0, F_0_0, F_0_1, F_0_2, F_0_3, F_0_4, F_0_5, F_0_6, F_0_7, F_0_8, sh_1, F_1_0, F_1_1, F_1_2, F_1_3, F_1_4, F_1_5, sh_3, F_3_0, F_3_1, F_3_2, F_3_3, F_3_4, F_3_5, sh_5, F_5_0, F_5_1, F_5_2, F_5_3, F_5_4, F_5_5, F_5_6, F_5_7, F_5_8, sh_12, F_12_0, F_12_1, F_12_2, F_12_3, F_12_4, F_12_5, sh_14, F_14_0, F_14_1, F_14_2, F_14_3, F_14_4, F_14_5, F_14_6, F_14_7, F_14_8, sh_21, F_21_0, F_21_1, F_21_2, F_21_3, F_21_4, F_21_5, F_21_6, F_21_7, F_21_8, sh_28, F_28_0, F_28_1, F_28_2, F_28_3, F_28_4, F_28_5, F_28_6, F_28_7, F_28_8, sh_35, F_35_0, sh_39, F_39_0, F_39_1, F_39_2, F_39_3, F_39_4, F_39_5, F_39_6, F_39_7, F_39_8, F_39_9, F_39_10, F_39_11, F_39_12, F_39_13, A_2, A_4, A_6, A_7, A_8, A_9, A_10, A_11, A_13, A_15, A_16, A_17, A_18, A_19, A_20, A_22, A_23, A_24, A_25, A_26, A_27, A_29, A_30, A_31, A_32, A_33, A_34, A_36, A_37, A_38, A_40, A_41, A_42, A_43, A_44, A_45, A_46, A_47]
      simp (config := { decide := true }) only [true_implies, false_implies, and_true, true_and, not_true_eq_false, not_false_eq_true, forall_const]
      exact h1 _ (w1.trans y) _ hf rfl
  · have y := PR_n (w := 4) (q := q) (d := d) hpL hT2 (Or.inl (by omega)) (sn _ _ (fun z => g ((tk_num (by omega) htb).mp z)))
    dsimp only [k_X5_readsHolds_0, k_X5_readsHolds_1, k_X5_readsHolds_2, k_X5_readsHolds_5, k_X5_readsHolds_6, k_X5_readsHolds_7, k_X5_readsHolds_10, k_X5_readsHolds_11, k_X5_readsHolds_12, k_X5_readsHolds_14, k_X5_readsHolds_17, k_X5_readsHolds_18, k_X5_readsHolds_19, k_X5_readsHolds_20, k_X5_readsHolds_21, k_X5_readsHolds_24, k_X5_readsHolds_25, k_X5_readsHolds_26, k_X5_readsHolds_29, k_X5_readsHolds_30, k_X5_readsHolds_31, k_X5_readsHolds_33, k_X5_readsHolds_36, k_X5_readsHolds_37, k_X5_readsHolds_40, k_X5_readsHolds_42, k_X5_readsHolds_43, k_X5_readsHolds_44, k_X5_readsHolds_45, k_X5_readsHolds_47, k_X5_readsHolds_50, k_X5_readsHolds_51, k_X5_readsHolds_52, k_X5_readsHolds_53, k_X5_readsHolds_56, k_X5_readsHolds_58, k_X5_readsHolds_59, k_X5_readsHolds_60, k_X5_readsHolds_61, k_X5_readsHolds_62, k_X5_readsHolds_63, wp1, wp_s, cutIn, kont, Nat.reduceSub, Nat.reduceAdd, nth, o_const, o_lconst, o_ref, o_iload, o_lload, o_aload, o_istore, o_lstore, o_astore, o_iinc, o_bin, o_div, o_un, o_lbin, o_lsh, o_lcmp, o_i2l, o_l2i, o_if, o_icmp, o_goto, o_dup, o_dup2, o_pop, fav, o_getf, o_putI, o_putZ, o_putL, o_ald, o_ast, o_alen, popn, rst, o_callV, o_callT, o_callS, swx, o_sw, o_ret, o_iret, o_zret, o_cret, o_lret, o_aret, lg, lput, lput2, ls1, isL, entL, wsum, rdI1, rdI2, rdA1, rdA21, rdA22, rdL1, rdL22, rdL21, upN_at, rep, sh_0, F_0_0, F_0_1, F_0_2, F_0_3, F_0_4, F_0_5, F_0_6, F_0_7, F_0_8, sh_1, F_1_0, F_1_1, F_1_2, F_1_3, F_1_4, F_1_5, sh_3, F_3_0, F_3_1, F_3_2, F_3_3, F_3_4, F_3_5, sh_5, F_5_0, F_5_1, F_5_2, F_5_3, F_5_4, F_5_5, F_5_6, F_5_7, F_5_8, sh_12, F_12_0, F_12_1, F_12_2, F_12_3, F_12_4, F_12_5, sh_14, F_14_0, F_14_1, F_14_2, F_14_3, F_14_4, F_14_5, F_14_6, F_14_7, F_14_8, sh_21, F_21_0, F_21_1, F_21_2, F_21_3, F_21_4, F_21_5, F_21_6, F_21_7, F_21_8, sh_28, F_28_0, F_28_1, F_28_2, F_28_3, F_28_4, F_28_5, F_28_6, F_28_7, F_28_8, sh_35, F_35_0, sh_39, F_39_0, F_39_1, F_39_2, F_39_3, F_39_4, F_39_5, F_39_6, F_39_7, F_39_8, F_39_9, F_39_10, F_39_11, F_39_12, F_39_13, A_2, A_4, A_6, A_7, A_8, A_9, A_10, A_11, A_13, A_15, A_16, A_17, A_18, A_19, A_20, A_22, A_23, A_24, A_25, A_26, A_27, A_29, A_30, A_31, A_32, A_33, A_34, A_36, A_37, A_38, A_40, A_41, A_42, A_43, A_44, A_45, A_46, A_47]
    simp (config := { decide := true }) only [true_implies, false_implies, and_true, true_and, not_true_eq_false, not_false_eq_true, forall_const]
    exact h1 _ y _ (frM_N (frM_rf M) t L p) rfl
theorem c_X5_readsHolds : Ctr yX5_readsHolds cX5_readsHolds 3 (some .boolean) ({ frames := 4, cells := 0, slots := 0, locals := 84 } : Room) S_X5_readsHolds := ctr_of (T := T_X5_readsHolds) (by decide +kernel) (fun post C hr => t_X5_readsHolds post C hr) v_X5_readsHolds
theorem cw_RX5_80 : ∀ w ∈ ([.methodLink RX5 80 yX5_readsHolds, .instanceMethod yX5_readsHolds, .selects yX5_readsHolds.cls yX5_readsHolds yX5_readsHolds, .initialized yX5_readsHolds.cls, .code yX5_readsHolds cX5_readsHolds 3 (some .boolean)] : List Cond), w ∈ tb := tb_all [720, 722, 35, 59, 723] (by decide +kernel) (by decide +kernel)
theorem cw_RX5_84 : ∀ w ∈ ([.methodLink RX5 84 yX5_row, .instanceMethod yX5_row, .selects yX5_row.cls yX5_row yX5_row, .initialized yX5_row.cls, .code yX5_row cX5_row 4 (some .int)] : List Cond), w ∈ tb := tb_all [728, 730, 37, 59, 731] (by decide +kernel) (by decide +kernel)
theorem dX5_readsItem_0 : decode cX5_readsItem 0 = .ok (.iload_n 1, 1) := by decide +kernel
theorem dX5_readsItem_1 : decode cX5_readsItem 1 = .ok (.iconst 2, 1) := by decide +kernel
theorem dX5_readsItem_2 : decode cX5_readsItem 2 = .ok (.if_icmp .ne 29, 3) := by decide +kernel
theorem dX5_readsItem_5 : decode cX5_readsItem 5 = .ok (.aload_n 0, 1) := by decide +kernel
theorem dX5_readsItem_6 : decode cX5_readsItem 6 = .ok (.getfield 16, 3) := by decide +kernel
theorem dX5_readsItem_9 : decode cX5_readsItem 9 = .ok (.iconst 1, 1) := by decide +kernel
theorem dX5_readsItem_10 : decode cX5_readsItem 10 = .ok (.dup2, 1) := by decide +kernel
theorem dX5_readsItem_11 : decode cX5_readsItem 11 = .ok (.iaload, 1) := by decide +kernel
theorem dX5_readsItem_12 : decode cX5_readsItem 12 = .ok (.iconst 1, 1) := by decide +kernel
theorem dX5_readsItem_13 : decode cX5_readsItem 13 = .ok (.iadd, 1) := by decide +kernel
theorem dX5_readsItem_14 : decode cX5_readsItem 14 = .ok (.iastore, 1) := by decide +kernel
theorem dX5_readsItem_15 : decode cX5_readsItem 15 = .ok (.aload_n 0, 1) := by decide +kernel
theorem dX5_readsItem_16 : decode cX5_readsItem 16 = .ok (.getfield 16, 3) := by decide +kernel
theorem dX5_readsItem_19 : decode cX5_readsItem 19 = .ok (.iconst 1, 1) := by decide +kernel
theorem dX5_readsItem_20 : decode cX5_readsItem 20 = .ok (.iaload, 1) := by decide +kernel
theorem dX5_readsItem_21 : decode cX5_readsItem 21 = .ok (.iconst 4, 1) := by decide +kernel
theorem dX5_readsItem_22 : decode cX5_readsItem 22 = .ok (.if_icmp .gt 7, 3) := by decide +kernel
theorem dX5_readsItem_25 : decode cX5_readsItem 25 = .ok (.iconst 1, 1) := by decide +kernel
theorem dX5_readsItem_26 : decode cX5_readsItem 26 = .ok (.goto 4, 3) := by decide +kernel
theorem dX5_readsItem_29 : decode cX5_readsItem 29 = .ok (.iconst 0, 1) := by decide +kernel
theorem dX5_readsItem_30 : decode cX5_readsItem 30 = .ok (.ireturn, 1) := by decide +kernel
theorem dX5_readsItem_31 : decode cX5_readsItem 31 = .ok (.iload_n 1, 1) := by decide +kernel
theorem dX5_readsItem_32 : decode cX5_readsItem 32 = .ok (.iconst 1, 1) := by decide +kernel
theorem dX5_readsItem_33 : decode cX5_readsItem 33 = .ok (.if_icmp .gt 9, 3) := by decide +kernel
theorem dX5_readsItem_36 : decode cX5_readsItem 36 = .ok (.iload_n 1, 1) := by decide +kernel
theorem dX5_readsItem_37 : decode cX5_readsItem 37 = .ok (.bipush (-9), 2) := by decide +kernel
theorem dX5_readsItem_39 : decode cX5_readsItem 39 = .ok (.if_icmp .ne 21, 3) := by decide +kernel
theorem dX5_readsItem_42 : decode cX5_readsItem 42 = .ok (.iload_n 1, 1) := by decide +kernel
theorem dX5_readsItem_43 : decode cX5_readsItem 43 = .ok (.iconst 3, 1) := by decide +kernel
theorem dX5_readsItem_44 : decode cX5_readsItem 44 = .ok (.if_icmp .ne 14, 3) := by decide +kernel
theorem dX5_readsItem_47 : decode cX5_readsItem 47 = .ok (.aload_n 0, 1) := by decide +kernel
theorem dX5_readsItem_48 : decode cX5_readsItem 48 = .ok (.invokevirtual 80, 3) := by decide +kernel
theorem dX5_readsItem_51 : decode cX5_readsItem 51 = .ok (.ifCond .eq 7, 3) := by decide +kernel
theorem dX5_readsItem_54 : decode cX5_readsItem 54 = .ok (.iconst 1, 1) := by decide +kernel
theorem dX5_readsItem_55 : decode cX5_readsItem 55 = .ok (.goto 4, 3) := by decide +kernel
theorem dX5_readsItem_58 : decode cX5_readsItem 58 = .ok (.iconst 0, 1) := by decide +kernel
theorem dX5_readsItem_59 : decode cX5_readsItem 59 = .ok (.ireturn, 1) := by decide +kernel
theorem dX5_readsItem_60 : decode cX5_readsItem 60 = .ok (.iload_n 1, 1) := by decide +kernel
theorem dX5_readsItem_61 : decode cX5_readsItem 61 = .ok (.ifCond .ne 7, 3) := by decide +kernel
theorem dX5_readsItem_64 : decode cX5_readsItem 64 = .ok (.iconst 1, 1) := by decide +kernel
theorem dX5_readsItem_65 : decode cX5_readsItem 65 = .ok (.goto 4, 3) := by decide +kernel
theorem dX5_readsItem_68 : decode cX5_readsItem 68 = .ok (.iconst 0, 1) := by decide +kernel
theorem dX5_readsItem_69 : decode cX5_readsItem 69 = .ok (.istore_n 2, 1) := by decide +kernel
theorem dX5_readsItem_70 : decode cX5_readsItem 70 = .ok (.aload_n 0, 1) := by decide +kernel
theorem dX5_readsItem_71 : decode cX5_readsItem 71 = .ok (.getfield 16, 3) := by decide +kernel
theorem dX5_readsItem_74 : decode cX5_readsItem 74 = .ok (.iload_n 2, 1) := by decide +kernel
theorem dX5_readsItem_75 : decode cX5_readsItem 75 = .ok (.ifCond .eq 7, 3) := by decide +kernel
theorem dX5_readsItem_78 : decode cX5_readsItem 78 = .ok (.iconst 3, 1) := by decide +kernel
theorem dX5_readsItem_79 : decode cX5_readsItem 79 = .ok (.goto 4, 3) := by decide +kernel
theorem dX5_readsItem_82 : decode cX5_readsItem 82 = .ok (.iconst 0, 1) := by decide +kernel
theorem dX5_readsItem_83 : decode cX5_readsItem 83 = .ok (.iaload, 1) := by decide +kernel
theorem dX5_readsItem_84 : decode cX5_readsItem 84 = .ok (.istore_n 3, 1) := by decide +kernel
theorem dX5_readsItem_85 : decode cX5_readsItem 85 = .ok (.iload_n 3, 1) := by decide +kernel
theorem dX5_readsItem_86 : decode cX5_readsItem 86 = .ok (.iload_n 2, 1) := by decide +kernel
theorem dX5_readsItem_87 : decode cX5_readsItem 87 = .ok (.ifCond .eq 8, 3) := by decide +kernel
theorem dX5_readsItem_90 : decode cX5_readsItem 90 = .ok (.bipush 8, 2) := by decide +kernel
theorem dX5_readsItem_92 : decode cX5_readsItem 92 = .ok (.goto 5, 3) := by decide +kernel
theorem dX5_readsItem_95 : decode cX5_readsItem 95 = .ok (.bipush 6, 2) := by decide +kernel
theorem dX5_readsItem_97 : decode cX5_readsItem 97 = .ok (.if_icmp .ne 8, 3) := by decide +kernel
theorem dX5_readsItem_100 : decode cX5_readsItem 100 = .ok (.bipush (-9), 2) := by decide +kernel
theorem dX5_readsItem_102 : decode cX5_readsItem 102 = .ok (.goto 7, 3) := by decide +kernel
theorem dX5_readsItem_105 : decode cX5_readsItem 105 = .ok (.aload_n 0, 1) := by decide +kernel
theorem dX5_readsItem_106 : decode cX5_readsItem 106 = .ok (.invokevirtual 84, 3) := by decide +kernel
theorem dX5_readsItem_109 : decode cX5_readsItem 109 = .ok (.istore 4, 2) := by decide +kernel
theorem dX5_readsItem_111 : decode cX5_readsItem 111 = .ok (.iload 4, 2) := by decide +kernel
theorem dX5_readsItem_113 : decode cX5_readsItem 113 = .ok (.bipush (-9), 2) := by decide +kernel
theorem dX5_readsItem_115 : decode cX5_readsItem 115 = .ok (.if_icmp .ne 5, 3) := by decide +kernel
theorem dX5_readsItem_118 : decode cX5_readsItem 118 = .ok (.iconst 0, 1) := by decide +kernel
theorem dX5_readsItem_119 : decode cX5_readsItem 119 = .ok (.ireturn, 1) := by decide +kernel
theorem dX5_readsItem_120 : decode cX5_readsItem 120 = .ok (.aload_n 0, 1) := by decide +kernel
theorem dX5_readsItem_121 : decode cX5_readsItem 121 = .ok (.getfield 16, 3) := by decide +kernel
theorem dX5_readsItem_124 : decode cX5_readsItem 124 = .ok (.iload_n 2, 1) := by decide +kernel
theorem dX5_readsItem_125 : decode cX5_readsItem 125 = .ok (.ifCond .eq 8, 3) := by decide +kernel
theorem dX5_readsItem_128 : decode cX5_readsItem 128 = .ok (.bipush 10, 2) := by decide +kernel
theorem dX5_readsItem_130 : decode cX5_readsItem 130 = .ok (.goto 4, 3) := by decide +kernel
theorem dX5_readsItem_133 : decode cX5_readsItem 133 = .ok (.iconst 4, 1) := by decide +kernel
theorem dX5_readsItem_134 : decode cX5_readsItem 134 = .ok (.iload_n 3, 1) := by decide +kernel
theorem dX5_readsItem_135 : decode cX5_readsItem 135 = .ok (.iadd, 1) := by decide +kernel
theorem dX5_readsItem_136 : decode cX5_readsItem 136 = .ok (.iload 4, 2) := by decide +kernel
theorem dX5_readsItem_138 : decode cX5_readsItem 138 = .ok (.iastore, 1) := by decide +kernel
theorem dX5_readsItem_139 : decode cX5_readsItem 139 = .ok (.aload_n 0, 1) := by decide +kernel
theorem dX5_readsItem_140 : decode cX5_readsItem 140 = .ok (.getfield 16, 3) := by decide +kernel
theorem dX5_readsItem_143 : decode cX5_readsItem 143 = .ok (.iload_n 2, 1) := by decide +kernel
theorem dX5_readsItem_144 : decode cX5_readsItem 144 = .ok (.ifCond .eq 7, 3) := by decide +kernel
theorem dX5_readsItem_147 : decode cX5_readsItem 147 = .ok (.iconst 3, 1) := by decide +kernel
theorem dX5_readsItem_148 : decode cX5_readsItem 148 = .ok (.goto 4, 3) := by decide +kernel
theorem dX5_readsItem_151 : decode cX5_readsItem 151 = .ok (.iconst 0, 1) := by decide +kernel
theorem dX5_readsItem_152 : decode cX5_readsItem 152 = .ok (.dup2, 1) := by decide +kernel
theorem dX5_readsItem_153 : decode cX5_readsItem 153 = .ok (.iaload, 1) := by decide +kernel
theorem dX5_readsItem_154 : decode cX5_readsItem 154 = .ok (.iconst 1, 1) := by decide +kernel
theorem dX5_readsItem_155 : decode cX5_readsItem 155 = .ok (.iadd, 1) := by decide +kernel
theorem dX5_readsItem_156 : decode cX5_readsItem 156 = .ok (.iastore, 1) := by decide +kernel
theorem dX5_readsItem_157 : decode cX5_readsItem 157 = .ok (.iconst 1, 1) := by decide +kernel
theorem dX5_readsItem_158 : decode cX5_readsItem 158 = .ok (.ireturn, 1) := by decide +kernel
def T_X5_readsItem (post : PO) : List (Nat × OP) := [(0, o_iload 1 1), (1, o_const 2 2), (2, o_icmp (fun x y => x = y) 5 31), (5, o_aload 0 6), (6, o_getf 5 4 9), (9, o_const 1 10), (10, o_dup2 11), (11, o_ald 0 12), (12, o_const 1 13), (13, o_bin (fun x y => x + y) 14), (14, o_ast 0 (fun x => x) 15), (15, o_aload 0 16), (16, o_getf 5 4 19), (19, o_const 1 20), (20, o_ald 0 21), (21, o_const 4 22), (22, o_icmp (fun x y => y < x) 29 25), (25, o_const 1 26), (26, o_goto 30), (29, o_const 0 30), (30, o_zret post), (31, o_iload 1 32), (32, o_const 1 33), (33, o_icmp (fun x y => y < x) 42 36), (36, o_iload 1 37), (37, o_const (-9) 39), (39, o_icmp (fun x y => x = y) 42 60), (42, o_iload 1 43), (43, o_const 3 44), (44, o_icmp (fun x y => x = y) 47 58), (47, o_aload 0 48), (48, o_callV 5 S_X5_readsHolds 0 51), (51, o_if (fun x => x = 0) 58 54), (54, o_const 1 55), (55, o_goto 59), (58, o_const 0 59), (59, o_zret post), (60, o_iload 1 61), (61, o_if (fun x => x = 0) 64 68), (64, o_const 1 65), (65, o_goto 69), (68, o_const 0 69), (69, o_istore 2 70), (70, o_aload 0 71), (71, o_getf 5 4 74), (74, o_iload 2 75), (75, o_if (fun x => x = 0) 82 78), (78, o_const 3 79), (79, o_goto 83), (82, o_const 0 83), (83, o_ald 0 84), (84, o_istore 3 85), (85, o_iload 3 86), (86, o_iload 2 87), (87, o_if (fun x => x = 0) 95 90), (90, o_const 8 92), (92, o_goto 97), (95, o_const 6 97), (97, o_icmp (fun x y => x = y) 100 105), (100, o_const (-9) 102), (102, o_goto 109), (105, o_aload 0 106), (106, o_callV 5 S_X5_row 0 109), (109, o_istore 4 111), (111, o_iload 4 113), (113, o_const (-9) 115), (115, o_icmp (fun x y => x = y) 118 120), (118, o_const 0 119), (119, o_zret post), (120, o_aload 0 121), (121, o_getf 5 4 124), (124, o_iload 2 125), (125, o_if (fun x => x = 0) 133 128), (128, o_const 10 130), (130, o_goto 134), (133, o_const 4 134), (134, o_iload 3 135), (135, o_bin (fun x y => x + y) 136), (136, o_iload 4 138), (138, o_ast 0 (fun x => x) 139), (139, o_aload 0 140), (140, o_getf 5 4 143), (143, o_iload 2 144), (144, o_if (fun x => x = 0) 151 147), (147, o_const 3 148), (148, o_goto 152), (151, o_const 0 152), (152, o_dup2 153), (153, o_ald 0 154), (154, o_const 1 155), (155, o_bin (fun x y => x + y) 156), (156, o_ast 0 (fun x => x) 157), (157, o_const 1 158), (158, o_zret post)]
theorem k_X5_readsItem_0 (post : PO) : lk (T_X5_readsItem post) 0 = o_iload 1 1 := rfl
theorem k_X5_readsItem_1 (post : PO) : lk (T_X5_readsItem post) 1 = o_const 2 2 := rfl
theorem k_X5_readsItem_2 (post : PO) : lk (T_X5_readsItem post) 2 = o_icmp (fun x y => x = y) 5 31 := rfl
theorem k_X5_readsItem_5 (post : PO) : lk (T_X5_readsItem post) 5 = o_aload 0 6 := rfl
theorem k_X5_readsItem_6 (post : PO) : lk (T_X5_readsItem post) 6 = o_getf 5 4 9 := rfl
theorem k_X5_readsItem_9 (post : PO) : lk (T_X5_readsItem post) 9 = o_const 1 10 := rfl
theorem k_X5_readsItem_10 (post : PO) : lk (T_X5_readsItem post) 10 = o_dup2 11 := rfl
theorem k_X5_readsItem_11 (post : PO) : lk (T_X5_readsItem post) 11 = o_ald 0 12 := rfl
theorem k_X5_readsItem_12 (post : PO) : lk (T_X5_readsItem post) 12 = o_const 1 13 := rfl
theorem k_X5_readsItem_13 (post : PO) : lk (T_X5_readsItem post) 13 = o_bin (fun x y => x + y) 14 := rfl
theorem k_X5_readsItem_14 (post : PO) : lk (T_X5_readsItem post) 14 = o_ast 0 (fun x => x) 15 := rfl
theorem k_X5_readsItem_15 (post : PO) : lk (T_X5_readsItem post) 15 = o_aload 0 16 := rfl
theorem k_X5_readsItem_16 (post : PO) : lk (T_X5_readsItem post) 16 = o_getf 5 4 19 := rfl
theorem k_X5_readsItem_19 (post : PO) : lk (T_X5_readsItem post) 19 = o_const 1 20 := rfl
theorem k_X5_readsItem_20 (post : PO) : lk (T_X5_readsItem post) 20 = o_ald 0 21 := rfl
theorem k_X5_readsItem_21 (post : PO) : lk (T_X5_readsItem post) 21 = o_const 4 22 := rfl
theorem k_X5_readsItem_22 (post : PO) : lk (T_X5_readsItem post) 22 = o_icmp (fun x y => y < x) 29 25 := rfl
theorem k_X5_readsItem_25 (post : PO) : lk (T_X5_readsItem post) 25 = o_const 1 26 := rfl
theorem k_X5_readsItem_26 (post : PO) : lk (T_X5_readsItem post) 26 = o_goto 30 := rfl
theorem k_X5_readsItem_29 (post : PO) : lk (T_X5_readsItem post) 29 = o_const 0 30 := rfl
theorem k_X5_readsItem_30 (post : PO) : lk (T_X5_readsItem post) 30 = o_zret post := rfl
theorem k_X5_readsItem_31 (post : PO) : lk (T_X5_readsItem post) 31 = o_iload 1 32 := rfl
theorem k_X5_readsItem_32 (post : PO) : lk (T_X5_readsItem post) 32 = o_const 1 33 := rfl
theorem k_X5_readsItem_33 (post : PO) : lk (T_X5_readsItem post) 33 = o_icmp (fun x y => y < x) 42 36 := rfl
theorem k_X5_readsItem_36 (post : PO) : lk (T_X5_readsItem post) 36 = o_iload 1 37 := rfl
theorem k_X5_readsItem_37 (post : PO) : lk (T_X5_readsItem post) 37 = o_const (-9) 39 := rfl
theorem k_X5_readsItem_39 (post : PO) : lk (T_X5_readsItem post) 39 = o_icmp (fun x y => x = y) 42 60 := rfl
theorem k_X5_readsItem_42 (post : PO) : lk (T_X5_readsItem post) 42 = o_iload 1 43 := rfl
theorem k_X5_readsItem_43 (post : PO) : lk (T_X5_readsItem post) 43 = o_const 3 44 := rfl
theorem k_X5_readsItem_44 (post : PO) : lk (T_X5_readsItem post) 44 = o_icmp (fun x y => x = y) 47 58 := rfl
theorem k_X5_readsItem_47 (post : PO) : lk (T_X5_readsItem post) 47 = o_aload 0 48 := rfl
theorem k_X5_readsItem_48 (post : PO) : lk (T_X5_readsItem post) 48 = o_callV 5 S_X5_readsHolds 0 51 := rfl
theorem k_X5_readsItem_51 (post : PO) : lk (T_X5_readsItem post) 51 = o_if (fun x => x = 0) 58 54 := rfl
theorem k_X5_readsItem_54 (post : PO) : lk (T_X5_readsItem post) 54 = o_const 1 55 := rfl
theorem k_X5_readsItem_55 (post : PO) : lk (T_X5_readsItem post) 55 = o_goto 59 := rfl
theorem k_X5_readsItem_58 (post : PO) : lk (T_X5_readsItem post) 58 = o_const 0 59 := rfl
theorem k_X5_readsItem_59 (post : PO) : lk (T_X5_readsItem post) 59 = o_zret post := rfl
theorem k_X5_readsItem_60 (post : PO) : lk (T_X5_readsItem post) 60 = o_iload 1 61 := rfl
theorem k_X5_readsItem_61 (post : PO) : lk (T_X5_readsItem post) 61 = o_if (fun x => x = 0) 64 68 := rfl
theorem k_X5_readsItem_64 (post : PO) : lk (T_X5_readsItem post) 64 = o_const 1 65 := rfl
theorem k_X5_readsItem_65 (post : PO) : lk (T_X5_readsItem post) 65 = o_goto 69 := rfl
theorem k_X5_readsItem_68 (post : PO) : lk (T_X5_readsItem post) 68 = o_const 0 69 := rfl
theorem k_X5_readsItem_69 (post : PO) : lk (T_X5_readsItem post) 69 = o_istore 2 70 := rfl
theorem k_X5_readsItem_70 (post : PO) : lk (T_X5_readsItem post) 70 = o_aload 0 71 := rfl
theorem k_X5_readsItem_71 (post : PO) : lk (T_X5_readsItem post) 71 = o_getf 5 4 74 := rfl
theorem k_X5_readsItem_74 (post : PO) : lk (T_X5_readsItem post) 74 = o_iload 2 75 := rfl
theorem k_X5_readsItem_75 (post : PO) : lk (T_X5_readsItem post) 75 = o_if (fun x => x = 0) 82 78 := rfl
theorem k_X5_readsItem_78 (post : PO) : lk (T_X5_readsItem post) 78 = o_const 3 79 := rfl
theorem k_X5_readsItem_79 (post : PO) : lk (T_X5_readsItem post) 79 = o_goto 83 := rfl
theorem k_X5_readsItem_82 (post : PO) : lk (T_X5_readsItem post) 82 = o_const 0 83 := rfl
theorem k_X5_readsItem_83 (post : PO) : lk (T_X5_readsItem post) 83 = o_ald 0 84 := rfl
theorem k_X5_readsItem_84 (post : PO) : lk (T_X5_readsItem post) 84 = o_istore 3 85 := rfl
theorem k_X5_readsItem_85 (post : PO) : lk (T_X5_readsItem post) 85 = o_iload 3 86 := rfl
theorem k_X5_readsItem_86 (post : PO) : lk (T_X5_readsItem post) 86 = o_iload 2 87 := rfl
theorem k_X5_readsItem_87 (post : PO) : lk (T_X5_readsItem post) 87 = o_if (fun x => x = 0) 95 90 := rfl
theorem k_X5_readsItem_90 (post : PO) : lk (T_X5_readsItem post) 90 = o_const 8 92 := rfl
theorem k_X5_readsItem_92 (post : PO) : lk (T_X5_readsItem post) 92 = o_goto 97 := rfl
theorem k_X5_readsItem_95 (post : PO) : lk (T_X5_readsItem post) 95 = o_const 6 97 := rfl
theorem k_X5_readsItem_97 (post : PO) : lk (T_X5_readsItem post) 97 = o_icmp (fun x y => x = y) 100 105 := rfl
theorem k_X5_readsItem_100 (post : PO) : lk (T_X5_readsItem post) 100 = o_const (-9) 102 := rfl
theorem k_X5_readsItem_102 (post : PO) : lk (T_X5_readsItem post) 102 = o_goto 109 := rfl
theorem k_X5_readsItem_105 (post : PO) : lk (T_X5_readsItem post) 105 = o_aload 0 106 := rfl
theorem k_X5_readsItem_106 (post : PO) : lk (T_X5_readsItem post) 106 = o_callV 5 S_X5_row 0 109 := rfl
theorem k_X5_readsItem_109 (post : PO) : lk (T_X5_readsItem post) 109 = o_istore 4 111 := rfl
theorem k_X5_readsItem_111 (post : PO) : lk (T_X5_readsItem post) 111 = o_iload 4 113 := rfl
theorem k_X5_readsItem_113 (post : PO) : lk (T_X5_readsItem post) 113 = o_const (-9) 115 := rfl
theorem k_X5_readsItem_115 (post : PO) : lk (T_X5_readsItem post) 115 = o_icmp (fun x y => x = y) 118 120 := rfl
theorem k_X5_readsItem_118 (post : PO) : lk (T_X5_readsItem post) 118 = o_const 0 119 := rfl
theorem k_X5_readsItem_119 (post : PO) : lk (T_X5_readsItem post) 119 = o_zret post := rfl
theorem k_X5_readsItem_120 (post : PO) : lk (T_X5_readsItem post) 120 = o_aload 0 121 := rfl
theorem k_X5_readsItem_121 (post : PO) : lk (T_X5_readsItem post) 121 = o_getf 5 4 124 := rfl
theorem k_X5_readsItem_124 (post : PO) : lk (T_X5_readsItem post) 124 = o_iload 2 125 := rfl
theorem k_X5_readsItem_125 (post : PO) : lk (T_X5_readsItem post) 125 = o_if (fun x => x = 0) 133 128 := rfl
theorem k_X5_readsItem_128 (post : PO) : lk (T_X5_readsItem post) 128 = o_const 10 130 := rfl
theorem k_X5_readsItem_130 (post : PO) : lk (T_X5_readsItem post) 130 = o_goto 134 := rfl
theorem k_X5_readsItem_133 (post : PO) : lk (T_X5_readsItem post) 133 = o_const 4 134 := rfl
theorem k_X5_readsItem_134 (post : PO) : lk (T_X5_readsItem post) 134 = o_iload 3 135 := rfl
theorem k_X5_readsItem_135 (post : PO) : lk (T_X5_readsItem post) 135 = o_bin (fun x y => x + y) 136 := rfl
theorem k_X5_readsItem_136 (post : PO) : lk (T_X5_readsItem post) 136 = o_iload 4 138 := rfl
theorem k_X5_readsItem_138 (post : PO) : lk (T_X5_readsItem post) 138 = o_ast 0 (fun x => x) 139 := rfl
theorem k_X5_readsItem_139 (post : PO) : lk (T_X5_readsItem post) 139 = o_aload 0 140 := rfl
theorem k_X5_readsItem_140 (post : PO) : lk (T_X5_readsItem post) 140 = o_getf 5 4 143 := rfl
theorem k_X5_readsItem_143 (post : PO) : lk (T_X5_readsItem post) 143 = o_iload 2 144 := rfl
theorem k_X5_readsItem_144 (post : PO) : lk (T_X5_readsItem post) 144 = o_if (fun x => x = 0) 151 147 := rfl
theorem k_X5_readsItem_147 (post : PO) : lk (T_X5_readsItem post) 147 = o_const 3 148 := rfl
theorem k_X5_readsItem_148 (post : PO) : lk (T_X5_readsItem post) 148 = o_goto 152 := rfl
theorem k_X5_readsItem_151 (post : PO) : lk (T_X5_readsItem post) 151 = o_const 0 152 := rfl
theorem k_X5_readsItem_152 (post : PO) : lk (T_X5_readsItem post) 152 = o_dup2 153 := rfl
theorem k_X5_readsItem_153 (post : PO) : lk (T_X5_readsItem post) 153 = o_ald 0 154 := rfl
theorem k_X5_readsItem_154 (post : PO) : lk (T_X5_readsItem post) 154 = o_const 1 155 := rfl
theorem k_X5_readsItem_155 (post : PO) : lk (T_X5_readsItem post) 155 = o_bin (fun x y => x + y) 156 := rfl
theorem k_X5_readsItem_156 (post : PO) : lk (T_X5_readsItem post) 156 = o_ast 0 (fun x => x) 157 := rfl
theorem k_X5_readsItem_157 (post : PO) : lk (T_X5_readsItem post) 157 = o_const 1 158 := rfl
theorem k_X5_readsItem_158 (post : PO) : lk (T_X5_readsItem post) 158 = o_zret post := rfl
set_option maxRecDepth 100000 in
theorem t_X5_readsItem {p : Program} {l : Launch} {e : Env} {s : State} {m : MethodId} {args : Array Value} {below : List Frame} {meth : Method} {c : Code} {D : va_G} {dA : Nat → ClassId} {ad : Nat → Nat} (post : PO) (C : CX p s m args meth c cX5_readsItem 5 yX5_readsItem.cls D dA ad (AA ad s.heap.size)) (hr : meth.sig.returnType = (some .boolean)) : SndL (WW p l e ({ frames := 5, cells := 0, slots := 0, locals := 106 } : Room) s m args below meth c 0 0 (MQ below (CQ D dA ad post (AA ad s.heap.size)) args s 0 0 (AA ad s.heap.size)) 5 D dA ad (AA ad s.heap.size)) (T_X5_readsItem post) := by
  refine snd_c (s_iload_n C rfl dX5_readsItem_0) ?_
  refine snd_c (s_iconst C dX5_readsItem_1 rfl) ?_
  refine snd_c (s_icmp_ne C dX5_readsItem_2 (by decide)) ?_
  refine snd_c (s_aload_n C rfl dX5_readsItem_5) ?_
  refine snd_c (s_getf C (ci := 5) (j := 4) (T := TX5) rfl inX5 (by decide) fl_RX5_16 dX5_readsItem_6) ?_
  refine snd_c (s_iconst C dX5_readsItem_9 rfl) ?_
  refine snd_c (s_dup2 C dX5_readsItem_10) ?_
  refine snd_c (s_iald C dX5_readsItem_11) ?_
  refine snd_c (s_iconst C dX5_readsItem_12 rfl) ?_
  refine snd_c (s_iadd C dX5_readsItem_13) ?_
  refine snd_c (s_iast C dX5_readsItem_14) ?_
  refine snd_c (s_aload_n C rfl dX5_readsItem_15) ?_
  refine snd_c (s_getf C (ci := 5) (j := 4) (T := TX5) rfl inX5 (by decide) fl_RX5_16 dX5_readsItem_16) ?_
  refine snd_c (s_iconst C dX5_readsItem_19 rfl) ?_
  refine snd_c (s_iald C dX5_readsItem_20) ?_
  refine snd_c (s_iconst C dX5_readsItem_21 rfl) ?_
  refine snd_c (s_icmp_gt C dX5_readsItem_22 (by decide)) ?_
  refine snd_c (s_iconst C dX5_readsItem_25 rfl) ?_
  refine snd_c (s_goto C dX5_readsItem_26 (by decide)) ?_
  refine snd_c (s_iconst C dX5_readsItem_29 rfl) ?_
  refine snd_c (s_zret C hr ⟨rfl, rfl⟩ dX5_readsItem_30) ?_
  refine snd_c (s_iload_n C rfl dX5_readsItem_31) ?_
  refine snd_c (s_iconst C dX5_readsItem_32 rfl) ?_
  refine snd_c (s_icmp_gt C dX5_readsItem_33 (by decide)) ?_
  refine snd_c (s_iload_n C rfl dX5_readsItem_36) ?_
  refine snd_c (s_bipush C dX5_readsItem_37 rfl) ?_
  refine snd_c (s_icmp_ne C dX5_readsItem_39 (by decide)) ?_
  refine snd_c (s_iload_n C rfl dX5_readsItem_42) ?_
  refine snd_c (s_iconst C dX5_readsItem_43 rfl) ?_
  refine snd_c (s_icmp_ne C dX5_readsItem_44 (by decide)) ?_
  refine snd_c (s_aload_n C rfl dX5_readsItem_47) ?_
  refine snd_c (s_callV C (ci := 5) c_X5_readsHolds rfl cw_RX5_80 ⟨rfl, rfl⟩ ⟨by decide +kernel, by decide +kernel, by decide +kernel⟩ ⟨by decide, by decide⟩ ⟨Nat.zero_le _, Nat.zero_le _⟩ dX5_readsItem_48) ?_
  refine snd_c (s_if_eq C dX5_readsItem_51 (by decide)) ?_
  refine snd_c (s_iconst C dX5_readsItem_54 rfl) ?_
  refine snd_c (s_goto C dX5_readsItem_55 (by decide)) ?_
  refine snd_c (s_iconst C dX5_readsItem_58 rfl) ?_
  refine snd_c (s_zret C hr ⟨rfl, rfl⟩ dX5_readsItem_59) ?_
  refine snd_c (s_iload_n C rfl dX5_readsItem_60) ?_
  refine snd_c (s_if_ne C dX5_readsItem_61 (by decide)) ?_
  refine snd_c (s_iconst C dX5_readsItem_64 rfl) ?_
  refine snd_c (s_goto C dX5_readsItem_65 (by decide)) ?_
  refine snd_c (s_iconst C dX5_readsItem_68 rfl) ?_
  refine snd_c (s_istore_n C rfl (by decide) dX5_readsItem_69) ?_
  refine snd_c (s_aload_n C rfl dX5_readsItem_70) ?_
  refine snd_c (s_getf C (ci := 5) (j := 4) (T := TX5) rfl inX5 (by decide) fl_RX5_16 dX5_readsItem_71) ?_
  refine snd_c (s_iload_n C rfl dX5_readsItem_74) ?_
  refine snd_c (s_if_eq C dX5_readsItem_75 (by decide)) ?_
  refine snd_c (s_iconst C dX5_readsItem_78 rfl) ?_
  refine snd_c (s_goto C dX5_readsItem_79 (by decide)) ?_
  refine snd_c (s_iconst C dX5_readsItem_82 rfl) ?_
  refine snd_c (s_iald C dX5_readsItem_83) ?_
  refine snd_c (s_istore_n C rfl (by decide) dX5_readsItem_84) ?_
  refine snd_c (s_iload_n C rfl dX5_readsItem_85) ?_
  refine snd_c (s_iload_n C rfl dX5_readsItem_86) ?_
  refine snd_c (s_if_eq C dX5_readsItem_87 (by decide)) ?_
  refine snd_c (s_bipush C dX5_readsItem_90 rfl) ?_
  refine snd_c (s_goto C dX5_readsItem_92 (by decide)) ?_
  refine snd_c (s_bipush C dX5_readsItem_95 rfl) ?_
  refine snd_c (s_icmp_ne C dX5_readsItem_97 (by decide)) ?_
  refine snd_c (s_bipush C dX5_readsItem_100 rfl) ?_
  refine snd_c (s_goto C dX5_readsItem_102 (by decide)) ?_
  refine snd_c (s_aload_n C rfl dX5_readsItem_105) ?_
  refine snd_c (s_callV C (ci := 5) c_X5_row rfl cw_RX5_84 ⟨rfl, rfl⟩ ⟨by decide +kernel, by decide +kernel, by decide +kernel⟩ ⟨by decide, by decide⟩ ⟨Nat.zero_le _, Nat.zero_le _⟩ dX5_readsItem_106) ?_
  refine snd_c (s_istore C (by decide) dX5_readsItem_109) ?_
  refine snd_c (s_iload C dX5_readsItem_111) ?_
  refine snd_c (s_bipush C dX5_readsItem_113 rfl) ?_
  refine snd_c (s_icmp_ne C dX5_readsItem_115 (by decide)) ?_
  refine snd_c (s_iconst C dX5_readsItem_118 rfl) ?_
  refine snd_c (s_zret C hr ⟨rfl, rfl⟩ dX5_readsItem_119) ?_
  refine snd_c (s_aload_n C rfl dX5_readsItem_120) ?_
  refine snd_c (s_getf C (ci := 5) (j := 4) (T := TX5) rfl inX5 (by decide) fl_RX5_16 dX5_readsItem_121) ?_
  refine snd_c (s_iload_n C rfl dX5_readsItem_124) ?_
  refine snd_c (s_if_eq C dX5_readsItem_125 (by decide)) ?_
  refine snd_c (s_bipush C dX5_readsItem_128 rfl) ?_
  refine snd_c (s_goto C dX5_readsItem_130 (by decide)) ?_
  refine snd_c (s_iconst C dX5_readsItem_133 rfl) ?_
  refine snd_c (s_iload_n C rfl dX5_readsItem_134) ?_
  refine snd_c (s_iadd C dX5_readsItem_135) ?_
  refine snd_c (s_iload C dX5_readsItem_136) ?_
  refine snd_c (s_iast C dX5_readsItem_138) ?_
  refine snd_c (s_aload_n C rfl dX5_readsItem_139) ?_
  refine snd_c (s_getf C (ci := 5) (j := 4) (T := TX5) rfl inX5 (by decide) fl_RX5_16 dX5_readsItem_140) ?_
  refine snd_c (s_iload_n C rfl dX5_readsItem_143) ?_
  refine snd_c (s_if_eq C dX5_readsItem_144 (by decide)) ?_
  refine snd_c (s_iconst C dX5_readsItem_147 rfl) ?_
  refine snd_c (s_goto C dX5_readsItem_148 (by decide)) ?_
  refine snd_c (s_iconst C dX5_readsItem_151 rfl) ?_
  refine snd_c (s_dup2 C dX5_readsItem_152) ?_
  refine snd_c (s_iald C dX5_readsItem_153) ?_
  refine snd_c (s_iconst C dX5_readsItem_154 rfl) ?_
  refine snd_c (s_iadd C dX5_readsItem_155) ?_
  refine snd_c (s_iast C dX5_readsItem_156) ?_
  refine snd_c (s_iconst C dX5_readsItem_157 rfl) ?_
  refine snd_c (s_zret C hr ⟨rfl, rfl⟩ dX5_readsItem_158) ?_
  exact trivial
set_option maxRecDepth 100000 in
theorem v_X5_readsItem : ∀ as M post, S_X5_readsItem as M post → wsum as ≤ 5 ∧ RUN (T_X5_readsItem post) 0 (entL 5 as) [] M := by
  rintro as M post ⟨L, t, p, q, d, M0, rfl, hT, hpL, rfl, hD, hk0, h1, h2⟩
  have hT2 := hT.2.1
  have htb : ∀ j, j < L → t j < 256 := fun j hj => (hT.2.2 j hj).2
  have hD0 := hD
  obtain ⟨hd, c, pp, n, hc, hpp, hn, e0, e1, e3⟩ := hD
  have hTT : TT (tkN t L p M0) L t := TT_of hT rfl rfl
  have hst : ∀ v, stp 0 q d (tkK t L p) v = if tkK t L p = 5 then (if d 3 < 8 then some (2, q, d) else none) else if tkK t L p = 6 then (if d 0 < 6 then some (3, q, d) else none) else if tkK t L p = 7 then (if d 1 < 4 then some (1, q, upd d 1 (d 1 + 1)) else none) else if tkK t L p = 8 then some (4, q, d) else none := fun v => rfl
  have l1 : d 3 < 8 ↔ n < 8 := by rw [e3, show (8 : Int32) = nI 8 from rfl]; exact nI_ltI (by omega) (by omega)
  have l2 : d 0 < 6 ↔ c < 6 := by rw [e0, show (6 : Int32) = nI 6 from rfl]; exact nI_ltI (by omega) (by omega)
  have l3 : d 1 < 4 ↔ pp < 4 := by rw [e1, show (4 : Int32) = nI 4 from rfl]; exact nI_ltI (by omega) (by omega)
  have R : ∀ k, k < 28 → (tkN t L p M0).2.2 32 k = d k := hd
  have fl : ∀ {x : Int32}, ¬ x = 1 → ¬ x = 1 := fun z => z
  refine ⟨by show 2 ≤ 5; omega, run_wp 120 ?_⟩
  rcases vb_K (p := p) htb with ⟨k1, k2, k3⟩ | ⟨k1, k2, k3⟩ | ⟨k1, k2, k3⟩ | ⟨k1, k2, k3⟩ | ⟨k1, k5, k6, k7, k8⟩
  · rw [k1]
    have hs2 := hst (tkV t L p 0)
    rw [if_pos k2] at hs2
    dsimp only [k_X5_readsItem_0, k_X5_readsItem_1, k_X5_readsItem_2, k_X5_readsItem_5, k_X5_readsItem_6, k_X5_readsItem_9, k_X5_readsItem_10, k_X5_readsItem_11, k_X5_readsItem_12, k_X5_readsItem_13, k_X5_readsItem_14, k_X5_readsItem_15, k_X5_readsItem_16, k_X5_readsItem_19, k_X5_readsItem_20, k_X5_readsItem_21, k_X5_readsItem_22, k_X5_readsItem_25, k_X5_readsItem_26, k_X5_readsItem_29, k_X5_readsItem_30, k_X5_readsItem_31, k_X5_readsItem_32, k_X5_readsItem_33, k_X5_readsItem_36, k_X5_readsItem_37, k_X5_readsItem_39, k_X5_readsItem_42, k_X5_readsItem_43, k_X5_readsItem_44, k_X5_readsItem_47, k_X5_readsItem_48, k_X5_readsItem_51, k_X5_readsItem_54, k_X5_readsItem_55, k_X5_readsItem_58, k_X5_readsItem_59, k_X5_readsItem_60, k_X5_readsItem_61, k_X5_readsItem_64, k_X5_readsItem_65, k_X5_readsItem_68, k_X5_readsItem_69, k_X5_readsItem_70, k_X5_readsItem_71, k_X5_readsItem_74, k_X5_readsItem_75, k_X5_readsItem_78, k_X5_readsItem_79, k_X5_readsItem_82, k_X5_readsItem_83, k_X5_readsItem_84, k_X5_readsItem_85, k_X5_readsItem_86, k_X5_readsItem_87, k_X5_readsItem_90, k_X5_readsItem_92, k_X5_readsItem_95, k_X5_readsItem_97, k_X5_readsItem_100, k_X5_readsItem_102, k_X5_readsItem_105, k_X5_readsItem_106, k_X5_readsItem_109, k_X5_readsItem_111, k_X5_readsItem_113, k_X5_readsItem_115, k_X5_readsItem_118, k_X5_readsItem_119, k_X5_readsItem_120, k_X5_readsItem_121, k_X5_readsItem_124, k_X5_readsItem_125, k_X5_readsItem_128, k_X5_readsItem_130, k_X5_readsItem_133, k_X5_readsItem_134, k_X5_readsItem_135, k_X5_readsItem_136, k_X5_readsItem_138, k_X5_readsItem_139, k_X5_readsItem_140, k_X5_readsItem_143, k_X5_readsItem_144, k_X5_readsItem_147, k_X5_readsItem_148, k_X5_readsItem_151, k_X5_readsItem_152, k_X5_readsItem_153, k_X5_readsItem_154, k_X5_readsItem_155, k_X5_readsItem_156, k_X5_readsItem_157, k_X5_readsItem_158, wp1, wp_s, cutIn, kont, Nat.reduceSub, Nat.reduceAdd, nth, o_const, o_lconst, o_ref, o_iload, o_lload, o_aload, o_istore, o_lstore, o_astore, o_iinc, o_bin, o_div, o_un, o_lbin, o_lsh, o_lcmp, o_i2l, o_l2i, o_if, o_icmp, o_goto, o_dup, o_dup2, o_pop, fav, o_getf, o_putI, o_putZ, o_putL, o_ald, o_ast, o_alen, popn, rst, o_callV, o_callT, o_callS, swx, o_sw, o_ret, o_iret, o_zret, o_cret, o_lret, o_aret, lg, lput, lput2, ls1, isL, entL, wsum, rdI1, rdI2, rdA1, rdA21, rdA22, rdL1, rdL22, rdL21, upN_at, rep, sh_0, F_0_0, F_0_1, F_0_2, F_0_3, F_0_4, F_0_5, F_0_6, F_0_7, F_0_8, sh_1, F_1_0, F_1_1, F_1_2, F_1_3, F_1_4, F_1_5, sh_3, F_3_0, F_3_1, F_3_2, F_3_3, F_3_4, F_3_5, sh_5, F_5_0, F_5_1, F_5_2, F_5_3, F_5_4, F_5_5, F_5_6, F_5_7, F_5_8, sh_12, F_12_0, F_12_1, F_12_2, F_12_3, F_12_4, F_12_5, sh_14, F_14_0, F_14_1, F_14_2, F_14_3, F_14_4, F_14_5, F_14_6, F_14_7, F_14_8, sh_21, F_21_0, F_21_1, F_21_2, F_21_3, F_21_4, F_21_5, F_21_6, F_21_7, F_21_8, sh_28, F_28_0, F_28_1, F_28_2, F_28_3, F_28_4, F_28_5, F_28_6, F_28_7, F_28_8, sh_35, F_35_0, sh_39, F_39_0, F_39_1, F_39_2, F_39_3, F_39_4, F_39_5, F_39_6, F_39_7, F_39_8, F_39_9, F_39_10, F_39_11, F_39_12, F_39_13, A_2, A_4, A_6, A_7, A_8, A_9, A_10, A_11, A_13, A_15, A_16, A_17, A_18, A_19, A_20, A_22, A_23, A_24, A_25, A_26, A_27, A_29, A_30, A_31, A_32, A_33, A_34, A_36, A_37, A_38, A_40, A_41, A_42, A_43, A_44, A_45, A_46, A_47]
    simp (config := { decide := true }) only [true_implies, false_implies, and_true, true_and, not_true_eq_false, not_false_eq_true, forall_const]
    refine ⟨3, by omega, rfl, ?_⟩
    rw [R 3 (by omega), e3, show (8 : Int32) = nI 8 from rfl, nI_eq (by omega) (by omega)]
    refine ⟨fun z => ?_, fun z => ?_⟩
    · rw [if_neg (fun w => absurd (l1.mp w) (by omega))] at hs2
      exact h1 _ (PR_n hpL hT2 (Or.inr hk0) hs2) _ (frM_rf _) rfl
    · rw [if_pos (l1.mpr (by omega))] at hs2
      obtain ⟨w1, w2, w3⟩ := PR_s hpL hT2 hk0 hs2
      rw [if_neg (by rw [k2]; decide)] at w1
      dsimp only at w1
      rw [k3] at w1 w2 w3
      have hf : frM (tkN t L p M0) (tkN t L (tkE t L p) (tkN t L p M0)) := frM_N (frM_rf _) t L _
      refine ⟨L, t, tkE t L p, rfl, hTT, rfl, by omega, fun g1 g2 => ?_, fun g => ?_⟩
      · have hK := tk_row.mp ⟨g1, g2⟩
        obtain ⟨v1, v2⟩ := tk_rowV hK
        rw [← v1]
        have hst2 : stp 2 q d (tkK t L (tkE t L p)) (tkV t L (tkE t L p) 0) = some (1, q, upd (upd d (10 + n) (tkV t L (tkE t L p) 0)) 3 (d 3 + 1)) := by
          rw [hK]
          show (if (3 : Int32) = 3 ∧ d 3 < 8 then some (1, q, upd (upd d (10 + (d 3).toNatClampNeg) _) 3 (d 3 + 1)) else none) = _
          rw [if_pos ⟨rfl, l1.mpr (by omega)⟩, e3, nI_clamp (by omega)]
        obtain ⟨y1, y2, y3⟩ := PR_s w3 hT2 (by rw [hK]; decide) hst2
        rw [if_neg (by rw [hK]; decide)] at y1
        dsimp only at y1
        rw [v2] at y1 y2 y3
        have n9 : ¬ tkV t L (tkE t L p) 0 = -9 := by
          rw [v1]
          exact ne9 (Nat.lt_of_lt_of_le (mk_lt _ 9) (by omega))
        dsimp only [k_X5_readsItem_0, k_X5_readsItem_1, k_X5_readsItem_2, k_X5_readsItem_5, k_X5_readsItem_6, k_X5_readsItem_9, k_X5_readsItem_10, k_X5_readsItem_11, k_X5_readsItem_12, k_X5_readsItem_13, k_X5_readsItem_14, k_X5_readsItem_15, k_X5_readsItem_16, k_X5_readsItem_19, k_X5_readsItem_20, k_X5_readsItem_21, k_X5_readsItem_22, k_X5_readsItem_25, k_X5_readsItem_26, k_X5_readsItem_29, k_X5_readsItem_30, k_X5_readsItem_31, k_X5_readsItem_32, k_X5_readsItem_33, k_X5_readsItem_36, k_X5_readsItem_37, k_X5_readsItem_39, k_X5_readsItem_42, k_X5_readsItem_43, k_X5_readsItem_44, k_X5_readsItem_47, k_X5_readsItem_48, k_X5_readsItem_51, k_X5_readsItem_54, k_X5_readsItem_55, k_X5_readsItem_58, k_X5_readsItem_59, k_X5_readsItem_60, k_X5_readsItem_61, k_X5_readsItem_64, k_X5_readsItem_65, k_X5_readsItem_68, k_X5_readsItem_69, k_X5_readsItem_70, k_X5_readsItem_71, k_X5_readsItem_74, k_X5_readsItem_75, k_X5_readsItem_78, k_X5_readsItem_79, k_X5_readsItem_82, k_X5_readsItem_83, k_X5_readsItem_84, k_X5_readsItem_85, k_X5_readsItem_86, k_X5_readsItem_87, k_X5_readsItem_90, k_X5_readsItem_92, k_X5_readsItem_95, k_X5_readsItem_97, k_X5_readsItem_100, k_X5_readsItem_102, k_X5_readsItem_105, k_X5_readsItem_106, k_X5_readsItem_109, k_X5_readsItem_111, k_X5_readsItem_113, k_X5_readsItem_115, k_X5_readsItem_118, k_X5_readsItem_119, k_X5_readsItem_120, k_X5_readsItem_121, k_X5_readsItem_124, k_X5_readsItem_125, k_X5_readsItem_128, k_X5_readsItem_130, k_X5_readsItem_133, k_X5_readsItem_134, k_X5_readsItem_135, k_X5_readsItem_136, k_X5_readsItem_138, k_X5_readsItem_139, k_X5_readsItem_140, k_X5_readsItem_143, k_X5_readsItem_144, k_X5_readsItem_147, k_X5_readsItem_148, k_X5_readsItem_151, k_X5_readsItem_152, k_X5_readsItem_153, k_X5_readsItem_154, k_X5_readsItem_155, k_X5_readsItem_156, k_X5_readsItem_157, k_X5_readsItem_158, wp1, wp_s, cutIn, kont, Nat.reduceSub, Nat.reduceAdd, nth, o_const, o_lconst, o_ref, o_iload, o_lload, o_aload, o_istore, o_lstore, o_astore, o_iinc, o_bin, o_div, o_un, o_lbin, o_lsh, o_lcmp, o_i2l, o_l2i, o_if, o_icmp, o_goto, o_dup, o_dup2, o_pop, fav, o_getf, o_putI, o_putZ, o_putL, o_ald, o_ast, o_alen, popn, rst, o_callV, o_callT, o_callS, swx, o_sw, o_ret, o_iret, o_zret, o_cret, o_lret, o_aret, lg, lput, lput2, ls1, isL, entL, wsum, rdI1, rdI2, rdA1, rdA21, rdA22, rdL1, rdL22, rdL21, upN_at, rep, sh_0, F_0_0, F_0_1, F_0_2, F_0_3, F_0_4, F_0_5, F_0_6, F_0_7, F_0_8, sh_1, F_1_0, F_1_1, F_1_2, F_1_3, F_1_4, F_1_5, sh_3, F_3_0, F_3_1, F_3_2, F_3_3, F_3_4, F_3_5, sh_5, F_5_0, F_5_1, F_5_2, F_5_3, F_5_4, F_5_5, F_5_6, F_5_7, F_5_8, sh_12, F_12_0, F_12_1, F_12_2, F_12_3, F_12_4, F_12_5, sh_14, F_14_0, F_14_1, F_14_2, F_14_3, F_14_4, F_14_5, F_14_6, F_14_7, F_14_8, sh_21, F_21_0, F_21_1, F_21_2, F_21_3, F_21_4, F_21_5, F_21_6, F_21_7, F_21_8, sh_28, F_28_0, F_28_1, F_28_2, F_28_3, F_28_4, F_28_5, F_28_6, F_28_7, F_28_8, sh_35, F_35_0, sh_39, F_39_0, F_39_1, F_39_2, F_39_3, F_39_4, F_39_5, F_39_6, F_39_7, F_39_8, F_39_9, F_39_10, F_39_11, F_39_12, F_39_13, A_2, A_4, A_6, A_7, A_8, A_9, A_10, A_11, A_13, A_15, A_16, A_17, A_18, A_19, A_20, A_22, A_23, A_24, A_25, A_26, A_27, A_29, A_30, A_31, A_32, A_33, A_34, A_36, A_37, A_38, A_40, A_41, A_42, A_43, A_44, A_45, A_46, A_47]
        simp (config := { decide := true }) only [true_implies, false_implies, and_true, true_and, not_true_eq_false, not_false_eq_true, forall_const]
        refine ⟨fun w => absurd w n9, fun _ => ⟨10 + n, by omega, nI_add 10 n, 3, by omega, rfl, 3, by omega, rfl, ?_⟩⟩
        simp only [sA_sA, sA_cm, sI_sA, sI_sI, sI_cm, sL_sA, sL_sI, sL_sL, sL_cm, Nat.reduceLT]
        refine h2 _ q _ (by omega) y3 (w1.trans y1) _ (frM_A hf _) rfl ⟨?_, c, pp, n + 1, hc, hpp, by omega, ?_, ?_, ?_⟩
        · intro k hk
          rw [show d 3 = upd (M0.2.2 32) (10 + n) (tkV t L (tkE t L p) 0) 3 by rw [upd_n _ _ (by omega)]; exact (hd 3 (by omega)).symm]
          exact upd_cg (upd_cg hd (10 + n) _) 3 _ k hk
        · rw [upd_n _ _ (by omega), upd_n _ _ (by omega)]; exact e0
        · rw [upd_n _ _ (by omega), upd_n _ _ (by omega)]; exact e1
        · rw [upd_s, e3, nI_1]
      · have hst2 : stp 2 q d (tkK t L (tkE t L p)) (tkV t L (tkE t L p) 0) = none := by
          show (if tkK t L (tkE t L p) = 3 ∧ d 3 < 8 then _ else none) = none
          rw [if_neg (fun w => g (tk_row.mpr w.1))]
        dsimp only [k_X5_readsItem_0, k_X5_readsItem_1, k_X5_readsItem_2, k_X5_readsItem_5, k_X5_readsItem_6, k_X5_readsItem_9, k_X5_readsItem_10, k_X5_readsItem_11, k_X5_readsItem_12, k_X5_readsItem_13, k_X5_readsItem_14, k_X5_readsItem_15, k_X5_readsItem_16, k_X5_readsItem_19, k_X5_readsItem_20, k_X5_readsItem_21, k_X5_readsItem_22, k_X5_readsItem_25, k_X5_readsItem_26, k_X5_readsItem_29, k_X5_readsItem_30, k_X5_readsItem_31, k_X5_readsItem_32, k_X5_readsItem_33, k_X5_readsItem_36, k_X5_readsItem_37, k_X5_readsItem_39, k_X5_readsItem_42, k_X5_readsItem_43, k_X5_readsItem_44, k_X5_readsItem_47, k_X5_readsItem_48, k_X5_readsItem_51, k_X5_readsItem_54, k_X5_readsItem_55, k_X5_readsItem_58, k_X5_readsItem_59, k_X5_readsItem_60, k_X5_readsItem_61, k_X5_readsItem_64, k_X5_readsItem_65, k_X5_readsItem_68, k_X5_readsItem_69, k_X5_readsItem_70, k_X5_readsItem_71, k_X5_readsItem_74, k_X5_readsItem_75, k_X5_readsItem_78, k_X5_readsItem_79, k_X5_readsItem_82, k_X5_readsItem_83, k_X5_readsItem_84, k_X5_readsItem_85, k_X5_readsItem_86, k_X5_readsItem_87, k_X5_readsItem_90, k_X5_readsItem_92, k_X5_readsItem_95, k_X5_readsItem_97, k_X5_readsItem_100, k_X5_readsItem_102, k_X5_readsItem_105, k_X5_readsItem_106, k_X5_readsItem_109, k_X5_readsItem_111, k_X5_readsItem_113, k_X5_readsItem_115, k_X5_readsItem_118, k_X5_readsItem_119, k_X5_readsItem_120, k_X5_readsItem_121, k_X5_readsItem_124, k_X5_readsItem_125, k_X5_readsItem_128, k_X5_readsItem_130, k_X5_readsItem_133, k_X5_readsItem_134, k_X5_readsItem_135, k_X5_readsItem_136, k_X5_readsItem_138, k_X5_readsItem_139, k_X5_readsItem_140, k_X5_readsItem_143, k_X5_readsItem_144, k_X5_readsItem_147, k_X5_readsItem_148, k_X5_readsItem_151, k_X5_readsItem_152, k_X5_readsItem_153, k_X5_readsItem_154, k_X5_readsItem_155, k_X5_readsItem_156, k_X5_readsItem_157, k_X5_readsItem_158, wp1, wp_s, cutIn, kont, Nat.reduceSub, Nat.reduceAdd, nth, o_const, o_lconst, o_ref, o_iload, o_lload, o_aload, o_istore, o_lstore, o_astore, o_iinc, o_bin, o_div, o_un, o_lbin, o_lsh, o_lcmp, o_i2l, o_l2i, o_if, o_icmp, o_goto, o_dup, o_dup2, o_pop, fav, o_getf, o_putI, o_putZ, o_putL, o_ald, o_ast, o_alen, popn, rst, o_callV, o_callT, o_callS, swx, o_sw, o_ret, o_iret, o_zret, o_cret, o_lret, o_aret, lg, lput, lput2, ls1, isL, entL, wsum, rdI1, rdI2, rdA1, rdA21, rdA22, rdL1, rdL22, rdL21, upN_at, rep, sh_0, F_0_0, F_0_1, F_0_2, F_0_3, F_0_4, F_0_5, F_0_6, F_0_7, F_0_8, sh_1, F_1_0, F_1_1, F_1_2, F_1_3, F_1_4, F_1_5, sh_3, F_3_0, F_3_1, F_3_2, F_3_3, F_3_4, F_3_5, sh_5, F_5_0, F_5_1, F_5_2, F_5_3, F_5_4, F_5_5, F_5_6, F_5_7, F_5_8, sh_12, F_12_0, F_12_1, F_12_2, F_12_3, F_12_4, F_12_5, sh_14, F_14_0, F_14_1, F_14_2, F_14_3, F_14_4, F_14_5, F_14_6, F_14_7, F_14_8, sh_21, F_21_0, F_21_1, F_21_2, F_21_3, F_21_4, F_21_5, F_21_6, F_21_7, F_21_8, sh_28, F_28_0, F_28_1, F_28_2, F_28_3, F_28_4, F_28_5, F_28_6, F_28_7, F_28_8, sh_35, F_35_0, sh_39, F_39_0, F_39_1, F_39_2, F_39_3, F_39_4, F_39_5, F_39_6, F_39_7, F_39_8, F_39_9, F_39_10, F_39_11, F_39_12, F_39_13, A_2, A_4, A_6, A_7, A_8, A_9, A_10, A_11, A_13, A_15, A_16, A_17, A_18, A_19, A_20, A_22, A_23, A_24, A_25, A_26, A_27, A_29, A_30, A_31, A_32, A_33, A_34, A_36, A_37, A_38, A_40, A_41, A_42, A_43, A_44, A_45, A_46, A_47]
        simp (config := { decide := true }) only [true_implies, false_implies, and_true, true_and, not_true_eq_false, not_false_eq_true, forall_const]
        exact h1 _ (w1.trans (PR_n w3 hT2 (Or.inl (by omega)) hst2)) _ hf rfl
  · rw [k1]
    have hs2 := hst (tkV t L p 0)
    rw [if_neg (by rw [k2]; decide), if_pos k2] at hs2
    dsimp only [k_X5_readsItem_0, k_X5_readsItem_1, k_X5_readsItem_2, k_X5_readsItem_5, k_X5_readsItem_6, k_X5_readsItem_9, k_X5_readsItem_10, k_X5_readsItem_11, k_X5_readsItem_12, k_X5_readsItem_13, k_X5_readsItem_14, k_X5_readsItem_15, k_X5_readsItem_16, k_X5_readsItem_19, k_X5_readsItem_20, k_X5_readsItem_21, k_X5_readsItem_22, k_X5_readsItem_25, k_X5_readsItem_26, k_X5_readsItem_29, k_X5_readsItem_30, k_X5_readsItem_31, k_X5_readsItem_32, k_X5_readsItem_33, k_X5_readsItem_36, k_X5_readsItem_37, k_X5_readsItem_39, k_X5_readsItem_42, k_X5_readsItem_43, k_X5_readsItem_44, k_X5_readsItem_47, k_X5_readsItem_48, k_X5_readsItem_51, k_X5_readsItem_54, k_X5_readsItem_55, k_X5_readsItem_58, k_X5_readsItem_59, k_X5_readsItem_60, k_X5_readsItem_61, k_X5_readsItem_64, k_X5_readsItem_65, k_X5_readsItem_68, k_X5_readsItem_69, k_X5_readsItem_70, k_X5_readsItem_71, k_X5_readsItem_74, k_X5_readsItem_75, k_X5_readsItem_78, k_X5_readsItem_79, k_X5_readsItem_82, k_X5_readsItem_83, k_X5_readsItem_84, k_X5_readsItem_85, k_X5_readsItem_86, k_X5_readsItem_87, k_X5_readsItem_90, k_X5_readsItem_92, k_X5_readsItem_95, k_X5_readsItem_97, k_X5_readsItem_100, k_X5_readsItem_102, k_X5_readsItem_105, k_X5_readsItem_106, k_X5_readsItem_109, k_X5_readsItem_111, k_X5_readsItem_113, k_X5_readsItem_115, k_X5_readsItem_118, k_X5_readsItem_119, k_X5_readsItem_120, k_X5_readsItem_121, k_X5_readsItem_124, k_X5_readsItem_125, k_X5_readsItem_128, k_X5_readsItem_130, k_X5_readsItem_133, k_X5_readsItem_134, k_X5_readsItem_135, k_X5_readsItem_136, k_X5_readsItem_138, k_X5_readsItem_139, k_X5_readsItem_140, k_X5_readsItem_143, k_X5_readsItem_144, k_X5_readsItem_147, k_X5_readsItem_148, k_X5_readsItem_151, k_X5_readsItem_152, k_X5_readsItem_153, k_X5_readsItem_154, k_X5_readsItem_155, k_X5_readsItem_156, k_X5_readsItem_157, k_X5_readsItem_158, wp1, wp_s, cutIn, kont, Nat.reduceSub, Nat.reduceAdd, nth, o_const, o_lconst, o_ref, o_iload, o_lload, o_aload, o_istore, o_lstore, o_astore, o_iinc, o_bin, o_div, o_un, o_lbin, o_lsh, o_lcmp, o_i2l, o_l2i, o_if, o_icmp, o_goto, o_dup, o_dup2, o_pop, fav, o_getf, o_putI, o_putZ, o_putL, o_ald, o_ast, o_alen, popn, rst, o_callV, o_callT, o_callS, swx, o_sw, o_ret, o_iret, o_zret, o_cret, o_lret, o_aret, lg, lput, lput2, ls1, isL, entL, wsum, rdI1, rdI2, rdA1, rdA21, rdA22, rdL1, rdL22, rdL21, upN_at, rep, sh_0, F_0_0, F_0_1, F_0_2, F_0_3, F_0_4, F_0_5, F_0_6, F_0_7, F_0_8, sh_1, F_1_0, F_1_1, F_1_2, F_1_3, F_1_4, F_1_5, sh_3, F_3_0, F_3_1, F_3_2, F_3_3, F_3_4, F_3_5, sh_5, F_5_0, F_5_1, F_5_2, F_5_3, F_5_4, F_5_5, F_5_6, F_5_7, F_5_8, sh_12, F_12_0, F_12_1, F_12_2, F_12_3, F_12_4, F_12_5, sh_14, F_14_0, F_14_1, F_14_2, F_14_3, F_14_4, F_14_5, F_14_6, F_14_7, F_14_8, sh_21, F_21_0, F_21_1, F_21_2, F_21_3, F_21_4, F_21_5, F_21_6, F_21_7, F_21_8, sh_28, F_28_0, F_28_1, F_28_2, F_28_3, F_28_4, F_28_5, F_28_6, F_28_7, F_28_8, sh_35, F_35_0, sh_39, F_39_0, F_39_1, F_39_2, F_39_3, F_39_4, F_39_5, F_39_6, F_39_7, F_39_8, F_39_9, F_39_10, F_39_11, F_39_12, F_39_13, A_2, A_4, A_6, A_7, A_8, A_9, A_10, A_11, A_13, A_15, A_16, A_17, A_18, A_19, A_20, A_22, A_23, A_24, A_25, A_26, A_27, A_29, A_30, A_31, A_32, A_33, A_34, A_36, A_37, A_38, A_40, A_41, A_42, A_43, A_44, A_45, A_46, A_47]
    simp (config := { decide := true }) only [true_implies, false_implies, and_true, true_and, not_true_eq_false, not_false_eq_true, forall_const]
    refine ⟨0, by omega, rfl, ?_⟩
    rw [R 0 (by omega), e0, show (6 : Int32) = nI 6 from rfl, nI_eq (by omega) (by omega)]
    refine ⟨fun z => ?_, fun z => ?_⟩
    · rw [if_neg (fun w => absurd (l2.mp w) (by omega))] at hs2
      exact h1 _ (PR_n hpL hT2 (Or.inr hk0) hs2) _ (frM_rf _) rfl
    · rw [if_pos (l2.mpr (by omega))] at hs2
      obtain ⟨w1, w2, w3⟩ := PR_s hpL hT2 hk0 hs2
      rw [if_neg (by rw [k2]; decide)] at w1
      dsimp only at w1
      rw [k3] at w1 w2 w3
      have hf : frM (tkN t L p M0) (tkN t L (tkE t L p) (tkN t L p M0)) := frM_N (frM_rf _) t L _
      refine ⟨L, t, tkE t L p, rfl, hTT, rfl, by omega, fun g1 g2 => ?_, fun g => ?_⟩
      · have hK := tk_row.mp ⟨g1, g2⟩
        obtain ⟨v1, v2⟩ := tk_rowV hK
        rw [← v1]
        have hst2 : stp 3 q d (tkK t L (tkE t L p)) (tkV t L (tkE t L p) 0) = some (1, q, upd (upd d (4 + c) (tkV t L (tkE t L p) 0)) 0 (d 0 + 1)) := by
          rw [hK]
          show (if (3 : Int32) = 3 ∧ d 0 < 6 then some (1, q, upd (upd d (4 + (d 0).toNatClampNeg) _) 0 (d 0 + 1)) else none) = _
          rw [if_pos ⟨rfl, l2.mpr (by omega)⟩, e0, nI_clamp (by omega)]
        obtain ⟨y1, y2, y3⟩ := PR_s w3 hT2 (by rw [hK]; decide) hst2
        rw [if_neg (by rw [hK]; decide)] at y1
        dsimp only at y1
        rw [v2] at y1 y2 y3
        have n9 : ¬ tkV t L (tkE t L p) 0 = -9 := by
          rw [v1]
          exact ne9 (Nat.lt_of_lt_of_le (mk_lt _ 9) (by omega))
        dsimp only [k_X5_readsItem_0, k_X5_readsItem_1, k_X5_readsItem_2, k_X5_readsItem_5, k_X5_readsItem_6, k_X5_readsItem_9, k_X5_readsItem_10, k_X5_readsItem_11, k_X5_readsItem_12, k_X5_readsItem_13, k_X5_readsItem_14, k_X5_readsItem_15, k_X5_readsItem_16, k_X5_readsItem_19, k_X5_readsItem_20, k_X5_readsItem_21, k_X5_readsItem_22, k_X5_readsItem_25, k_X5_readsItem_26, k_X5_readsItem_29, k_X5_readsItem_30, k_X5_readsItem_31, k_X5_readsItem_32, k_X5_readsItem_33, k_X5_readsItem_36, k_X5_readsItem_37, k_X5_readsItem_39, k_X5_readsItem_42, k_X5_readsItem_43, k_X5_readsItem_44, k_X5_readsItem_47, k_X5_readsItem_48, k_X5_readsItem_51, k_X5_readsItem_54, k_X5_readsItem_55, k_X5_readsItem_58, k_X5_readsItem_59, k_X5_readsItem_60, k_X5_readsItem_61, k_X5_readsItem_64, k_X5_readsItem_65, k_X5_readsItem_68, k_X5_readsItem_69, k_X5_readsItem_70, k_X5_readsItem_71, k_X5_readsItem_74, k_X5_readsItem_75, k_X5_readsItem_78, k_X5_readsItem_79, k_X5_readsItem_82, k_X5_readsItem_83, k_X5_readsItem_84, k_X5_readsItem_85, k_X5_readsItem_86, k_X5_readsItem_87, k_X5_readsItem_90, k_X5_readsItem_92, k_X5_readsItem_95, k_X5_readsItem_97, k_X5_readsItem_100, k_X5_readsItem_102, k_X5_readsItem_105, k_X5_readsItem_106, k_X5_readsItem_109, k_X5_readsItem_111, k_X5_readsItem_113, k_X5_readsItem_115, k_X5_readsItem_118, k_X5_readsItem_119, k_X5_readsItem_120, k_X5_readsItem_121, k_X5_readsItem_124, k_X5_readsItem_125, k_X5_readsItem_128, k_X5_readsItem_130, k_X5_readsItem_133, k_X5_readsItem_134, k_X5_readsItem_135, k_X5_readsItem_136, k_X5_readsItem_138, k_X5_readsItem_139, k_X5_readsItem_140, k_X5_readsItem_143, k_X5_readsItem_144, k_X5_readsItem_147, k_X5_readsItem_148, k_X5_readsItem_151, k_X5_readsItem_152, k_X5_readsItem_153, k_X5_readsItem_154, k_X5_readsItem_155, k_X5_readsItem_156, k_X5_readsItem_157, k_X5_readsItem_158, wp1, wp_s, cutIn, kont, Nat.reduceSub, Nat.reduceAdd, nth, o_const, o_lconst, o_ref, o_iload, o_lload, o_aload, o_istore, o_lstore, o_astore, o_iinc, o_bin, o_div, o_un, o_lbin, o_lsh, o_lcmp, o_i2l, o_l2i, o_if, o_icmp, o_goto, o_dup, o_dup2, o_pop, fav, o_getf, o_putI, o_putZ, o_putL, o_ald, o_ast, o_alen, popn, rst, o_callV, o_callT, o_callS, swx, o_sw, o_ret, o_iret, o_zret, o_cret, o_lret, o_aret, lg, lput, lput2, ls1, isL, entL, wsum, rdI1, rdI2, rdA1, rdA21, rdA22, rdL1, rdL22, rdL21, upN_at, rep, sh_0, F_0_0, F_0_1, F_0_2, F_0_3, F_0_4, F_0_5, F_0_6, F_0_7, F_0_8, sh_1, F_1_0, F_1_1, F_1_2, F_1_3, F_1_4, F_1_5, sh_3, F_3_0, F_3_1, F_3_2, F_3_3, F_3_4, F_3_5, sh_5, F_5_0, F_5_1, F_5_2, F_5_3, F_5_4, F_5_5, F_5_6, F_5_7, F_5_8, sh_12, F_12_0, F_12_1, F_12_2, F_12_3, F_12_4, F_12_5, sh_14, F_14_0, F_14_1, F_14_2, F_14_3, F_14_4, F_14_5, F_14_6, F_14_7, F_14_8, sh_21, F_21_0, F_21_1, F_21_2, F_21_3, F_21_4, F_21_5, F_21_6, F_21_7, F_21_8, sh_28, F_28_0, F_28_1, F_28_2, F_28_3, F_28_4, F_28_5, F_28_6, F_28_7, F_28_8, sh_35, F_35_0, sh_39, F_39_0, F_39_1, F_39_2, F_39_3, F_39_4, F_39_5, F_39_6, F_39_7, F_39_8, F_39_9, F_39_10, F_39_11, F_39_12, F_39_13, A_2, A_4, A_6, A_7, A_8, A_9, A_10, A_11, A_13, A_15, A_16, A_17, A_18, A_19, A_20, A_22, A_23, A_24, A_25, A_26, A_27, A_29, A_30, A_31, A_32, A_33, A_34, A_36, A_37, A_38, A_40, A_41, A_42, A_43, A_44, A_45, A_46, A_47]
        simp (config := { decide := true }) only [true_implies, false_implies, and_true, true_and, not_true_eq_false, not_false_eq_true, forall_const]
        refine ⟨fun w => absurd w n9, fun _ => ⟨4 + c, by omega, nI_add 4 c, 0, by omega, rfl, 0, by omega, rfl, ?_⟩⟩
        simp only [sA_sA, sA_cm, sI_sA, sI_sI, sI_cm, sL_sA, sL_sI, sL_sL, sL_cm, Nat.reduceLT]
        refine h2 _ q _ (by omega) y3 (w1.trans y1) _ (frM_A hf _) rfl ⟨?_, c + 1, pp, n, by omega, hpp, hn, ?_, ?_, ?_⟩
        · intro k hk
          rw [show d 0 = upd (M0.2.2 32) (4 + c) (tkV t L (tkE t L p) 0) 0 by rw [upd_n _ _ (by omega)]; exact (hd 0 (by omega)).symm]
          exact upd_cg (upd_cg hd (4 + c) _) 0 _ k hk
        · rw [upd_s, e0, nI_1]
        · rw [upd_n _ _ (by omega), upd_n _ _ (by omega)]; exact e1
        · rw [upd_n _ _ (by omega), upd_n _ _ (by omega)]; exact e3
      · have hst2 : stp 3 q d (tkK t L (tkE t L p)) (tkV t L (tkE t L p) 0) = none := by
          show (if tkK t L (tkE t L p) = 3 ∧ d 0 < 6 then _ else none) = none
          rw [if_neg (fun w => g (tk_row.mpr w.1))]
        dsimp only [k_X5_readsItem_0, k_X5_readsItem_1, k_X5_readsItem_2, k_X5_readsItem_5, k_X5_readsItem_6, k_X5_readsItem_9, k_X5_readsItem_10, k_X5_readsItem_11, k_X5_readsItem_12, k_X5_readsItem_13, k_X5_readsItem_14, k_X5_readsItem_15, k_X5_readsItem_16, k_X5_readsItem_19, k_X5_readsItem_20, k_X5_readsItem_21, k_X5_readsItem_22, k_X5_readsItem_25, k_X5_readsItem_26, k_X5_readsItem_29, k_X5_readsItem_30, k_X5_readsItem_31, k_X5_readsItem_32, k_X5_readsItem_33, k_X5_readsItem_36, k_X5_readsItem_37, k_X5_readsItem_39, k_X5_readsItem_42, k_X5_readsItem_43, k_X5_readsItem_44, k_X5_readsItem_47, k_X5_readsItem_48, k_X5_readsItem_51, k_X5_readsItem_54, k_X5_readsItem_55, k_X5_readsItem_58, k_X5_readsItem_59, k_X5_readsItem_60, k_X5_readsItem_61, k_X5_readsItem_64, k_X5_readsItem_65, k_X5_readsItem_68, k_X5_readsItem_69, k_X5_readsItem_70, k_X5_readsItem_71, k_X5_readsItem_74, k_X5_readsItem_75, k_X5_readsItem_78, k_X5_readsItem_79, k_X5_readsItem_82, k_X5_readsItem_83, k_X5_readsItem_84, k_X5_readsItem_85, k_X5_readsItem_86, k_X5_readsItem_87, k_X5_readsItem_90, k_X5_readsItem_92, k_X5_readsItem_95, k_X5_readsItem_97, k_X5_readsItem_100, k_X5_readsItem_102, k_X5_readsItem_105, k_X5_readsItem_106, k_X5_readsItem_109, k_X5_readsItem_111, k_X5_readsItem_113, k_X5_readsItem_115, k_X5_readsItem_118, k_X5_readsItem_119, k_X5_readsItem_120, k_X5_readsItem_121, k_X5_readsItem_124, k_X5_readsItem_125, k_X5_readsItem_128, k_X5_readsItem_130, k_X5_readsItem_133, k_X5_readsItem_134, k_X5_readsItem_135, k_X5_readsItem_136, k_X5_readsItem_138, k_X5_readsItem_139, k_X5_readsItem_140, k_X5_readsItem_143, k_X5_readsItem_144, k_X5_readsItem_147, k_X5_readsItem_148, k_X5_readsItem_151, k_X5_readsItem_152, k_X5_readsItem_153, k_X5_readsItem_154, k_X5_readsItem_155, k_X5_readsItem_156, k_X5_readsItem_157, k_X5_readsItem_158, wp1, wp_s, cutIn, kont, Nat.reduceSub, Nat.reduceAdd, nth, o_const, o_lconst, o_ref, o_iload, o_lload, o_aload, o_istore, o_lstore, o_astore, o_iinc, o_bin, o_div, o_un, o_lbin, o_lsh, o_lcmp, o_i2l, o_l2i, o_if, o_icmp, o_goto, o_dup, o_dup2, o_pop, fav, o_getf, o_putI, o_putZ, o_putL, o_ald, o_ast, o_alen, popn, rst, o_callV, o_callT, o_callS, swx, o_sw, o_ret, o_iret, o_zret, o_cret, o_lret, o_aret, lg, lput, lput2, ls1, isL, entL, wsum, rdI1, rdI2, rdA1, rdA21, rdA22, rdL1, rdL22, rdL21, upN_at, rep, sh_0, F_0_0, F_0_1, F_0_2, F_0_3, F_0_4, F_0_5, F_0_6, F_0_7, F_0_8, sh_1, F_1_0, F_1_1, F_1_2, F_1_3, F_1_4, F_1_5, sh_3, F_3_0, F_3_1, F_3_2, F_3_3, F_3_4, F_3_5, sh_5, F_5_0, F_5_1, F_5_2, F_5_3, F_5_4, F_5_5, F_5_6, F_5_7, F_5_8, sh_12, F_12_0, F_12_1, F_12_2, F_12_3, F_12_4, F_12_5, sh_14, F_14_0, F_14_1, F_14_2, F_14_3, F_14_4, F_14_5, F_14_6, F_14_7, F_14_8, sh_21, F_21_0, F_21_1, F_21_2, F_21_3, F_21_4, F_21_5, F_21_6, F_21_7, F_21_8, sh_28, F_28_0, F_28_1, F_28_2, F_28_3, F_28_4, F_28_5, F_28_6, F_28_7, F_28_8, sh_35, F_35_0, sh_39, F_39_0, F_39_1, F_39_2, F_39_3, F_39_4, F_39_5, F_39_6, F_39_7, F_39_8, F_39_9, F_39_10, F_39_11, F_39_12, F_39_13, A_2, A_4, A_6, A_7, A_8, A_9, A_10, A_11, A_13, A_15, A_16, A_17, A_18, A_19, A_20, A_22, A_23, A_24, A_25, A_26, A_27, A_29, A_30, A_31, A_32, A_33, A_34, A_36, A_37, A_38, A_40, A_41, A_42, A_43, A_44, A_45, A_46, A_47]
        simp (config := { decide := true }) only [true_implies, false_implies, and_true, true_and, not_true_eq_false, not_false_eq_true, forall_const]
        exact h1 _ (w1.trans (PR_n w3 hT2 (Or.inl (by omega)) hst2)) _ hf rfl
  · rw [k1]
    have hs2 := hst (tkV t L p 0)
    rw [if_neg (by rw [k2]; decide), if_neg (by rw [k2]; decide), if_pos k2] at hs2
    dsimp only [k_X5_readsItem_0, k_X5_readsItem_1, k_X5_readsItem_2, k_X5_readsItem_5, k_X5_readsItem_6, k_X5_readsItem_9, k_X5_readsItem_10, k_X5_readsItem_11, k_X5_readsItem_12, k_X5_readsItem_13, k_X5_readsItem_14, k_X5_readsItem_15, k_X5_readsItem_16, k_X5_readsItem_19, k_X5_readsItem_20, k_X5_readsItem_21, k_X5_readsItem_22, k_X5_readsItem_25, k_X5_readsItem_26, k_X5_readsItem_29, k_X5_readsItem_30, k_X5_readsItem_31, k_X5_readsItem_32, k_X5_readsItem_33, k_X5_readsItem_36, k_X5_readsItem_37, k_X5_readsItem_39, k_X5_readsItem_42, k_X5_readsItem_43, k_X5_readsItem_44, k_X5_readsItem_47, k_X5_readsItem_48, k_X5_readsItem_51, k_X5_readsItem_54, k_X5_readsItem_55, k_X5_readsItem_58, k_X5_readsItem_59, k_X5_readsItem_60, k_X5_readsItem_61, k_X5_readsItem_64, k_X5_readsItem_65, k_X5_readsItem_68, k_X5_readsItem_69, k_X5_readsItem_70, k_X5_readsItem_71, k_X5_readsItem_74, k_X5_readsItem_75, k_X5_readsItem_78, k_X5_readsItem_79, k_X5_readsItem_82, k_X5_readsItem_83, k_X5_readsItem_84, k_X5_readsItem_85, k_X5_readsItem_86, k_X5_readsItem_87, k_X5_readsItem_90, k_X5_readsItem_92, k_X5_readsItem_95, k_X5_readsItem_97, k_X5_readsItem_100, k_X5_readsItem_102, k_X5_readsItem_105, k_X5_readsItem_106, k_X5_readsItem_109, k_X5_readsItem_111, k_X5_readsItem_113, k_X5_readsItem_115, k_X5_readsItem_118, k_X5_readsItem_119, k_X5_readsItem_120, k_X5_readsItem_121, k_X5_readsItem_124, k_X5_readsItem_125, k_X5_readsItem_128, k_X5_readsItem_130, k_X5_readsItem_133, k_X5_readsItem_134, k_X5_readsItem_135, k_X5_readsItem_136, k_X5_readsItem_138, k_X5_readsItem_139, k_X5_readsItem_140, k_X5_readsItem_143, k_X5_readsItem_144, k_X5_readsItem_147, k_X5_readsItem_148, k_X5_readsItem_151, k_X5_readsItem_152, k_X5_readsItem_153, k_X5_readsItem_154, k_X5_readsItem_155, k_X5_readsItem_156, k_X5_readsItem_157, k_X5_readsItem_158, wp1, wp_s, cutIn, kont, Nat.reduceSub, Nat.reduceAdd, nth, o_const, o_lconst, o_ref, o_iload, o_lload, o_aload, o_istore, o_lstore, o_astore, o_iinc, o_bin, o_div, o_un, o_lbin, o_lsh, o_lcmp, o_i2l, o_l2i, o_if, o_icmp, o_goto, o_dup, o_dup2, o_pop, fav, o_getf, o_putI, o_putZ, o_putL, o_ald, o_ast, o_alen, popn, rst, o_callV, o_callT, o_callS, swx, o_sw, o_ret, o_iret, o_zret, o_cret, o_lret, o_aret, lg, lput, lput2, ls1, isL, entL, wsum, rdI1, rdI2, rdA1, rdA21, rdA22, rdL1, rdL22, rdL21, upN_at, rep, sh_0, F_0_0, F_0_1, F_0_2, F_0_3, F_0_4, F_0_5, F_0_6, F_0_7, F_0_8, sh_1, F_1_0, F_1_1, F_1_2, F_1_3, F_1_4, F_1_5, sh_3, F_3_0, F_3_1, F_3_2, F_3_3, F_3_4, F_3_5, sh_5, F_5_0, F_5_1, F_5_2, F_5_3, F_5_4, F_5_5, F_5_6, F_5_7, F_5_8, sh_12, F_12_0, F_12_1, F_12_2, F_12_3, F_12_4, F_12_5, sh_14, F_14_0, F_14_1, F_14_2, F_14_3, F_14_4, F_14_5, F_14_6, F_14_7, F_14_8, sh_21, F_21_0, F_21_1, F_21_2, F_21_3, F_21_4, F_21_5, F_21_6, F_21_7, F_21_8, sh_28, F_28_0, F_28_1, F_28_2, F_28_3, F_28_4, F_28_5, F_28_6, F_28_7, F_28_8, sh_35, F_35_0, sh_39, F_39_0, F_39_1, F_39_2, F_39_3, F_39_4, F_39_5, F_39_6, F_39_7, F_39_8, F_39_9, F_39_10, F_39_11, F_39_12, F_39_13, A_2, A_4, A_6, A_7, A_8, A_9, A_10, A_11, A_13, A_15, A_16, A_17, A_18, A_19, A_20, A_22, A_23, A_24, A_25, A_26, A_27, A_29, A_30, A_31, A_32, A_33, A_34, A_36, A_37, A_38, A_40, A_41, A_42, A_43, A_44, A_45, A_46, A_47]
    simp (config := { decide := true }) only [true_implies, false_implies, and_true, true_and, not_true_eq_false, not_false_eq_true, forall_const]
    refine ⟨1, by omega, rfl, 1, by omega, rfl, 1, by omega, rfl, ?_⟩
    have hrd : upd ((tkN t L p M0).2.2 32) 1 ((tkN t L p M0).2.2 32 1 + 1) 1 = nI (pp + 1) := by
      rw [upd_s, R 1 (by omega), e1, nI_1]
    rw [hrd, show (4 : Int32) = nI 4 from rfl, nI_ltI (by omega) (by omega)]
    refine ⟨fun z => ?_, fun z => ?_⟩
    · rw [if_neg (fun w => absurd (l3.mp w) (by omega))] at hs2
      exact h1 _ (PR_n hpL hT2 (Or.inr hk0) hs2) _ (frM_A (frM_rf _) _) rfl
    · rw [if_pos (l3.mpr (by omega))] at hs2
      obtain ⟨w1, w2, w3⟩ := PR_s hpL hT2 hk0 hs2
      rw [if_neg (by rw [k2]; decide)] at w1
      dsimp only at w1
      rw [k3] at w1 w2 w3
      refine h2 _ q _ w2 w3 w1 _ (frM_A (frM_rf _) _) rfl ⟨?_, c, pp + 1, n, hc, by omega, hn, ?_, ?_, ?_⟩
      · intro k hk
        rw [show d 1 = (tkN t L p M0).2.2 32 1 from (R 1 (by omega)).symm]
        exact upd_cg R 1 _ k hk
      · rw [upd_n _ _ (by omega)]; exact e0
      · rw [upd_s, e1, nI_1]
      · rw [upd_n _ _ (by omega)]; exact e3
  · rw [k1]
    have hs2 := hst (tkV t L p 0)
    rw [if_neg (by rw [k2]; decide), if_neg (by rw [k2]; decide), if_neg (by rw [k2]; decide), if_pos k2] at hs2
    obtain ⟨w1, w2, w3⟩ := PR_s hpL hT2 hk0 hs2
    rw [if_neg (by rw [k2]; decide)] at w1
    dsimp only at w1
    rw [k3] at w1 w2 w3
    dsimp only [k_X5_readsItem_0, k_X5_readsItem_1, k_X5_readsItem_2, k_X5_readsItem_5, k_X5_readsItem_6, k_X5_readsItem_9, k_X5_readsItem_10, k_X5_readsItem_11, k_X5_readsItem_12, k_X5_readsItem_13, k_X5_readsItem_14, k_X5_readsItem_15, k_X5_readsItem_16, k_X5_readsItem_19, k_X5_readsItem_20, k_X5_readsItem_21, k_X5_readsItem_22, k_X5_readsItem_25, k_X5_readsItem_26, k_X5_readsItem_29, k_X5_readsItem_30, k_X5_readsItem_31, k_X5_readsItem_32, k_X5_readsItem_33, k_X5_readsItem_36, k_X5_readsItem_37, k_X5_readsItem_39, k_X5_readsItem_42, k_X5_readsItem_43, k_X5_readsItem_44, k_X5_readsItem_47, k_X5_readsItem_48, k_X5_readsItem_51, k_X5_readsItem_54, k_X5_readsItem_55, k_X5_readsItem_58, k_X5_readsItem_59, k_X5_readsItem_60, k_X5_readsItem_61, k_X5_readsItem_64, k_X5_readsItem_65, k_X5_readsItem_68, k_X5_readsItem_69, k_X5_readsItem_70, k_X5_readsItem_71, k_X5_readsItem_74, k_X5_readsItem_75, k_X5_readsItem_78, k_X5_readsItem_79, k_X5_readsItem_82, k_X5_readsItem_83, k_X5_readsItem_84, k_X5_readsItem_85, k_X5_readsItem_86, k_X5_readsItem_87, k_X5_readsItem_90, k_X5_readsItem_92, k_X5_readsItem_95, k_X5_readsItem_97, k_X5_readsItem_100, k_X5_readsItem_102, k_X5_readsItem_105, k_X5_readsItem_106, k_X5_readsItem_109, k_X5_readsItem_111, k_X5_readsItem_113, k_X5_readsItem_115, k_X5_readsItem_118, k_X5_readsItem_119, k_X5_readsItem_120, k_X5_readsItem_121, k_X5_readsItem_124, k_X5_readsItem_125, k_X5_readsItem_128, k_X5_readsItem_130, k_X5_readsItem_133, k_X5_readsItem_134, k_X5_readsItem_135, k_X5_readsItem_136, k_X5_readsItem_138, k_X5_readsItem_139, k_X5_readsItem_140, k_X5_readsItem_143, k_X5_readsItem_144, k_X5_readsItem_147, k_X5_readsItem_148, k_X5_readsItem_151, k_X5_readsItem_152, k_X5_readsItem_153, k_X5_readsItem_154, k_X5_readsItem_155, k_X5_readsItem_156, k_X5_readsItem_157, k_X5_readsItem_158, wp1, wp_s, cutIn, kont, Nat.reduceSub, Nat.reduceAdd, nth, o_const, o_lconst, o_ref, o_iload, o_lload, o_aload, o_istore, o_lstore, o_astore, o_iinc, o_bin, o_div, o_un, o_lbin, o_lsh, o_lcmp, o_i2l, o_l2i, o_if, o_icmp, o_goto, o_dup, o_dup2, o_pop, fav, o_getf, o_putI, o_putZ, o_putL, o_ald, o_ast, o_alen, popn, rst, o_callV, o_callT, o_callS, swx, o_sw, o_ret, o_iret, o_zret, o_cret, o_lret, o_aret, lg, lput, lput2, ls1, isL, entL, wsum, rdI1, rdI2, rdA1, rdA21, rdA22, rdL1, rdL22, rdL21, upN_at, rep, sh_0, F_0_0, F_0_1, F_0_2, F_0_3, F_0_4, F_0_5, F_0_6, F_0_7, F_0_8, sh_1, F_1_0, F_1_1, F_1_2, F_1_3, F_1_4, F_1_5, sh_3, F_3_0, F_3_1, F_3_2, F_3_3, F_3_4, F_3_5, sh_5, F_5_0, F_5_1, F_5_2, F_5_3, F_5_4, F_5_5, F_5_6, F_5_7, F_5_8, sh_12, F_12_0, F_12_1, F_12_2, F_12_3, F_12_4, F_12_5, sh_14, F_14_0, F_14_1, F_14_2, F_14_3, F_14_4, F_14_5, F_14_6, F_14_7, F_14_8, sh_21, F_21_0, F_21_1, F_21_2, F_21_3, F_21_4, F_21_5, F_21_6, F_21_7, F_21_8, sh_28, F_28_0, F_28_1, F_28_2, F_28_3, F_28_4, F_28_5, F_28_6, F_28_7, F_28_8, sh_35, F_35_0, sh_39, F_39_0, F_39_1, F_39_2, F_39_3, F_39_4, F_39_5, F_39_6, F_39_7, F_39_8, F_39_9, F_39_10, F_39_11, F_39_12, F_39_13, A_2, A_4, A_6, A_7, A_8, A_9, A_10, A_11, A_13, A_15, A_16, A_17, A_18, A_19, A_20, A_22, A_23, A_24, A_25, A_26, A_27, A_29, A_30, A_31, A_32, A_33, A_34, A_36, A_37, A_38, A_40, A_41, A_42, A_43, A_44, A_45, A_46, A_47]
    simp (config := { decide := true }) only [true_implies, false_implies, and_true, true_and, not_true_eq_false, not_false_eq_true, forall_const]
    refine ⟨L, t, tkE t L p, q, d, rfl, hTT, rfl, w3, DM_of hD0 rfl, fun s e M' hf hm => ?_, fun p2 q2 d2 b1 b2 e M' hf hm hDM => ?_⟩
    · dsimp only [k_X5_readsItem_0, k_X5_readsItem_1, k_X5_readsItem_2, k_X5_readsItem_5, k_X5_readsItem_6, k_X5_readsItem_9, k_X5_readsItem_10, k_X5_readsItem_11, k_X5_readsItem_12, k_X5_readsItem_13, k_X5_readsItem_14, k_X5_readsItem_15, k_X5_readsItem_16, k_X5_readsItem_19, k_X5_readsItem_20, k_X5_readsItem_21, k_X5_readsItem_22, k_X5_readsItem_25, k_X5_readsItem_26, k_X5_readsItem_29, k_X5_readsItem_30, k_X5_readsItem_31, k_X5_readsItem_32, k_X5_readsItem_33, k_X5_readsItem_36, k_X5_readsItem_37, k_X5_readsItem_39, k_X5_readsItem_42, k_X5_readsItem_43, k_X5_readsItem_44, k_X5_readsItem_47, k_X5_readsItem_48, k_X5_readsItem_51, k_X5_readsItem_54, k_X5_readsItem_55, k_X5_readsItem_58, k_X5_readsItem_59, k_X5_readsItem_60, k_X5_readsItem_61, k_X5_readsItem_64, k_X5_readsItem_65, k_X5_readsItem_68, k_X5_readsItem_69, k_X5_readsItem_70, k_X5_readsItem_71, k_X5_readsItem_74, k_X5_readsItem_75, k_X5_readsItem_78, k_X5_readsItem_79, k_X5_readsItem_82, k_X5_readsItem_83, k_X5_readsItem_84, k_X5_readsItem_85, k_X5_readsItem_86, k_X5_readsItem_87, k_X5_readsItem_90, k_X5_readsItem_92, k_X5_readsItem_95, k_X5_readsItem_97, k_X5_readsItem_100, k_X5_readsItem_102, k_X5_readsItem_105, k_X5_readsItem_106, k_X5_readsItem_109, k_X5_readsItem_111, k_X5_readsItem_113, k_X5_readsItem_115, k_X5_readsItem_118, k_X5_readsItem_119, k_X5_readsItem_120, k_X5_readsItem_121, k_X5_readsItem_124, k_X5_readsItem_125, k_X5_readsItem_128, k_X5_readsItem_130, k_X5_readsItem_133, k_X5_readsItem_134, k_X5_readsItem_135, k_X5_readsItem_136, k_X5_readsItem_138, k_X5_readsItem_139, k_X5_readsItem_140, k_X5_readsItem_143, k_X5_readsItem_144, k_X5_readsItem_147, k_X5_readsItem_148, k_X5_readsItem_151, k_X5_readsItem_152, k_X5_readsItem_153, k_X5_readsItem_154, k_X5_readsItem_155, k_X5_readsItem_156, k_X5_readsItem_157, k_X5_readsItem_158, wp1, wp_s, cutIn, kont, Nat.reduceSub, Nat.reduceAdd, nth, o_const, o_lconst, o_ref, o_iload, o_lload, o_aload, o_istore, o_lstore, o_astore, o_iinc, o_bin, o_div, o_un, o_lbin, o_lsh, o_lcmp, o_i2l, o_l2i, o_if, o_icmp, o_goto, o_dup, o_dup2, o_pop, fav, o_getf, o_putI, o_putZ, o_putL, o_ald, o_ast, o_alen, popn, rst, o_callV, o_callT, o_callS, swx, o_sw, o_ret, o_iret, o_zret, o_cret, o_lret, o_aret, lg, lput, lput2, ls1, isL, entL, wsum, rdI1, rdI2, rdA1, rdA21, rdA22, rdL1, rdL22, rdL21, upN_at, rep, sh_0, F_0_0, F_0_1, F_0_2, F_0_3, F_0_4, F_0_5, F_0_6, F_0_7, F_0_8, sh_1, F_1_0, F_1_1, F_1_2, F_1_3, F_1_4, F_1_5, sh_3, F_3_0, F_3_1, F_3_2, F_3_3, F_3_4, F_3_5, sh_5, F_5_0, F_5_1, F_5_2, F_5_3, F_5_4, F_5_5, F_5_6, F_5_7, F_5_8, sh_12, F_12_0, F_12_1, F_12_2, F_12_3, F_12_4, F_12_5, sh_14, F_14_0, F_14_1, F_14_2, F_14_3, F_14_4, F_14_5, F_14_6, F_14_7, F_14_8, sh_21, F_21_0, F_21_1, F_21_2, F_21_3, F_21_4, F_21_5, F_21_6, F_21_7, F_21_8, sh_28, F_28_0, F_28_1, F_28_2, F_28_3, F_28_4, F_28_5, F_28_6, F_28_7, F_28_8, sh_35, F_35_0, sh_39, F_39_0, F_39_1, F_39_2, F_39_3, F_39_4, F_39_5, F_39_6, F_39_7, F_39_8, F_39_9, F_39_10, F_39_11, F_39_12, F_39_13, A_2, A_4, A_6, A_7, A_8, A_9, A_10, A_11, A_13, A_15, A_16, A_17, A_18, A_19, A_20, A_22, A_23, A_24, A_25, A_26, A_27, A_29, A_30, A_31, A_32, A_33, A_34, A_36, A_37, A_38, A_40, A_41, A_42, A_43, A_44, A_45, A_46, A_47]
      simp (config := { decide := true }) only [true_implies, false_implies, and_true, true_and, not_true_eq_false, not_false_eq_true, forall_const]
      exact h1 s (w1.trans e) M' hf hm
    · dsimp only [k_X5_readsItem_0, k_X5_readsItem_1, k_X5_readsItem_2, k_X5_readsItem_5, k_X5_readsItem_6, k_X5_readsItem_9, k_X5_readsItem_10, k_X5_readsItem_11, k_X5_readsItem_12, k_X5_readsItem_13, k_X5_readsItem_14, k_X5_readsItem_15, k_X5_readsItem_16, k_X5_readsItem_19, k_X5_readsItem_20, k_X5_readsItem_21, k_X5_readsItem_22, k_X5_readsItem_25, k_X5_readsItem_26, k_X5_readsItem_29, k_X5_readsItem_30, k_X5_readsItem_31, k_X5_readsItem_32, k_X5_readsItem_33, k_X5_readsItem_36, k_X5_readsItem_37, k_X5_readsItem_39, k_X5_readsItem_42, k_X5_readsItem_43, k_X5_readsItem_44, k_X5_readsItem_47, k_X5_readsItem_48, k_X5_readsItem_51, k_X5_readsItem_54, k_X5_readsItem_55, k_X5_readsItem_58, k_X5_readsItem_59, k_X5_readsItem_60, k_X5_readsItem_61, k_X5_readsItem_64, k_X5_readsItem_65, k_X5_readsItem_68, k_X5_readsItem_69, k_X5_readsItem_70, k_X5_readsItem_71, k_X5_readsItem_74, k_X5_readsItem_75, k_X5_readsItem_78, k_X5_readsItem_79, k_X5_readsItem_82, k_X5_readsItem_83, k_X5_readsItem_84, k_X5_readsItem_85, k_X5_readsItem_86, k_X5_readsItem_87, k_X5_readsItem_90, k_X5_readsItem_92, k_X5_readsItem_95, k_X5_readsItem_97, k_X5_readsItem_100, k_X5_readsItem_102, k_X5_readsItem_105, k_X5_readsItem_106, k_X5_readsItem_109, k_X5_readsItem_111, k_X5_readsItem_113, k_X5_readsItem_115, k_X5_readsItem_118, k_X5_readsItem_119, k_X5_readsItem_120, k_X5_readsItem_121, k_X5_readsItem_124, k_X5_readsItem_125, k_X5_readsItem_128, k_X5_readsItem_130, k_X5_readsItem_133, k_X5_readsItem_134, k_X5_readsItem_135, k_X5_readsItem_136, k_X5_readsItem_138, k_X5_readsItem_139, k_X5_readsItem_140, k_X5_readsItem_143, k_X5_readsItem_144, k_X5_readsItem_147, k_X5_readsItem_148, k_X5_readsItem_151, k_X5_readsItem_152, k_X5_readsItem_153, k_X5_readsItem_154, k_X5_readsItem_155, k_X5_readsItem_156, k_X5_readsItem_157, k_X5_readsItem_158, wp1, wp_s, cutIn, kont, Nat.reduceSub, Nat.reduceAdd, nth, o_const, o_lconst, o_ref, o_iload, o_lload, o_aload, o_istore, o_lstore, o_astore, o_iinc, o_bin, o_div, o_un, o_lbin, o_lsh, o_lcmp, o_i2l, o_l2i, o_if, o_icmp, o_goto, o_dup, o_dup2, o_pop, fav, o_getf, o_putI, o_putZ, o_putL, o_ald, o_ast, o_alen, popn, rst, o_callV, o_callT, o_callS, swx, o_sw, o_ret, o_iret, o_zret, o_cret, o_lret, o_aret, lg, lput, lput2, ls1, isL, entL, wsum, rdI1, rdI2, rdA1, rdA21, rdA22, rdL1, rdL22, rdL21, upN_at, rep, sh_0, F_0_0, F_0_1, F_0_2, F_0_3, F_0_4, F_0_5, F_0_6, F_0_7, F_0_8, sh_1, F_1_0, F_1_1, F_1_2, F_1_3, F_1_4, F_1_5, sh_3, F_3_0, F_3_1, F_3_2, F_3_3, F_3_4, F_3_5, sh_5, F_5_0, F_5_1, F_5_2, F_5_3, F_5_4, F_5_5, F_5_6, F_5_7, F_5_8, sh_12, F_12_0, F_12_1, F_12_2, F_12_3, F_12_4, F_12_5, sh_14, F_14_0, F_14_1, F_14_2, F_14_3, F_14_4, F_14_5, F_14_6, F_14_7, F_14_8, sh_21, F_21_0, F_21_1, F_21_2, F_21_3, F_21_4, F_21_5, F_21_6, F_21_7, F_21_8, sh_28, F_28_0, F_28_1, F_28_2, F_28_3, F_28_4, F_28_5, F_28_6, F_28_7, F_28_8, sh_35, F_35_0, sh_39, F_39_0, F_39_1, F_39_2, F_39_3, F_39_4, F_39_5, F_39_6, F_39_7, F_39_8, F_39_9, F_39_10, F_39_11, F_39_12, F_39_13, A_2, A_4, A_6, A_7, A_8, A_9, A_10, A_11, A_13, A_15, A_16, A_17, A_18, A_19, A_20, A_22, A_23, A_24, A_25, A_26, A_27, A_29, A_30, A_31, A_32, A_33, A_34, A_36, A_37, A_38, A_40, A_41, A_42, A_43, A_44, A_45, A_46, A_47]
      simp (config := { decide := true }) only [true_implies, false_implies, and_true, true_and, not_true_eq_false, not_false_eq_true, forall_const]
      exact h2 p2 q2 d2 (by omega) b2 (w1.trans e) M' hf hm hDM
  · rw [k1]
    have hs2 := hst (tkV t L p 0)
    rw [if_neg k5, if_neg k6, if_neg k7, if_neg k8] at hs2
    dsimp only [k_X5_readsItem_0, k_X5_readsItem_1, k_X5_readsItem_2, k_X5_readsItem_5, k_X5_readsItem_6, k_X5_readsItem_9, k_X5_readsItem_10, k_X5_readsItem_11, k_X5_readsItem_12, k_X5_readsItem_13, k_X5_readsItem_14, k_X5_readsItem_15, k_X5_readsItem_16, k_X5_readsItem_19, k_X5_readsItem_20, k_X5_readsItem_21, k_X5_readsItem_22, k_X5_readsItem_25, k_X5_readsItem_26, k_X5_readsItem_29, k_X5_readsItem_30, k_X5_readsItem_31, k_X5_readsItem_32, k_X5_readsItem_33, k_X5_readsItem_36, k_X5_readsItem_37, k_X5_readsItem_39, k_X5_readsItem_42, k_X5_readsItem_43, k_X5_readsItem_44, k_X5_readsItem_47, k_X5_readsItem_48, k_X5_readsItem_51, k_X5_readsItem_54, k_X5_readsItem_55, k_X5_readsItem_58, k_X5_readsItem_59, k_X5_readsItem_60, k_X5_readsItem_61, k_X5_readsItem_64, k_X5_readsItem_65, k_X5_readsItem_68, k_X5_readsItem_69, k_X5_readsItem_70, k_X5_readsItem_71, k_X5_readsItem_74, k_X5_readsItem_75, k_X5_readsItem_78, k_X5_readsItem_79, k_X5_readsItem_82, k_X5_readsItem_83, k_X5_readsItem_84, k_X5_readsItem_85, k_X5_readsItem_86, k_X5_readsItem_87, k_X5_readsItem_90, k_X5_readsItem_92, k_X5_readsItem_95, k_X5_readsItem_97, k_X5_readsItem_100, k_X5_readsItem_102, k_X5_readsItem_105, k_X5_readsItem_106, k_X5_readsItem_109, k_X5_readsItem_111, k_X5_readsItem_113, k_X5_readsItem_115, k_X5_readsItem_118, k_X5_readsItem_119, k_X5_readsItem_120, k_X5_readsItem_121, k_X5_readsItem_124, k_X5_readsItem_125, k_X5_readsItem_128, k_X5_readsItem_130, k_X5_readsItem_133, k_X5_readsItem_134, k_X5_readsItem_135, k_X5_readsItem_136, k_X5_readsItem_138, k_X5_readsItem_139, k_X5_readsItem_140, k_X5_readsItem_143, k_X5_readsItem_144, k_X5_readsItem_147, k_X5_readsItem_148, k_X5_readsItem_151, k_X5_readsItem_152, k_X5_readsItem_153, k_X5_readsItem_154, k_X5_readsItem_155, k_X5_readsItem_156, k_X5_readsItem_157, k_X5_readsItem_158, wp1, wp_s, cutIn, kont, Nat.reduceSub, Nat.reduceAdd, nth, o_const, o_lconst, o_ref, o_iload, o_lload, o_aload, o_istore, o_lstore, o_astore, o_iinc, o_bin, o_div, o_un, o_lbin, o_lsh, o_lcmp, o_i2l, o_l2i, o_if, o_icmp, o_goto, o_dup, o_dup2, o_pop, fav, o_getf, o_putI, o_putZ, o_putL, o_ald, o_ast, o_alen, popn, rst, o_callV, o_callT, o_callS, swx, o_sw, o_ret, o_iret, o_zret, o_cret, o_lret, o_aret, lg, lput, lput2, ls1, isL, entL, wsum, rdI1, rdI2, rdA1, rdA21, rdA22, rdL1, rdL22, rdL21, upN_at, rep, sh_0, F_0_0, F_0_1, F_0_2, F_0_3, F_0_4, F_0_5, F_0_6, F_0_7, F_0_8, sh_1, F_1_0, F_1_1, F_1_2, F_1_3, F_1_4, F_1_5, sh_3, F_3_0, F_3_1, F_3_2, F_3_3, F_3_4, F_3_5, sh_5, F_5_0, F_5_1, F_5_2, F_5_3, F_5_4, F_5_5, F_5_6, F_5_7, F_5_8, sh_12, F_12_0, F_12_1, F_12_2, F_12_3, F_12_4, F_12_5, sh_14, F_14_0, F_14_1, F_14_2, F_14_3, F_14_4, F_14_5, F_14_6, F_14_7, F_14_8, sh_21, F_21_0, F_21_1, F_21_2, F_21_3, F_21_4, F_21_5, F_21_6, F_21_7, F_21_8, sh_28, F_28_0, F_28_1, F_28_2, F_28_3, F_28_4, F_28_5, F_28_6, F_28_7, F_28_8, sh_35, F_35_0, sh_39, F_39_0, F_39_1, F_39_2, F_39_3, F_39_4, F_39_5, F_39_6, F_39_7, F_39_8, F_39_9, F_39_10, F_39_11, F_39_12, F_39_13, A_2, A_4, A_6, A_7, A_8, A_9, A_10, A_11, A_13, A_15, A_16, A_17, A_18, A_19, A_20, A_22, A_23, A_24, A_25, A_26, A_27, A_29, A_30, A_31, A_32, A_33, A_34, A_36, A_37, A_38, A_40, A_41, A_42, A_43, A_44, A_45, A_46, A_47]
    simp (config := { decide := true }) only [true_implies, false_implies, and_true, true_and, not_true_eq_false, not_false_eq_true, forall_const]
    exact h1 _ (PR_n hpL hT2 (Or.inr hk0) hs2) _ (frM_rf _) rfl
theorem c_X5_readsItem : Ctr yX5_readsItem cX5_readsItem 5 (some .boolean) ({ frames := 5, cells := 0, slots := 0, locals := 106 } : Room) S_X5_readsItem := ctr_of (T := T_X5_readsItem) (by decide +kernel) (fun post C hr => t_X5_readsItem post C hr) v_X5_readsItem
