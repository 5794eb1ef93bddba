/-! Constructors. -/
section NW
variable {p : Program} {l : Launch} {e : Env} {R : Room} {s : State} {m : MethodId} {args : Array Value} {below : List Frame} {meth : Method} {c : Code} {H H0 : Heap} {locs : List Loc} {cells slots : Nat} {Q : State → Prop} {D : va_G} {dA : Nat → ClassId} {A : Nat → Prop} {ws : va_W} {cc : ByteArray} {pc : Nat} {ls : Array Slot} {rest : List Value}
theorem va_nw (hx : p.tables.exec = Jvm.exec) (hb : c.code = cc) {atype : ArrayType} {ty : FieldType} {t : Nat} (harr : (Cond.arrayClass (newarray.typeOf atype)).before args s = true) (hty : newarray.typeOf atype = ty) (ht : (tyA dA)[t]? = some (dA t, ty)) (hno : ∀ cA : ClassId, va_RA s cA ty = (s.vm.findClass ("[" ++ ty.toString) = some cA)) (hK : va_K D vwCl (tyA dA) s) (hP : va_P D vwCl ws H) (hD : va_D A ws) (hS : va_S A H0 H locs) (hA : ∀ q, H0.size ≤ q → A q)
    {n : Int32} {N : Nat} (ha : ∀ cA : ClassId, vp_cell cA (N, .inl (fun _ => 0)) = arrV cA N (fun _ => defaultValue ty)) (hn : ¬ n < 0) (hN : n.toNatClampNeg = N) (hbytes : N * componentBytes ty ≤ 536870912) (hcells : cells + 1 ≤ R.cells) (hslots : slots + N ≤ R.slots) (hdg : decode cc pc = .ok (.newarray atype, 2))
    (kk : ∀ (q : Nat) (H1 : Heap), va_P D vwCl (ws ++ [(q, .inl (dA t, (N, .inl (fun _ => 0))))]) H1 → va_D A (ws ++ [(q, .inl (dA t, (N, .inl (fun _ => 0))))]) → va_S A H0 H1 locs →
      W p l e R s m args below meth c H1 locs (cells + 1) (slots + N) Q (F0 m (pc + 2) ls (.ref q :: rest))) : W p l e R s m args below meth c H locs cells slots Q (F0 m pc ls (.int n :: rest)) := by
  refine va_newa hx hb harr hty hK hP hD hS hA (a0 := (N, .inl (fun _ => 0))) ha hn hN hbytes hcells hslots hdg (fun q cA H1 hK1 hP1 hD1 hS1 => ?_)
  have e1 := (hK1.2 (tyA dA).length (cA, ty) (by rw [List.getElem?_append_right (Nat.le_refl _)]; simp)).2
  have e2 := (hK.2 t (dA t, ty) ht).2
  have e1 : va_RA s cA ty := e1
  have e2 : va_RA s (dA t) ty := e2
  rw [hno] at e1 e2
  rw [e1] at e2
  have e : cA = dA t := Option.some.inj e2
  subst e
  exact kk q H1 hP1 hD1 hS1
end NW
theorem ml_RX1_3 : (.methodLink RX1 3 objectInit : Cond) ∈ tb := tb_of 114 (by decide +kernel) (by decide +kernel)
theorem im_obj : (.instanceMethod objectInit : Cond) ∈ tb := tb_of 71 (by decide +kernel) (by decide +kernel)
theorem co_obj : (.code objectInit ⟨#[0xb1]⟩ 1 none : Cond) ∈ tb := tb_of 72 (by decide +kernel) (by decide +kernel)
theorem ac_int : (.arrayClass .int : Cond) ∈ tb := tb_of 149 (by decide +kernel) (by decide +kernel)
theorem dX1_init_0 : decode cX1_init 0 = .ok (.aload_n 0, 1) := by decide +kernel
theorem dX1_init_1 : decode cX1_init 1 = .ok (.invokespecial 3, 3) := by decide +kernel
theorem dX1_init_4 : decode cX1_init 4 = .ok (.aload_n 0, 1) := by decide +kernel
theorem dX1_init_5 : decode cX1_init 5 = .ok (.bipush 8, 2) := by decide +kernel
theorem dX1_init_7 : decode cX1_init 7 = .ok (.newarray .int, 2) := by decide +kernel
theorem dX1_init_9 : decode cX1_init 9 = .ok (.putfield 9, 3) := by decide +kernel
theorem dX1_init_12 : decode cX1_init 12 = .ok (.aload_n 0, 1) := by decide +kernel
theorem dX1_init_13 : decode cX1_init 13 = .ok (.bipush 8, 2) := by decide +kernel
theorem dX1_init_15 : decode cX1_init 15 = .ok (.newarray .int, 2) := by decide +kernel
theorem dX1_init_17 : decode cX1_init 17 = .ok (.putfield 15, 3) := by decide +kernel
theorem dX1_init_20 : decode cX1_init 20 = .ok (.aload_n 0, 1) := by decide +kernel
theorem dX1_init_21 : decode cX1_init 21 = .ok (.bipush 10, 2) := by decide +kernel
theorem dX1_init_23 : decode cX1_init 23 = .ok (.newarray .int, 2) := by decide +kernel
theorem dX1_init_25 : decode cX1_init 25 = .ok (.putfield 18, 3) := by decide +kernel
theorem dX1_init_28 : decode cX1_init 28 = .ok (.aload_n 0, 1) := by decide +kernel
theorem dX1_init_29 : decode cX1_init 29 = .ok (.bipush 10, 2) := by decide +kernel
theorem dX1_init_31 : decode cX1_init 31 = .ok (.newarray .int, 2) := by decide +kernel
theorem dX1_init_33 : decode cX1_init 33 = .ok (.putfield 21, 3) := by decide +kernel
theorem dX1_init_36 : decode cX1_init 36 = .ok (.aload_n 0, 1) := by decide +kernel
theorem dX1_init_37 : decode cX1_init 37 = .ok (.bipush 10, 2) := by decide +kernel
theorem dX1_init_39 : decode cX1_init 39 = .ok (.newarray .int, 2) := by decide +kernel
theorem dX1_init_41 : decode cX1_init 41 = .ok (.putfield 24, 3) := by decide +kernel
theorem dX1_init_44 : decode cX1_init 44 = .ok (.aload_n 0, 1) := by decide +kernel
theorem dX1_init_45 : decode cX1_init 45 = .ok (.bipush 10, 2) := by decide +kernel
theorem dX1_init_47 : decode cX1_init 47 = .ok (.newarray .int, 2) := by decide +kernel
theorem dX1_init_49 : decode cX1_init 49 = .ok (.putfield 27, 3) := by decide +kernel
theorem dX1_init_52 : decode cX1_init 52 = .ok (.return_, 1) := by decide +kernel
set_option maxHeartbeats 4000000 in
set_option maxRecDepth 100000 in
theorem c_X1_init (l : Launch) (D : va_G) (dA : Nat → ClassId) (h0 sz : Nat) : Met l yX1_init (.code yX1_init cX1_init 1 none :: tb) ({ frames := 1, cells := 6, slots := 56, locals := 12 }) (va_Pc [.ref h0] (fun U => U.heap.size = sz ∧ va_P D vwCl [(h0, .inr (1, [.null, .null, .int 0, .int 0, .null, .null, .null, .null, .int 0]))] U.heap ∧ va_K D vwCl (tyA dA) U ∧ va_D (fun _ => True) [(h0, .inr (1, [.null, .null, .int 0, .int 0, .null, .null, .null, .null, .int 0]))])) (va_Qv (fun _ : Unit => True) (fun _ t => ∃ q0 q1 q2 q3 q4 q5 : Nat, va_P D vwCl [(h0, .inr (1, [.ref q0, .ref q1, .int 0, .int 0, .ref q2, .ref q3, .ref q4, .ref q5, .int 0])), (q0, .inl (dA 0, (8, .inl (fun _ => 0)))), (q1, .inl (dA 0, (8, .inl (fun _ => 0)))), (q2, .inl (dA 0, (10, .inl (fun _ => 0)))), (q3, .inl (dA 0, (10, .inl (fun _ => 0)))), (q4, .inl (dA 0, (10, .inl (fun _ => 0)))), (q5, .inl (dA 0, (10, .inl (fun _ => 0))))] t.heap ∧ va_K D vwCl (tyA dA) t ∧ va_D (va_A [(h0, .inr (1, [.null, .null, .int 0, .int 0, .null, .null, .null, .null, .int 0]))] sz) [(h0, .inr (1, [.ref q0, .ref q1, .int 0, .int 0, .ref q2, .ref q3, .ref q4, .ref q5, .int 0])), (q0, .inl (dA 0, (8, .inl (fun _ => 0)))), (q1, .inl (dA 0, (8, .inl (fun _ => 0)))), (q2, .inl (dA 0, (10, .inl (fun _ => 0)))), (q3, .inl (dA 0, (10, .inl (fun _ => 0)))), (q4, .inl (dA 0, (10, .inl (fun _ => 0)))), (q5, .inl (dA 0, (10, .inl (fun _ => 0))))]) (va_A [(h0, .inr (1, [.null, .null, .int 0, .int 0, .null, .null, .null, .null, .int 0]))] sz)) 6 56 (va_A [(h0, .inr (1, [.null, .null, .int 0, .int 0, .null, .null, .null, .null, .int 0]))] sz) := by
  refine Met.ofW (cc := cX1_init) (maxL := 1) (ret := none) (by decide) rfl ?_
  intro p e s m args below meth c s₁ B hml hv
  obtain ⟨rfl, hsz, hP, hK, hD0⟩ := hv
  have hx := B.exec
  have hb := B.bytes
  have hr := B.returns
  have hts0 := atoms_spec (ws := .code yX1_init cX1_init 1 none :: tb) B.pre
  have hts : ∀ w ∈ tb, w.before _ s = true := fun w h => hts0 w (List.mem_cons_of_mem _ h)
  have hown : s.vm.findClass RX1 = some m.cls := findClass_of_methodNamed B.named
  have hlocks := B.notSynchronized
  have hin : meth.name = "<init>" := (name_of_methodNamed B.named B.method).1
  subst hsz
  have hD := hD0.self (sz := s.heap.size)
  generalize hAe : va_A [(h0, .inr (1, [.null, .null, .int 0, .int 0, .null, .null, .null, .null, .int 0]))] s.heap.size = A at hD ⊢
  have hA : ∀ q : Nat, s.heap.size ≤ q → A q := fun q h => by rw [← hAe]; exact Or.inr h
  have hS : va_S A s.heap s.heap [] := va_S.rf
  have hP : va_P D vwCl [(h0, .inr (1, [.null, .null, .int 0, .int 0, .null, .null, .null, .null, .int 0]))] s.heap := hP
  have hl := lv_entry ([.ref h0]) (n := 1) (Nat.le_of_ble_eq_true rfl)
  rw [lg_entry_eq]
  generalize (lg_sl ([.ref h0]) ++ List.replicate (1 - (lg_sl ([.ref h0])).length) Slot.unset).toArray = ls at hl ⊢
  have hl : lv_has ls 1 [(0, .ref h0)] := hl
  refine lv_aload_n hx hb dX1_init_0 rfl (lv_at hl 0 rfl) ?_
  refine W.objInit hx hb hown (hts _ ml_RX1_3) (hts _ im_obj) (hts _ co_obj) rfl (by rw [hml]; exact hl.1) rfl dX1_init_1 (Nat.le_of_ble_eq_true rfl) (Nat.le_of_ble_eq_true rfl) ?_
  refine W.eq (g2 := F0 m 4 ls []) rfl ?_
  refine lv_aload_n hx hb dX1_init_4 rfl (lv_at hl 0 rfl) ?_
  refine lv_bipush (v := 8) hx hb dX1_init_5 (by decide) ?_
  refine va_nw (atype := .int) (t := 0) (N := 8) hx hb (hts _ ac_int) rfl rfl (fun _ => rfl) hK hP hD hS hA (fun _ => rfl) (by decide) (by decide) (Nat.le_of_ble_eq_true rfl) (Nat.le_of_ble_eq_true rfl) (Nat.le_of_ble_eq_true rfl) dX1_init_7 (fun q0 H hP hD hS => ?_)
  have hP : va_P D vwCl [(h0, .inr (1, [.null, .null, .int 0, .int 0, .null, .null, .null, .null, .int 0])), (q0, .inl (dA 0, (8, .inl (fun _ => 0))))] H := hP
  have hD : va_D A [(h0, .inr (1, [.null, .null, .int 0, .int 0, .null, .null, .null, .null, .int 0])), (q0, .inl (dA 0, (8, .inl (fun _ => 0))))] := hD
  refine W.widen (k := 1) (n := 8) (by omega) (by omega) ?_
  refine va_putF (D := D) (ci := 1) (v := .ref q0) (ty := .array .int) (C := RX1) (T := TX1) (N := 9) hx hb hts inX1 tyX1 tyX1_ok nmX1 hown hK hP hD hS 0 rfl rfl 0 (by decide) (hts _ fl_RX1_9) (fun _ h9 => h9) rfl hin rfl (by decide +kernel) rfl rfl (Nat.le_of_ble_eq_true rfl) dX1_init_9 (fun H locs hP hD hS => ?_)
  have hP : va_P D vwCl [(h0, .inr (1, [.ref q0, .null, .int 0, .int 0, .null, .null, .null, .null, .int 0])), (q0, .inl (dA 0, (8, .inl (fun _ => 0))))] H := hP
  have hD : va_D A [(h0, .inr (1, [.ref q0, .null, .int 0, .int 0, .null, .null, .null, .null, .int 0])), (q0, .inl (dA 0, (8, .inl (fun _ => 0))))] := hD
  refine lv_aload_n hx hb dX1_init_12 rfl (lv_at hl 0 rfl) ?_
  refine lv_bipush (v := 8) hx hb dX1_init_13 (by decide) ?_
  refine va_nw (atype := .int) (t := 0) (N := 8) hx hb (hts _ ac_int) rfl rfl (fun _ => rfl) hK hP hD hS hA (fun _ => rfl) (by decide) (by decide) (Nat.le_of_ble_eq_true rfl) (Nat.le_of_ble_eq_true rfl) (Nat.le_of_ble_eq_true rfl) dX1_init_15 (fun q1 H hP hD hS => ?_)
  have hP : va_P D vwCl [(h0, .inr (1, [.ref q0, .null, .int 0, .int 0, .null, .null, .null, .null, .int 0])), (q0, .inl (dA 0, (8, .inl (fun _ => 0)))), (q1, .inl (dA 0, (8, .inl (fun _ => 0))))] H := hP
  have hD : va_D A [(h0, .inr (1, [.ref q0, .null, .int 0, .int 0, .null, .null, .null, .null, .int 0])), (q0, .inl (dA 0, (8, .inl (fun _ => 0)))), (q1, .inl (dA 0, (8, .inl (fun _ => 0))))] := hD
  refine W.widen (k := 2) (n := 16) (by omega) (by omega) ?_
  refine va_putF (D := D) (ci := 1) (v := .ref q1) (ty := .array .int) (C := RX1) (T := TX1) (N := 9) hx hb hts inX1 tyX1 tyX1_ok nmX1 hown hK hP hD hS 0 rfl rfl 1 (by decide) (hts _ fl_RX1_15) (fun _ h9 => h9) rfl hin rfl (by decide +kernel) rfl rfl (Nat.le_of_ble_eq_true rfl) dX1_init_17 (fun H locs hP hD hS => ?_)
  have hP : va_P D vwCl [(h0, .inr (1, [.ref q0, .ref q1, .int 0, .int 0, .null, .null, .null, .null, .int 0])), (q0, .inl (dA 0, (8, .inl (fun _ => 0)))), (q1, .inl (dA 0, (8, .inl (fun _ => 0))))] H := hP
  have hD : va_D A [(h0, .inr (1, [.ref q0, .ref q1, .int 0, .int 0, .null, .null, .null, .null, .int 0])), (q0, .inl (dA 0, (8, .inl (fun _ => 0)))), (q1, .inl (dA 0, (8, .inl (fun _ => 0))))] := hD
  refine lv_aload_n hx hb dX1_init_20 rfl (lv_at hl 0 rfl) ?_
  refine lv_bipush (v := 10) hx hb dX1_init_21 (by decide) ?_
  refine va_nw (atype := .int) (t := 0) (N := 10) hx hb (hts _ ac_int) rfl rfl (fun _ => rfl) hK hP hD hS hA (fun _ => rfl) (by decide) (by decide) (Nat.le_of_ble_eq_true rfl) (Nat.le_of_ble_eq_true rfl) (Nat.le_of_ble_eq_true rfl) dX1_init_23 (fun q2 H hP hD hS => ?_)
  have hP : va_P D vwCl [(h0, .inr (1, [.ref q0, .ref q1, .int 0, .int 0, .null, .null, .null, .null, .int 0])), (q0, .inl (dA 0, (8, .inl (fun _ => 0)))), (q1, .inl (dA 0, (8, .inl (fun _ => 0)))), (q2, .inl (dA 0, (10, .inl (fun _ => 0))))] H := hP
  have hD : va_D A [(h0, .inr (1, [.ref q0, .ref q1, .int 0, .int 0, .null, .null, .null, .null, .int 0])), (q0, .inl (dA 0, (8, .inl (fun _ => 0)))), (q1, .inl (dA 0, (8, .inl (fun _ => 0)))), (q2, .inl (dA 0, (10, .inl (fun _ => 0))))] := hD
  refine W.widen (k := 3) (n := 26) (by omega) (by omega) ?_
  refine va_putF (D := D) (ci := 1) (v := .ref q2) (ty := .array .int) (C := RX1) (T := TX1) (N := 9) hx hb hts inX1 tyX1 tyX1_ok nmX1 hown hK hP hD hS 0 rfl rfl 4 (by decide) (hts _ fl_RX1_18) (fun _ h9 => h9) rfl hin rfl (by decide +kernel) rfl rfl (Nat.le_of_ble_eq_true rfl) dX1_init_25 (fun H locs hP hD hS => ?_)
  have hP : va_P D vwCl [(h0, .inr (1, [.ref q0, .ref q1, .int 0, .int 0, .ref q2, .null, .null, .null, .int 0])), (q0, .inl (dA 0, (8, .inl (fun _ => 0)))), (q1, .inl (dA 0, (8, .inl (fun _ => 0)))), (q2, .inl (dA 0, (10, .inl (fun _ => 0))))] H := hP
  have hD : va_D A [(h0, .inr (1, [.ref q0, .ref q1, .int 0, .int 0, .ref q2, .null, .null, .null, .int 0])), (q0, .inl (dA 0, (8, .inl (fun _ => 0)))), (q1, .inl (dA 0, (8, .inl (fun _ => 0)))), (q2, .inl (dA 0, (10, .inl (fun _ => 0))))] := hD
  refine lv_aload_n hx hb dX1_init_28 rfl (lv_at hl 0 rfl) ?_
  refine lv_bipush (v := 10) hx hb dX1_init_29 (by decide) ?_
  refine va_nw (atype := .int) (t := 0) (N := 10) hx hb (hts _ ac_int) rfl rfl (fun _ => rfl) hK hP hD hS hA (fun _ => rfl) (by decide) (by decide) (Nat.le_of_ble_eq_true rfl) (Nat.le_of_ble_eq_true rfl) (Nat.le_of_ble_eq_true rfl) dX1_init_31 (fun q3 H hP hD hS => ?_)
  have hP : va_P D vwCl [(h0, .inr (1, [.ref q0, .ref q1, .int 0, .int 0, .ref q2, .null, .null, .null, .int 0])), (q0, .inl (dA 0, (8, .inl (fun _ => 0)))), (q1, .inl (dA 0, (8, .inl (fun _ => 0)))), (q2, .inl (dA 0, (10, .inl (fun _ => 0)))), (q3, .inl (dA 0, (10, .inl (fun _ => 0))))] H := hP
  have hD : va_D A [(h0, .inr (1, [.ref q0, .ref q1, .int 0, .int 0, .ref q2, .null, .null, .null, .int 0])), (q0, .inl (dA 0, (8, .inl (fun _ => 0)))), (q1, .inl (dA 0, (8, .inl (fun _ => 0)))), (q2, .inl (dA 0, (10, .inl (fun _ => 0)))), (q3, .inl (dA 0, (10, .inl (fun _ => 0))))] := hD
  refine W.widen (k := 4) (n := 36) (by omega) (by omega) ?_
  refine va_putF (D := D) (ci := 1) (v := .ref q3) (ty := .array .int) (C := RX1) (T := TX1) (N := 9) hx hb hts inX1 tyX1 tyX1_ok nmX1 hown hK hP hD hS 0 rfl rfl 5 (by decide) (hts _ fl_RX1_21) (fun _ h9 => h9) rfl hin rfl (by decide +kernel) rfl rfl (Nat.le_of_ble_eq_true rfl) dX1_init_33 (fun H locs hP hD hS => ?_)
  have hP : va_P D vwCl [(h0, .inr (1, [.ref q0, .ref q1, .int 0, .int 0, .ref q2, .ref q3, .null, .null, .int 0])), (q0, .inl (dA 0, (8, .inl (fun _ => 0)))), (q1, .inl (dA 0, (8, .inl (fun _ => 0)))), (q2, .inl (dA 0, (10, .inl (fun _ => 0)))), (q3, .inl (dA 0, (10, .inl (fun _ => 0))))] H := hP
  have hD : va_D A [(h0, .inr (1, [.ref q0, .ref q1, .int 0, .int 0, .ref q2, .ref q3, .null, .null, .int 0])), (q0, .inl (dA 0, (8, .inl (fun _ => 0)))), (q1, .inl (dA 0, (8, .inl (fun _ => 0)))), (q2, .inl (dA 0, (10, .inl (fun _ => 0)))), (q3, .inl (dA 0, (10, .inl (fun _ => 0))))] := hD
  refine lv_aload_n hx hb dX1_init_36 rfl (lv_at hl 0 rfl) ?_
  refine lv_bipush (v := 10) hx hb dX1_init_37 (by decide) ?_
  refine va_nw (atype := .int) (t := 0) (N := 10) hx hb (hts _ ac_int) rfl rfl (fun _ => rfl) hK hP hD hS hA (fun _ => rfl) (by decide) (by decide) (Nat.le_of_ble_eq_true rfl) (Nat.le_of_ble_eq_true rfl) (Nat.le_of_ble_eq_true rfl) dX1_init_39 (fun q4 H hP hD hS => ?_)
  have hP : va_P D vwCl [(h0, .inr (1, [.ref q0, .ref q1, .int 0, .int 0, .ref q2, .ref q3, .null, .null, .int 0])), (q0, .inl (dA 0, (8, .inl (fun _ => 0)))), (q1, .inl (dA 0, (8, .inl (fun _ => 0)))), (q2, .inl (dA 0, (10, .inl (fun _ => 0)))), (q3, .inl (dA 0, (10, .inl (fun _ => 0)))), (q4, .inl (dA 0, (10, .inl (fun _ => 0))))] H := hP
  have hD : va_D A [(h0, .inr (1, [.ref q0, .ref q1, .int 0, .int 0, .ref q2, .ref q3, .null, .null, .int 0])), (q0, .inl (dA 0, (8, .inl (fun _ => 0)))), (q1, .inl (dA 0, (8, .inl (fun _ => 0)))), (q2, .inl (dA 0, (10, .inl (fun _ => 0)))), (q3, .inl (dA 0, (10, .inl (fun _ => 0)))), (q4, .inl (dA 0, (10, .inl (fun _ => 0))))] := hD
  refine W.widen (k := 5) (n := 46) (by omega) (by omega) ?_
  refine va_putF (D := D) (ci := 1) (v := .ref q4) (ty := .array .int) (C := RX1) (T := TX1) (N := 9) hx hb hts inX1 tyX1 tyX1_ok nmX1 hown hK hP hD hS 0 rfl rfl 6 (by decide) (hts _ fl_RX1_24) (fun _ h9 => h9) rfl hin rfl (by decide +kernel) rfl rfl (Nat.le_of_ble_eq_true rfl) dX1_init_41 (fun H locs hP hD hS => ?_)
  have hP : va_P D vwCl [(h0, .inr (1, [.ref q0, .ref q1, .int 0, .int 0, .ref q2, .ref q3, .ref q4, .null, .int 0])), (q0, .inl (dA 0, (8, .inl (fun _ => 0)))), (q1, .inl (dA 0, (8, .inl (fun _ => 0)))), (q2, .inl (dA 0, (10, .inl (fun _ => 0)))), (q3, .inl (dA 0, (10, .inl (fun _ => 0)))), (q4, .inl (dA 0, (10, .inl (fun _ => 0))))] H := hP
  have hD : va_D A [(h0, .inr (1, [.ref q0, .ref q1, .int 0, .int 0, .ref q2, .ref q3, .ref q4, .null, .int 0])), (q0, .inl (dA 0, (8, .inl (fun _ => 0)))), (q1, .inl (dA 0, (8, .inl (fun _ => 0)))), (q2, .inl (dA 0, (10, .inl (fun _ => 0)))), (q3, .inl (dA 0, (10, .inl (fun _ => 0)))), (q4, .inl (dA 0, (10, .inl (fun _ => 0))))] := hD
  refine lv_aload_n hx hb dX1_init_44 rfl (lv_at hl 0 rfl) ?_
  refine lv_bipush (v := 10) hx hb dX1_init_45 (by decide) ?_
  refine va_nw (atype := .int) (t := 0) (N := 10) hx hb (hts _ ac_int) rfl rfl (fun _ => rfl) hK hP hD hS hA (fun _ => rfl) (by decide) (by decide) (Nat.le_of_ble_eq_true rfl) (Nat.le_of_ble_eq_true rfl) (Nat.le_of_ble_eq_true rfl) dX1_init_47 (fun q5 H hP hD hS => ?_)
  have hP : va_P D vwCl [(h0, .inr (1, [.ref q0, .ref q1, .int 0, .int 0, .ref q2, .ref q3, .ref q4, .null, .int 0])), (q0, .inl (dA 0, (8, .inl (fun _ => 0)))), (q1, .inl (dA 0, (8, .inl (fun _ => 0)))), (q2, .inl (dA 0, (10, .inl (fun _ => 0)))), (q3, .inl (dA 0, (10, .inl (fun _ => 0)))), (q4, .inl (dA 0, (10, .inl (fun _ => 0)))), (q5, .inl (dA 0, (10, .inl (fun _ => 0))))] H := hP
  have hD : va_D A [(h0, .inr (1, [.ref q0, .ref q1, .int 0, .int 0, .ref q2, .ref q3, .ref q4, .null, .int 0])), (q0, .inl (dA 0, (8, .inl (fun _ => 0)))), (q1, .inl (dA 0, (8, .inl (fun _ => 0)))), (q2, .inl (dA 0, (10, .inl (fun _ => 0)))), (q3, .inl (dA 0, (10, .inl (fun _ => 0)))), (q4, .inl (dA 0, (10, .inl (fun _ => 0)))), (q5, .inl (dA 0, (10, .inl (fun _ => 0))))] := hD
  refine W.widen (k := 6) (n := 56) (by omega) (by omega) ?_
  refine va_putF (D := D) (ci := 1) (v := .ref q5) (ty := .array .int) (C := RX1) (T := TX1) (N := 9) hx hb hts inX1 tyX1 tyX1_ok nmX1 hown hK hP hD hS 0 rfl rfl 7 (by decide) (hts _ fl_RX1_27) (fun _ h9 => h9) rfl hin rfl (by decide +kernel) rfl rfl (Nat.le_of_ble_eq_true rfl) dX1_init_49 (fun H locs hP hD hS => ?_)
  have hP : va_P D vwCl [(h0, .inr (1, [.ref q0, .ref q1, .int 0, .int 0, .ref q2, .ref q3, .ref q4, .ref q5, .int 0])), (q0, .inl (dA 0, (8, .inl (fun _ => 0)))), (q1, .inl (dA 0, (8, .inl (fun _ => 0)))), (q2, .inl (dA 0, (10, .inl (fun _ => 0)))), (q3, .inl (dA 0, (10, .inl (fun _ => 0)))), (q4, .inl (dA 0, (10, .inl (fun _ => 0)))), (q5, .inl (dA 0, (10, .inl (fun _ => 0))))] H := hP
  have hD : va_D A [(h0, .inr (1, [.ref q0, .ref q1, .int 0, .int 0, .ref q2, .ref q3, .ref q4, .ref q5, .int 0])), (q0, .inl (dA 0, (8, .inl (fun _ => 0)))), (q1, .inl (dA 0, (8, .inl (fun _ => 0)))), (q2, .inl (dA 0, (10, .inl (fun _ => 0)))), (q3, .inl (dA 0, (10, .inl (fun _ => 0)))), (q4, .inl (dA 0, (10, .inl (fun _ => 0)))), (q5, .inl (dA 0, (10, .inl (fun _ => 0))))] := hD
  have hP9 := hP.sub (ws' := [(h0, .inr (1, [.ref q0, .ref q1, .int 0, .int 0, .ref q2, .ref q3, .ref q4, .ref q5, .int 0])), (q0, .inl (dA 0, (8, .inl (fun _ => 0)))), (q1, .inl (dA 0, (8, .inl (fun _ => 0)))), (q2, .inl (dA 0, (10, .inl (fun _ => 0)))), (q3, .inl (dA 0, (10, .inl (fun _ => 0)))), (q4, .inl (dA 0, (10, .inl (fun _ => 0)))), (q5, .inl (dA 0, (10, .inl (fun _ => 0))))]) [0, 1, 2, 3, 4, 5, 6] rfl
  have hD9 := hD.sub (ws' := [(h0, .inr (1, [.ref q0, .ref q1, .int 0, .int 0, .ref q2, .ref q3, .ref q4, .ref q5, .int 0])), (q0, .inl (dA 0, (8, .inl (fun _ => 0)))), (q1, .inl (dA 0, (8, .inl (fun _ => 0)))), (q2, .inl (dA 0, (10, .inl (fun _ => 0)))), (q3, .inl (dA 0, (10, .inl (fun _ => 0)))), (q4, .inl (dA 0, (10, .inl (fun _ => 0)))), (q5, .inl (dA 0, (10, .inl (fun _ => 0))))]) [0, 1, 2, 3, 4, 5, 6] (by decide) rfl
  exact W.vret hx hb hr (fun t ht hW => ⟨⟨(), rfl, trivial, q0, q1, q2, q3, q4, q5, by rw [ht]; exact hP9, va_K.moved hW.alike hK, hD9⟩, hS.F ht⟩) hS.2.2 dX1_init_52
theorem ml_RX2_3 : (.methodLink RX2 3 objectInit : Cond) ∈ tb := tb_of 180 (by decide +kernel) (by decide +kernel)
theorem dX2_init_0 : decode cX2_init 0 = .ok (.aload_n 0, 1) := by decide +kernel
theorem dX2_init_1 : decode cX2_init 1 = .ok (.invokespecial 3, 3) := by decide +kernel
theorem dX2_init_4 : decode cX2_init 4 = .ok (.aload_n 0, 1) := by decide +kernel
theorem dX2_init_5 : decode cX2_init 5 = .ok (.bipush 9, 2) := by decide +kernel
theorem dX2_init_7 : decode cX2_init 7 = .ok (.newarray .int, 2) := by decide +kernel
theorem dX2_init_9 : decode cX2_init 9 = .ok (.putfield 9, 3) := by decide +kernel
theorem dX2_init_12 : decode cX2_init 12 = .ok (.return_, 1) := by decide +kernel
set_option maxHeartbeats 4000000 in
set_option maxRecDepth 100000 in
theorem c_X2_init (l : Launch) (D : va_G) (dA : Nat → ClassId) (h0 sz : Nat) : Met l yX2_init (.code yX2_init cX2_init 1 none :: tb) ({ frames := 1, cells := 1, slots := 9, locals := 12 }) (va_Pc [.ref h0] (fun U => U.heap.size = sz ∧ va_P D vwCl [(h0, .inr (2, [.null]))] U.heap ∧ va_K D vwCl (tyA dA) U ∧ va_D (fun _ => True) [(h0, .inr (2, [.null]))])) (va_Qv (fun _ : Unit => True) (fun _ t => ∃ q0 : Nat, va_P D vwCl [(h0, .inr (2, [.ref q0])), (q0, .inl (dA 0, (9, .inl (fun _ => 0))))] t.heap ∧ va_K D vwCl (tyA dA) t ∧ va_D (va_A [(h0, .inr (2, [.null]))] sz) [(h0, .inr (2, [.ref q0])), (q0, .inl (dA 0, (9, .inl (fun _ => 0))))]) (va_A [(h0, .inr (2, [.null]))] sz)) 1 9 (va_A [(h0, .inr (2, [.null]))] sz) := by
  refine Met.ofW (cc := cX2_init) (maxL := 1) (ret := none) (by decide) rfl ?_
  intro p e s m args below meth c s₁ B hml hv
  obtain ⟨rfl, hsz, hP, hK, hD0⟩ := hv
  have hx := B.exec
  have hb := B.bytes
  have hr := B.returns
  have hts0 := atoms_spec (ws := .code yX2_init cX2_init 1 none :: tb) B.pre
  have hts : ∀ w ∈ tb, w.before _ s = true := fun w h => hts0 w (List.mem_cons_of_mem _ h)
  have hown : s.vm.findClass RX2 = some m.cls := findClass_of_methodNamed B.named
  have hlocks := B.notSynchronized
  have hin : meth.name = "<init>" := (name_of_methodNamed B.named B.method).1
  subst hsz
  have hD := hD0.self (sz := s.heap.size)
  generalize hAe : va_A [(h0, .inr (2, [.null]))] s.heap.size = A at hD ⊢
  have hA : ∀ q : Nat, s.heap.size ≤ q → A q := fun q h => by rw [← hAe]; exact Or.inr h
  have hS : va_S A s.heap s.heap [] := va_S.rf
  have hP : va_P D vwCl [(h0, .inr (2, [.null]))] s.heap := hP
  have hl := lv_entry ([.ref h0]) (n := 1) (Nat.le_of_ble_eq_true rfl)
  rw [lg_entry_eq]
  generalize (lg_sl ([.ref h0]) ++ List.replicate (1 - (lg_sl ([.ref h0])).length) Slot.unset).toArray = ls at hl ⊢
  have hl : lv_has ls 1 [(0, .ref h0)] := hl
  refine lv_aload_n hx hb dX2_init_0 rfl (lv_at hl 0 rfl) ?_
  refine W.objInit hx hb hown (hts _ ml_RX2_3) (hts _ im_obj) (hts _ co_obj) rfl (by rw [hml]; exact hl.1) rfl dX2_init_1 (Nat.le_of_ble_eq_true rfl) (Nat.le_of_ble_eq_true rfl) ?_
  refine W.eq (g2 := F0 m 4 ls []) rfl ?_
  refine lv_aload_n hx hb dX2_init_4 rfl (lv_at hl 0 rfl) ?_
  refine lv_bipush (v := 9) hx hb dX2_init_5 (by decide) ?_
  refine va_nw (atype := .int) (t := 0) (N := 9) hx hb (hts _ ac_int) rfl rfl (fun _ => rfl) hK hP hD hS hA (fun _ => rfl) (by decide) (by decide) (Nat.le_of_ble_eq_true rfl) (Nat.le_of_ble_eq_true rfl) (Nat.le_of_ble_eq_true rfl) dX2_init_7 (fun q0 H hP hD hS => ?_)
  have hP : va_P D vwCl [(h0, .inr (2, [.null])), (q0, .inl (dA 0, (9, .inl (fun _ => 0))))] H := hP
  have hD : va_D A [(h0, .inr (2, [.null])), (q0, .inl (dA 0, (9, .inl (fun _ => 0))))] := hD
  refine W.widen (k := 1) (n := 9) (by omega) (by omega) ?_
  refine va_putF (D := D) (ci := 2) (v := .ref q0) (ty := .array .int) (C := RX2) (T := TX2) (N := 1) hx hb hts inX2 tyX2 tyX2_ok nmX2 hown hK hP hD hS 0 rfl rfl 0 (by decide) (hts _ fl_RX2_9) (fun _ h9 => h9) rfl hin rfl (by decide +kernel) rfl rfl (Nat.le_of_ble_eq_true rfl) dX2_init_9 (fun H locs hP hD hS => ?_)
  have hP : va_P D vwCl [(h0, .inr (2, [.ref q0])), (q0, .inl (dA 0, (9, .inl (fun _ => 0))))] H := hP
  have hD : va_D A [(h0, .inr (2, [.ref q0])), (q0, .inl (dA 0, (9, .inl (fun _ => 0))))] := hD
  have hP9 := hP.sub (ws' := [(h0, .inr (2, [.ref q0])), (q0, .inl (dA 0, (9, .inl (fun _ => 0))))]) [0, 1] rfl
  have hD9 := hD.sub (ws' := [(h0, .inr (2, [.ref q0])), (q0, .inl (dA 0, (9, .inl (fun _ => 0))))]) [0, 1] (by decide) rfl
  exact W.vret hx hb hr (fun t ht hW => ⟨⟨(), rfl, trivial, q0, by rw [ht]; exact hP9, va_K.moved hW.alike hK, hD9⟩, hS.F ht⟩) hS.2.2 dX2_init_12
theorem ml_RX3_3 : (.methodLink RX3 3 objectInit : Cond) ∈ tb := tb_of 78 (by decide +kernel) (by decide +kernel)
theorem ac_byte : (.arrayClass .byte : Cond) ∈ tb := tb_of 102 (by decide +kernel) (by decide +kernel)
theorem dX3_init_0 : decode cX3_init 0 = .ok (.aload_n 0, 1) := by decide +kernel
theorem dX3_init_1 : decode cX3_init 1 = .ok (.invokespecial 3, 3) := by decide +kernel
theorem dX3_init_4 : decode cX3_init 4 = .ok (.aload_n 0, 1) := by decide +kernel
theorem dX3_init_5 : decode cX3_init 5 = .ok (.sipush 300, 3) := by decide +kernel
theorem dX3_init_8 : decode cX3_init 8 = .ok (.newarray .byte, 2) := by decide +kernel
theorem dX3_init_10 : decode cX3_init 10 = .ok (.putfield 9, 3) := by decide +kernel
theorem dX3_init_13 : decode cX3_init 13 = .ok (.return_, 1) := by decide +kernel
set_option maxHeartbeats 4000000 in
set_option maxRecDepth 100000 in
theorem c_X3_init (l : Launch) (D : va_G) (dA : Nat → ClassId) (h0 sz : Nat) : Met l yX3_init (.code yX3_init cX3_init 1 none :: tb) ({ frames := 1, cells := 1, slots := 300, locals := 12 }) (va_Pc [.ref h0] (fun U => U.heap.size = sz ∧ va_P D vwCl [(h0, .inr (3, [.null, .int 0, .int 0, .int 0, .int 0, .int 0]))] U.heap ∧ va_K D vwCl (tyA dA) U ∧ va_D (fun _ => True) [(h0, .inr (3, [.null, .int 0, .int 0, .int 0, .int 0, .int 0]))])) (va_Qv (fun _ : Unit => True) (fun _ t => ∃ q0 : Nat, va_P D vwCl [(h0, .inr (3, [.ref q0, .int 0, .int 0, .int 0, .int 0, .int 0])), (q0, .inl (dA 1, (300, .inl (fun _ => 0))))] t.heap ∧ va_K D vwCl (tyA dA) t ∧ va_D (va_A [(h0, .inr (3, [.null, .int 0, .int 0, .int 0, .int 0, .int 0]))] sz) [(h0, .inr (3, [.ref q0, .int 0, .int 0, .int 0, .int 0, .int 0])), (q0, .inl (dA 1, (300, .inl (fun _ => 0))))]) (va_A [(h0, .inr (3, [.null, .int 0, .int 0, .int 0, .int 0, .int 0]))] sz)) 1 300 (va_A [(h0, .inr (3, [.null, .int 0, .int 0, .int 0, .int 0, .int 0]))] sz) := by
  refine Met.ofW (cc := cX3_init) (maxL := 1) (ret := none) (by decide) rfl ?_
  intro p e s m args below meth c s₁ B hml hv
  obtain ⟨rfl, hsz, hP, hK, hD0⟩ := hv
  have hx := B.exec
  have hb := B.bytes
  have hr := B.returns
  have hts0 := atoms_spec (ws := .code yX3_init cX3_init 1 none :: tb) B.pre
  have hts : ∀ w ∈ tb, w.before _ s = true := fun w h => hts0 w (List.mem_cons_of_mem _ h)
  have hown : s.vm.findClass RX3 = some m.cls := findClass_of_methodNamed B.named
  have hlocks := B.notSynchronized
  have hin : meth.name = "<init>" := (name_of_methodNamed B.named B.method).1
  subst hsz
  have hD := hD0.self (sz := s.heap.size)
  generalize hAe : va_A [(h0, .inr (3, [.null, .int 0, .int 0, .int 0, .int 0, .int 0]))] s.heap.size = A at hD ⊢
  have hA : ∀ q : Nat, s.heap.size ≤ q → A q := fun q h => by rw [← hAe]; exact Or.inr h
  have hS : va_S A s.heap s.heap [] := va_S.rf
  have hP : va_P D vwCl [(h0, .inr (3, [.null, .int 0, .int 0, .int 0, .int 0, .int 0]))] s.heap := hP
  have hl := lv_entry ([.ref h0]) (n := 1) (Nat.le_of_ble_eq_true rfl)
  rw [lg_entry_eq]
  generalize (lg_sl ([.ref h0]) ++ List.replicate (1 - (lg_sl ([.ref h0])).length) Slot.unset).toArray = ls at hl ⊢
  have hl : lv_has ls 1 [(0, .ref h0)] := hl
  refine lv_aload_n hx hb dX3_init_0 rfl (lv_at hl 0 rfl) ?_
  refine W.objInit hx hb hown (hts _ ml_RX3_3) (hts _ im_obj) (hts _ co_obj) rfl (by rw [hml]; exact hl.1) rfl dX3_init_1 (Nat.le_of_ble_eq_true rfl) (Nat.le_of_ble_eq_true rfl) ?_
  refine W.eq (g2 := F0 m 4 ls []) rfl ?_
  refine lv_aload_n hx hb dX3_init_4 rfl (lv_at hl 0 rfl) ?_
  refine lv_sipush (v := 300) hx hb dX3_init_5 (by decide) ?_
  refine va_nw (atype := .byte) (t := 1) (N := 300) hx hb (hts _ ac_byte) rfl rfl (fun _ => rfl) hK hP hD hS hA (fun _ => rfl) (by decide) (by decide) (Nat.le_of_ble_eq_true rfl) (Nat.le_of_ble_eq_true rfl) (Nat.le_of_ble_eq_true rfl) dX3_init_8 (fun q0 H hP hD hS => ?_)
  have hP : va_P D vwCl [(h0, .inr (3, [.null, .int 0, .int 0, .int 0, .int 0, .int 0])), (q0, .inl (dA 1, (300, .inl (fun _ => 0))))] H := hP
  have hD : va_D A [(h0, .inr (3, [.null, .int 0, .int 0, .int 0, .int 0, .int 0])), (q0, .inl (dA 1, (300, .inl (fun _ => 0))))] := hD
  refine W.widen (k := 1) (n := 300) (by omega) (by omega) ?_
  refine va_putF (D := D) (ci := 3) (v := .ref q0) (ty := .array .byte) (C := RX3) (T := TX3) (N := 6) hx hb hts inX3 tyX3 tyX3_ok nmX3 hown hK hP hD hS 0 rfl rfl 0 (by decide) (hts _ fl_RX3_9) (fun _ h9 => h9) rfl hin rfl (by decide +kernel) rfl rfl (Nat.le_of_ble_eq_true rfl) dX3_init_10 (fun H locs hP hD hS => ?_)
  have hP : va_P D vwCl [(h0, .inr (3, [.ref q0, .int 0, .int 0, .int 0, .int 0, .int 0])), (q0, .inl (dA 1, (300, .inl (fun _ => 0))))] H := hP
  have hD : va_D A [(h0, .inr (3, [.ref q0, .int 0, .int 0, .int 0, .int 0, .int 0])), (q0, .inl (dA 1, (300, .inl (fun _ => 0))))] := hD
  have hP9 := hP.sub (ws' := [(h0, .inr (3, [.ref q0, .int 0, .int 0, .int 0, .int 0, .int 0])), (q0, .inl (dA 1, (300, .inl (fun _ => 0))))]) [0, 1] rfl
  have hD9 := hD.sub (ws' := [(h0, .inr (3, [.ref q0, .int 0, .int 0, .int 0, .int 0, .int 0])), (q0, .inl (dA 1, (300, .inl (fun _ => 0))))]) [0, 1] (by decide) rfl
  exact W.vret hx hb hr (fun t ht hW => ⟨⟨(), rfl, trivial, q0, by rw [ht]; exact hP9, va_K.moved hW.alike hK, hD9⟩, hS.F ht⟩) hS.2.2 dX3_init_13
theorem ml_RX0_3 : (.methodLink RX0 3 objectInit : Cond) ∈ tb := tb_of 108 (by decide +kernel) (by decide +kernel)
theorem cl_RX0_9 : (.classLink RX0 9 RX1 : Cond) ∈ tb := tb_of 109 (by decide +kernel) (by decide +kernel)
theorem it_RX1 : (.instantiable RX1 9 : Cond) ∈ tb := tb_of 110 (by decide +kernel) (by decide +kernel)
theorem in_RX1 : (.initialized RX1 : Cond) ∈ tb := tb_of 57 (by decide +kernel) (by decide +kernel)
theorem co_X1_init : (.code yX1_init cX1_init 1 none : Cond) ∈ tb := tb_of 113 (by decide +kernel) (by decide +kernel)
theorem ml_RX0_11 : (.methodLink RX0 11 yX1_init : Cond) ∈ tb := tb_of 111 (by decide +kernel) (by decide +kernel)
theorem im_X1_init : (.instanceMethod yX1_init : Cond) ∈ tb := tb_of 112 (by decide +kernel) (by decide +kernel)
theorem dX0_init_0 : decode cX0_init 0 = .ok (.aload_n 0, 1) := by decide +kernel
theorem dX0_init_1 : decode cX0_init 1 = .ok (.invokespecial 3, 3) := by decide +kernel
theorem dX0_init_4 : decode cX0_init 4 = .ok (.aload_n 0, 1) := by decide +kernel
theorem dX0_init_5 : decode cX0_init 5 = .ok (.new 9, 3) := by decide +kernel
theorem dX0_init_8 : decode cX0_init 8 = .ok (.dup, 1) := by decide +kernel
theorem dX0_init_9 : decode cX0_init 9 = .ok (.invokespecial 11, 3) := by decide +kernel
theorem dX0_init_12 : decode cX0_init 12 = .ok (.putfield 12, 3) := by decide +kernel
theorem dX0_init_15 : decode cX0_init 15 = .ok (.aload_n 0, 1) := by decide +kernel
theorem dX0_init_16 : decode cX0_init 16 = .ok (.bipush 6, 2) := by decide +kernel
theorem dX0_init_18 : decode cX0_init 18 = .ok (.newarray .int, 2) := by decide +kernel
theorem dX0_init_20 : decode cX0_init 20 = .ok (.putfield 18, 3) := by decide +kernel
theorem dX0_init_23 : decode cX0_init 23 = .ok (.return_, 1) := by decide +kernel
set_option maxHeartbeats 4000000 in
set_option maxRecDepth 100000 in
theorem c_X0_init (l : Launch) (D : va_G) (dA : Nat → ClassId) (h0 sz : Nat) : Met l yX0_init (.code yX0_init cX0_init 1 none :: tb) ({ frames := 2, cells := 8, slots := 71, locals := 32 }) (va_Pc [.ref h0] (fun U => U.heap.size = sz ∧ va_P D vwCl [(h0, .inr (0, [.null, .null, .int 0, .int 0, .int 0, .int 0]))] U.heap ∧ va_K D vwCl (tyA dA) U ∧ va_D (fun _ => True) [(h0, .inr (0, [.null, .null, .int 0, .int 0, .int 0, .int 0]))])) (va_Qv (fun _ : Unit => True) (fun _ t => ∃ q0 q1 q2 q3 q4 q5 q6 q7 : Nat, va_P D vwCl [(h0, .inr (0, [.ref q0, .ref q7, .int 0, .int 0, .int 0, .int 0])), (q0, .inr (1, [.ref q1, .ref q2, .int 0, .int 0, .ref q3, .ref q4, .ref q5, .ref q6, .int 0])), (q1, .inl (dA 0, (8, .inl (fun _ => 0)))), (q2, .inl (dA 0, (8, .inl (fun _ => 0)))), (q3, .inl (dA 0, (10, .inl (fun _ => 0)))), (q4, .inl (dA 0, (10, .inl (fun _ => 0)))), (q5, .inl (dA 0, (10, .inl (fun _ => 0)))), (q6, .inl (dA 0, (10, .inl (fun _ => 0)))), (q7, .inl (dA 0, (6, .inl (fun _ => 0))))] t.heap ∧ va_K D vwCl (tyA dA) t ∧ va_D (va_A [(h0, .inr (0, [.null, .null, .int 0, .int 0, .int 0, .int 0]))] sz) [(h0, .inr (0, [.ref q0, .ref q7, .int 0, .int 0, .int 0, .int 0])), (q0, .inr (1, [.ref q1, .ref q2, .int 0, .int 0, .ref q3, .ref q4, .ref q5, .ref q6, .int 0])), (q1, .inl (dA 0, (8, .inl (fun _ => 0)))), (q2, .inl (dA 0, (8, .inl (fun _ => 0)))), (q3, .inl (dA 0, (10, .inl (fun _ => 0)))), (q4, .inl (dA 0, (10, .inl (fun _ => 0)))), (q5, .inl (dA 0, (10, .inl (fun _ => 0)))), (q6, .inl (dA 0, (10, .inl (fun _ => 0)))), (q7, .inl (dA 0, (6, .inl (fun _ => 0))))]) (va_A [(h0, .inr (0, [.null, .null, .int 0, .int 0, .int 0, .int 0]))] sz)) 8 71 (va_A [(h0, .inr (0, [.null, .null, .int 0, .int 0, .int 0, .int 0]))] sz) := by
  refine Met.ofW (cc := cX0_init) (maxL := 1) (ret := none) (by decide) rfl ?_
  intro p e s m args below meth c s₁ B hml hv
  obtain ⟨rfl, hsz, hP, hK, hD0⟩ := hv
  have hx := B.exec
  have hb := B.bytes
  have hr := B.returns
  have hts0 := atoms_spec (ws := .code yX0_init cX0_init 1 none :: tb) B.pre
  have hts : ∀ w ∈ tb, w.before _ s = true := fun w h => hts0 w (List.mem_cons_of_mem _ h)
  have hown : s.vm.findClass RX0 = some m.cls := findClass_of_methodNamed B.named
  have hlocks := B.notSynchronized
  have hin : meth.name = "<init>" := (name_of_methodNamed B.named B.method).1
  subst hsz
  have hD := hD0.self (sz := s.heap.size)
  generalize hAe : va_A [(h0, .inr (0, [.null, .null, .int 0, .int 0, .int 0, .int 0]))] s.heap.size = A at hD ⊢
  have hA : ∀ q : Nat, s.heap.size ≤ q → A q := fun q h => by rw [← hAe]; exact Or.inr h
  have hS : va_S A s.heap s.heap [] := va_S.rf
  have hP : va_P D vwCl [(h0, .inr (0, [.null, .null, .int 0, .int 0, .int 0, .int 0]))] s.heap := hP
  have hl := lv_entry ([.ref h0]) (n := 1) (Nat.le_of_ble_eq_true rfl)
  rw [lg_entry_eq]
  generalize (lg_sl ([.ref h0]) ++ List.replicate (1 - (lg_sl ([.ref h0])).length) Slot.unset).toArray = ls at hl ⊢
  have hl : lv_has ls 1 [(0, .ref h0)] := hl
  refine lv_aload_n hx hb dX0_init_0 rfl (lv_at hl 0 rfl) ?_
  refine W.objInit hx hb hown (hts _ ml_RX0_3) (hts _ im_obj) (hts _ co_obj) rfl (by rw [hml]; exact hl.1) rfl dX0_init_1 (Nat.le_of_ble_eq_true rfl) (Nat.le_of_ble_eq_true rfl) ?_
  refine W.eq (g2 := F0 m 4 ls []) rfl ?_
  refine lv_aload_n hx hb dX0_init_4 rfl (lv_at hl 0 rfl) ?_
  refine va_new (ci := 1) (fs := [.null, .null, .int 0, .int 0, .null, .null, .null, .null, .int 0]) (C := RX1) (T := TX1) (N := 9) hx hb hts inX1 tyX1 tyX1_ok hown (hts _ cl_RX0_9) (hts _ it_RX1) (hts _ in_RX1) hK hP hD hS hA rfl (fun j hj => by rcases (show j = 0 ∨ j = 1 ∨ j = 2 ∨ j = 3 ∨ j = 4 ∨ j = 5 ∨ j = 6 ∨ j = 7 ∨ j = 8 by omega) with rfl | rfl | rfl | rfl | rfl | rfl | rfl | rfl | rfl <;> rfl) (Nat.le_of_ble_eq_true rfl) (Nat.le_of_ble_eq_true rfl) dX0_init_5 (fun q0 H hP hD hS => ?_)
  have hP : va_P D vwCl [(h0, .inr (0, [.null, .null, .int 0, .int 0, .int 0, .int 0])), (q0, .inr (1, [.null, .null, .int 0, .int 0, .null, .null, .null, .null, .int 0]))] H := hP
  have hD : va_D A [(h0, .inr (0, [.null, .null, .int 0, .int 0, .int 0, .int 0])), (q0, .inr (1, [.null, .null, .int 0, .int 0, .null, .null, .null, .null, .int 0]))] := hD
  refine W.widen (k := 1) (n := 9) (by omega) (by omega) ?_
  refine lv_dup hx hb dX0_init_8 rfl ?_
  have hkc : 7 ≤ 8 := Nat.le_of_ble_eq_true rfl
  have hks : 65 ≤ 71 := Nat.le_of_ble_eq_true rfl
  have hPc := hP.sub (ws' := [(q0, .inr (1, [.null, .null, .int 0, .int 0, .null, .null, .null, .null, .int 0]))]) [1] rfl
  have hDc := hD.sub (ws' := [(q0, .inr (1, [.null, .null, .int 0, .int 0, .null, .null, .null, .null, .int 0]))]) [1] (by decide) rfl
  have hFc := va_free (wc := [(q0, .inr (1, [.null, .null, .int 0, .int 0, .null, .null, .null, .null, .int 0]))]) hD hS hA [1] rfl
  refine va_callv (va_runI (As := []) (rest := [.ref q0, .ref h0]) ⟨hx, hb, hml, hown, hts⟩ (c_X1_init l D dA q0 H.size) (cwI 0 hts (goodIn_tb (List.forall_mem_cons.mpr ⟨co_X1_init, fun _ h => h⟩)) rfl rfl rfl (hts _ in_RX1) (hts _ ml_RX0_11) (hts _ im_X1_init) rfl (by decide +kernel) ⟨Nat.le_of_ble_eq_true rfl, Nat.le_of_ble_eq_true rfl⟩) ⟨fun a U g mk q => by obtain ⟨q0, q1, qP, qK, qD⟩ := q; exact ⟨q0, q1, qP, va_K.moved (u := U) (U := U.calling g mk a) (Vm.Alike.refl U.vm) qK, qD⟩, fun U hU hW => ⟨rfl, by rw [hU], by rw [hU]; exact hPc, va_K.moved hW.alike hK, hDc.weaken (fun _ _ _ _ => trivial)⟩⟩ rfl rfl hl.1 rfl (lv_room (Nat.le_of_ble_eq_true rfl)) dX0_init_9 ⟨hkc, hks⟩) hS (fun q _ h => hFc q h) hFc (fun u t H1 locs ht hvm _ hB hz1 hk1 hS => ?_)
  obtain ⟨q1, q2, q3, q4, q5, q6, hP1, hK1, hD1⟩ := hB
  rw [ht] at hP1
  obtain ⟨hP, hD⟩ := va_join (wr := [(h0, .inr (0, [.null, .null, .int 0, .int 0, .int 0, .int 0]))]) (w1 := [(q0, .inr (1, [.ref q1, .ref q2, .int 0, .int 0, .ref q3, .ref q4, .ref q5, .ref q6, .int 0])), (q1, .inl (dA 0, (8, .inl (fun _ => 0)))), (q2, .inl (dA 0, (8, .inl (fun _ => 0)))), (q3, .inl (dA 0, (10, .inl (fun _ => 0)))), (q4, .inl (dA 0, (10, .inl (fun _ => 0)))), (q5, .inl (dA 0, (10, .inl (fun _ => 0)))), (q6, .inl (dA 0, (10, .inl (fun _ => 0))))]) hP hD [1] [0] rfl rfl (by decide) (by decide) hk1 hFc hP1 hD1
  generalize H1 = H at hP hS ⊢
  have hP : va_P D vwCl [(h0, .inr (0, [.null, .null, .int 0, .int 0, .int 0, .int 0])), (q0, .inr (1, [.ref q1, .ref q2, .int 0, .int 0, .ref q3, .ref q4, .ref q5, .ref q6, .int 0])), (q1, .inl (dA 0, (8, .inl (fun _ => 0)))), (q2, .inl (dA 0, (8, .inl (fun _ => 0)))), (q3, .inl (dA 0, (10, .inl (fun _ => 0)))), (q4, .inl (dA 0, (10, .inl (fun _ => 0)))), (q5, .inl (dA 0, (10, .inl (fun _ => 0)))), (q6, .inl (dA 0, (10, .inl (fun _ => 0))))] H := hP
  have hD : va_D A [(h0, .inr (0, [.null, .null, .int 0, .int 0, .int 0, .int 0])), (q0, .inr (1, [.ref q1, .ref q2, .int 0, .int 0, .ref q3, .ref q4, .ref q5, .ref q6, .int 0])), (q1, .inl (dA 0, (8, .inl (fun _ => 0)))), (q2, .inl (dA 0, (8, .inl (fun _ => 0)))), (q3, .inl (dA 0, (10, .inl (fun _ => 0)))), (q4, .inl (dA 0, (10, .inl (fun _ => 0)))), (q5, .inl (dA 0, (10, .inl (fun _ => 0)))), (q6, .inl (dA 0, (10, .inl (fun _ => 0))))] := hD
  refine W.widen (k := 7) (n := 65) (by omega) (by omega) ?_
  refine va_putF (D := D) (ci := 0) (v := .ref q0) (ty := .object "NotchKeys$Ring") (C := RX0) (T := TX0) (N := 6) hx hb hts inX0 tyX0 tyX0_ok nmX0 hown hK hP hD hS 0 rfl rfl 0 (by decide) (hts _ fl_RX0_12) (fun _ h9 => h9) rfl hin rfl (by decide +kernel) rfl rfl (Nat.le_of_ble_eq_true rfl) dX0_init_12 (fun H locs hP hD hS => ?_)
  have hP : va_P D vwCl [(h0, .inr (0, [.ref q0, .null, .int 0, .int 0, .int 0, .int 0])), (q0, .inr (1, [.ref q1, .ref q2, .int 0, .int 0, .ref q3, .ref q4, .ref q5, .ref q6, .int 0])), (q1, .inl (dA 0, (8, .inl (fun _ => 0)))), (q2, .inl (dA 0, (8, .inl (fun _ => 0)))), (q3, .inl (dA 0, (10, .inl (fun _ => 0)))), (q4, .inl (dA 0, (10, .inl (fun _ => 0)))), (q5, .inl (dA 0, (10, .inl (fun _ => 0)))), (q6, .inl (dA 0, (10, .inl (fun _ => 0))))] H := hP
  have hD : va_D A [(h0, .inr (0, [.ref q0, .null, .int 0, .int 0, .int 0, .int 0])), (q0, .inr (1, [.ref q1, .ref q2, .int 0, .int 0, .ref q3, .ref q4, .ref q5, .ref q6, .int 0])), (q1, .inl (dA 0, (8, .inl (fun _ => 0)))), (q2, .inl (dA 0, (8, .inl (fun _ => 0)))), (q3, .inl (dA 0, (10, .inl (fun _ => 0)))), (q4, .inl (dA 0, (10, .inl (fun _ => 0)))), (q5, .inl (dA 0, (10, .inl (fun _ => 0)))), (q6, .inl (dA 0, (10, .inl (fun _ => 0))))] := hD
  refine lv_aload_n hx hb dX0_init_15 rfl (lv_at hl 0 rfl) ?_
  refine lv_bipush (v := 6) hx hb dX0_init_16 (by decide) ?_
  refine va_nw (atype := .int) (t := 0) (N := 6) hx hb (hts _ ac_int) rfl rfl (fun _ => rfl) hK hP hD hS hA (fun _ => rfl) (by decide) (by decide) (Nat.le_of_ble_eq_true rfl) (Nat.le_of_ble_eq_true rfl) (Nat.le_of_ble_eq_true rfl) dX0_init_18 (fun q7 H hP hD hS => ?_)
  have hP : va_P D vwCl [(h0, .inr (0, [.ref q0, .null, .int 0, .int 0, .int 0, .int 0])), (q0, .inr (1, [.ref q1, .ref q2, .int 0, .int 0, .ref q3, .ref q4, .ref q5, .ref q6, .int 0])), (q1, .inl (dA 0, (8, .inl (fun _ => 0)))), (q2, .inl (dA 0, (8, .inl (fun _ => 0)))), (q3, .inl (dA 0, (10, .inl (fun _ => 0)))), (q4, .inl (dA 0, (10, .inl (fun _ => 0)))), (q5, .inl (dA 0, (10, .inl (fun _ => 0)))), (q6, .inl (dA 0, (10, .inl (fun _ => 0)))), (q7, .inl (dA 0, (6, .inl (fun _ => 0))))] H := hP
  have hD : va_D A [(h0, .inr (0, [.ref q0, .null, .int 0, .int 0, .int 0, .int 0])), (q0, .inr (1, [.ref q1, .ref q2, .int 0, .int 0, .ref q3, .ref q4, .ref q5, .ref q6, .int 0])), (q1, .inl (dA 0, (8, .inl (fun _ => 0)))), (q2, .inl (dA 0, (8, .inl (fun _ => 0)))), (q3, .inl (dA 0, (10, .inl (fun _ => 0)))), (q4, .inl (dA 0, (10, .inl (fun _ => 0)))), (q5, .inl (dA 0, (10, .inl (fun _ => 0)))), (q6, .inl (dA 0, (10, .inl (fun _ => 0)))), (q7, .inl (dA 0, (6, .inl (fun _ => 0))))] := hD
  refine W.widen (k := 8) (n := 71) (by omega) (by omega) ?_
  refine va_putF (D := D) (ci := 0) (v := .ref q7) (ty := .array .int) (C := RX0) (T := TX0) (N := 6) hx hb hts inX0 tyX0 tyX0_ok nmX0 hown hK hP hD hS 0 rfl rfl 1 (by decide) (hts _ fl_RX0_18) (fun _ h9 => h9) rfl hin rfl (by decide +kernel) rfl rfl (Nat.le_of_ble_eq_true rfl) dX0_init_20 (fun H locs hP hD hS => ?_)
  have hP : va_P D vwCl [(h0, .inr (0, [.ref q0, .ref q7, .int 0, .int 0, .int 0, .int 0])), (q0, .inr (1, [.ref q1, .ref q2, .int 0, .int 0, .ref q3, .ref q4, .ref q5, .ref q6, .int 0])), (q1, .inl (dA 0, (8, .inl (fun _ => 0)))), (q2, .inl (dA 0, (8, .inl (fun _ => 0)))), (q3, .inl (dA 0, (10, .inl (fun _ => 0)))), (q4, .inl (dA 0, (10, .inl (fun _ => 0)))), (q5, .inl (dA 0, (10, .inl (fun _ => 0)))), (q6, .inl (dA 0, (10, .inl (fun _ => 0)))), (q7, .inl (dA 0, (6, .inl (fun _ => 0))))] H := hP
  have hD : va_D A [(h0, .inr (0, [.ref q0, .ref q7, .int 0, .int 0, .int 0, .int 0])), (q0, .inr (1, [.ref q1, .ref q2, .int 0, .int 0, .ref q3, .ref q4, .ref q5, .ref q6, .int 0])), (q1, .inl (dA 0, (8, .inl (fun _ => 0)))), (q2, .inl (dA 0, (8, .inl (fun _ => 0)))), (q3, .inl (dA 0, (10, .inl (fun _ => 0)))), (q4, .inl (dA 0, (10, .inl (fun _ => 0)))), (q5, .inl (dA 0, (10, .inl (fun _ => 0)))), (q6, .inl (dA 0, (10, .inl (fun _ => 0)))), (q7, .inl (dA 0, (6, .inl (fun _ => 0))))] := hD
  have hP9 := hP.sub (ws' := [(h0, .inr (0, [.ref q0, .ref q7, .int 0, .int 0, .int 0, .int 0])), (q0, .inr (1, [.ref q1, .ref q2, .int 0, .int 0, .ref q3, .ref q4, .ref q5, .ref q6, .int 0])), (q1, .inl (dA 0, (8, .inl (fun _ => 0)))), (q2, .inl (dA 0, (8, .inl (fun _ => 0)))), (q3, .inl (dA 0, (10, .inl (fun _ => 0)))), (q4, .inl (dA 0, (10, .inl (fun _ => 0)))), (q5, .inl (dA 0, (10, .inl (fun _ => 0)))), (q6, .inl (dA 0, (10, .inl (fun _ => 0)))), (q7, .inl (dA 0, (6, .inl (fun _ => 0))))]) [0, 1, 2, 3, 4, 5, 6, 7, 8] rfl
  have hD9 := hD.sub (ws' := [(h0, .inr (0, [.ref q0, .ref q7, .int 0, .int 0, .int 0, .int 0])), (q0, .inr (1, [.ref q1, .ref q2, .int 0, .int 0, .ref q3, .ref q4, .ref q5, .ref q6, .int 0])), (q1, .inl (dA 0, (8, .inl (fun _ => 0)))), (q2, .inl (dA 0, (8, .inl (fun _ => 0)))), (q3, .inl (dA 0, (10, .inl (fun _ => 0)))), (q4, .inl (dA 0, (10, .inl (fun _ => 0)))), (q5, .inl (dA 0, (10, .inl (fun _ => 0)))), (q6, .inl (dA 0, (10, .inl (fun _ => 0)))), (q7, .inl (dA 0, (6, .inl (fun _ => 0))))]) [0, 1, 2, 3, 4, 5, 6, 7, 8] (by decide) rfl
  exact W.vret hx hb hr (fun t ht hW => ⟨⟨(), rfl, trivial, q0, q1, q2, q3, q4, q5, q6, q7, by rw [ht]; exact hP9, va_K.moved hW.alike hK, hD9⟩, hS.F ht⟩) hS.2.2 dX0_init_23
