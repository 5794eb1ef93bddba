/-! A method's walk: what stays the same in it, and its steps. -/
def lenS : List Nat := [3, 4, 6, 5]
def bytS : List (List Int32) := [[107, 101, 121], [108, 111, 99, 107], [112, 101, 114, 115, 111, 110], [104, 111, 108, 100, 115]]
def RSF : String := "Ljava/util/function/BiFunction;"
/-- the cells' addresses are apart -/
def apt (ad : Nat → Nat) : Prop := ∀ i j : Nat, i < 48 → j < 48 → ad i = ad j → i = j
/-- what a method may change -/
def AA (ad : Nat → Nat) (sz : Nat) : Nat → Prop := fun q => (∃ k, k < 48 ∧ q = ad k) ∨ sz ≤ q
/-- texts and statics, of which nothing changes -/
def EX (ad : Nat → Nat) (A : Nat → Prop) (U : State) (H : Heap) : Prop :=
  vk_S 4 lenS bytS (fun i => ad (100 + i)) (fun i => ad (110 + i)) A U H ∧ (vk_R RX3 51 "key" (ad 100) U ∧ vk_R RX3 57 "lock" (ad 101) U ∧ vk_R RX3 59 "person" (ad 102) U ∧ vk_R RX3 61 "holds" (ad 103) U) ∧ va_Z RJ0 "COMPACT_STRINGS" "Z" (.int 1) A U H ∧ va_Z RJ3 "SIOOBE_FORMATTER" RSF (kv ad (VR 120)) A U H
theorem EX.kept {ad : Nat → Nat} {A : Nat → Prop} {U : State} {H H1 : Heap} (h : EX ad A U H) (hq : ∀ a : Nat, a < H.size → ¬ A a → H1[a]? = H[a]?) : EX ad A U H1 := ⟨h.1.kept hq, h.2.1, h.2.2.1.kept hq, h.2.2.2.kept hq⟩
theorem EX.narrow {ad : Nat → Nat} {A B : Nat → Prop} {U : State} {H : Heap} (h : EX ad A U H) (hAB : ∀ q, B q → A q) : EX ad B U H := ⟨h.1.narrow hAB, h.2.1, h.2.2.1.narrow hAB, h.2.2.2.narrow hAB⟩
theorem EX.warm {ad : Nat → Nat} {A : Nat → Prop} {u U : State} {H : Heap} (hW : u.WarmedH U.vm) (h : EX ad A u H) : EX ad A U H :=
  ⟨h.1.moved hW.alike, ⟨h.2.1.1.warm hW, h.2.1.2.1.warm hW, h.2.1.2.2.1.warm hW, h.2.1.2.2.2.warm hW⟩, h.2.2.1.moved hW.alike, h.2.2.2.moved hW.alike⟩
theorem EX.same {ad : Nat → Nat} {A : Nat → Prop} {u U : State} {H : Heap} (hv : U.vm = u.vm) (h : EX ad A u H) : EX ad A U H := by
  have hA : u.vm.Alike U.vm := by rw [hv]; exact Vm.Alike.refl u.vm
  exact ⟨h.1.moved hA, ⟨h.2.1.1.same hv, h.2.1.2.1.same hv, h.2.1.2.2.1.same hv, h.2.1.2.2.2.same hv⟩, h.2.2.1.moved hA, h.2.2.2.moved hA⟩
/-- a method's start, its end, its contract -/
def PW (D : va_G) (dA : Nat → ClassId) (ad : Nat → Nat) (sz : Nat) (M : AM) (U : State) : Prop :=
  U.heap.size = sz ∧ va_P D vwCl (wd dA ad M) U.heap ∧ va_K D vwCl (tyA dA) U ∧ apt ad ∧ EX ad (AA ad sz) U U.heap
def CQ (D : va_G) (dA : Nat → ClassId) (ad : Nat → Nat) (post : PO) (A : Nat → Prop) : Array Value → State → Outcome → State → Prop := fun _ st o t =>
  (∃ (r : Option AV) (M' : AM), o = .returned (r.map (kv ad)) ∧ post r M' ∧ va_P D vwCl (wd dA ad M') t.heap) ∧ va_F A st t
def Ctr (y : MethodName) (cy : ByteArray) (mL : Nat) (ret : Option FieldType) (rm : Room) (S : SP) : Prop :=
  ∀ (l : Launch) (D : va_G) (dA : Nat → ClassId) (ad : Nat → Nat) (sz : Nat) (as : List AV) (M : AM) (post : PO), S as M post →
    Met l y (.code y cy mL ret :: tb) rm (va_Pc (as.map (kv ad)) (PW D dA ad sz M)) (CQ D dA ad post (AA ad sz)) 0 0 (AA ad sz)
/-- a method's walk stands at pc, with these locals, this stack, this memory: it comes to its end -/
def WW (p : Program) (l : Launch) (e : Env) (R : Room) (s : State) (m : MethodId) (args : Array Value) (below : List Frame) (meth : Method) (c : Code) (cells slots : Nat) (Q : State → Prop) (nL : Nat) (D : va_G) (dA : Nat → ClassId) (ad : Nat → Nat) (A : Nat → Prop) : NX := fun pc lv st M =>
  ∀ (H : Heap) (locs : List Loc) (ls : Array Slot), va_P D vwCl (wd dA ad M) H → va_S A s.heap H locs → lv_has ls nL (lvl ad lv) → W p l e R s m args below meth c H locs cells slots Q (F0 m pc ls (st.map (kv ad)))
/-- what stays the same in it -/
def CX (p : Program) (s : State) (m : MethodId) (args : Array Value) (meth : Method) (c : Code) (cc : ByteArray) (nL : Nat) (own : String) (D : va_G) (dA : Nat → ClassId) (ad : Nat → Nat) (A : Nat → Prop) : Prop :=
  p.tables.exec = Jvm.exec ∧ c.code = cc ∧ c.maxLocals = nL ∧ s.vm.findClass own = some m.cls ∧ (∀ w ∈ tb, w.before args s = true) ∧ va_K D vwCl (tyA dA) s ∧ (apt ad ∧ ∀ k, k < 48 → A (ad k)) ∧ EX ad A s s.heap ∧ (∀ q : Nat, s.heap.size ≤ q → A q) ∧ meth.locks = false
theorem wd_D {dA : Nat → ClassId} {ad : Nat → Nat} {A : Nat → Prop} (h : apt ad ∧ ∀ k, k < 48 → A (ad k)) (M : AM) : va_D A (wd dA ad M) := by
  refine ⟨fun i j p q hi hj hpq => ?_, fun k q hk => ?_⟩
  · obtain ⟨h1, h2⟩ := wd_some hi
    obtain ⟨h3, h4⟩ := wd_some hj
    exact h.1 i j h1 h3 (by rw [← h2, ← h4, hpq])
  · obtain ⟨h1, h2⟩ := wd_some hk
    rw [h2]
    exact h.2 k h1
section STEPS
variable {p : Program} {l : Launch} {e : Env} {R : Room} {s : State} {m : MethodId} {args : Array Value} {below : List Frame} {meth : Method} {c : Code} {cells slots : Nat} {Q : State → Prop} {nL : Nat} {D : va_G} {dA : Nat → ClassId} {ad : Nat → Nat} {A : Nat → Prop} {cc : ByteArray} {own : String} {pc : Nat}
theorem ww_wk : WK (WW p l e R s m args below meth c cells slots Q nL D dA ad A) := by
  intro pc lv lv' st M h hw H locs ls hP hS hL
  exact hw H locs ls hP hS (lv_of hL fun i a hg => lvl_mem.mpr ⟨i, a, lg_lsub h hg, rfl⟩)
theorem s_iconst (C : CX p s m args meth c cc nL own D dA ad A) {n : Int} {x : Int32} (hd : decode cc pc = .ok (.iconst n, 1)) (hv : Int32.ofInt n = x) : Snd (WW p l e R s m args below meth c cells slots Q nL D dA ad A) pc (o_const x (pc + 1)) :=
  fun _ hK _ _ _ h H locs ls hP hS hL => lv_iconst C.1 C.2.1 hd hv (hK _ _ _ _ h H locs ls hP hS hL)
theorem s_bipush (C : CX p s m args meth c cc nL own D dA ad A) {n : Int} {x : Int32} (hd : decode cc pc = .ok (.bipush n, 2)) (hv : (Int8.ofInt n).toInt32 = x) : Snd (WW p l e R s m args below meth c cells slots Q nL D dA ad A) pc (o_const x (pc + 2)) :=
  fun _ hK _ _ _ h H locs ls hP hS hL => lv_bipush C.1 C.2.1 hd hv (hK _ _ _ _ h H locs ls hP hS hL)
theorem s_sipush (C : CX p s m args meth c cc nL own D dA ad A) {n : Int} {x : Int32} (hd : decode cc pc = .ok (.sipush n, 3)) (hv : (Int16.ofInt n).toInt32 = x) : Snd (WW p l e R s m args below meth c cells slots Q nL D dA ad A) pc (o_const x (pc + 3)) :=
  fun _ hK _ _ _ h H locs ls hP hS hL => lv_sipush C.1 C.2.1 hd hv (hK _ _ _ _ h H locs ls hP hS hL)
theorem s_ldc (C : CX p s m args meth c cc nL own D dA ad A) {i : Nat} {x : Int32} (hw : Cond.constant own i x ∈ tb) (hd : decode cc pc = .ok (.ldc i, 2)) : Snd (WW p l e R s m args below meth c cells slots Q nL D dA ad A) pc (o_const x (pc + 2)) :=
  fun _ hK _ _ _ h H locs ls hP hS hL => lv_ldc C.1 C.2.1 C.2.2.2.1 (C.2.2.2.2.1 _ hw) hd (hK _ _ _ _ h H locs ls hP hS hL)
theorem s_ldcw (C : CX p s m args meth c cc nL own D dA ad A) {i : Nat} {x : Int32} (hw : Cond.constant own i x ∈ tb) (hd : decode cc pc = .ok (.ldc_w i, 3)) : Snd (WW p l e R s m args below meth c cells slots Q nL D dA ad A) pc (o_const x (pc + 3)) :=
  fun _ hK _ _ _ h H locs ls hP hS hL => lv_ldcw C.1 C.2.1 C.2.2.2.1 (C.2.2.2.2.1 _ hw) hd (hK _ _ _ _ h H locs ls hP hS hL)
theorem s_lconst (C : CX p s m args meth c cc nL own D dA ad A) {n : Fin 2} {x : Int64} (hd : decode cc pc = .ok (.lconst n, 1)) (hv : Int64.ofNat (n : Nat) = x) : Snd (WW p l e R s m args below meth c cells slots Q nL D dA ad A) pc (o_lconst x (pc + 1)) :=
  fun _ hK _ _ _ h H locs ls hP hS hL => lv_lconst C.1 C.2.1 hd hv (hK _ _ _ _ h H locs ls hP hS hL)
theorem s_ldc2 (C : CX p s m args meth c cc nL own D dA ad A) {i : Nat} {x : Int64} (hw : Cond.constantLong own i x ∈ tb) (hd : decode cc pc = .ok (.ldc2_w i, 3)) : Snd (WW p l e R s m args below meth c cells slots Q nL D dA ad A) pc (o_lconst x (pc + 3)) :=
  fun _ hK _ _ _ h H locs ls hP hS hL => lv_ldc2 C.1 C.2.1 C.2.2.2.1 (C.2.2.2.2.1 _ hw) hd (hK _ _ _ _ h H locs ls hP hS hL)
theorem s_ldcS (C : CX p s m args meth c cc nL own D dA ad A) {i k : Nat} {tx : String} (hk : k ≠ 120) (hz : EX ad A s s.heap → vk_R own i tx (ad k) s) (hd : decode cc pc = .ok (.ldc i, 2)) : Snd (WW p l e R s m args below meth c cells slots Q nL D dA ad A) pc (o_ref k (pc + 2)) := by
  intro K hK lv st M h H locs ls hP hS hL
  have h1 := hK _ _ _ _ h H locs ls hP hS hL
  rw [List.map_cons, kv_ref hk] at h1
  exact va_ldcS C.1 C.2.1 C.2.2.2.1 (hz C.2.2.2.2.2.2.2.1) hd h1
theorem s_iload_n (C : CX p s m args meth c cc nL own D dA ad A) {k : Fin 4} {i : Nat} (hi : (k : Nat) = i) (hd : decode cc pc = .ok (.iload_n k, 1)) : Snd (WW p l e R s m args below meth c cells slots Q nL D dA ad A) pc (o_iload i (pc + 1)) := by
  intro K hK lv st M h H locs ls hP hS hL
  unfold o_iload at h
  split at h
  · rename_i x hx
    exact lv_iload_n C.1 C.2.1 hd hi (lv_known hL hx) (hK _ _ _ _ h H locs ls hP hS hL)
  · exact h.elim
theorem s_iload (C : CX p s m args meth c cc nL own D dA ad A) {i : Nat} (hd : decode cc pc = .ok (.iload i, 2)) : Snd (WW p l e R s m args below meth c cells slots Q nL D dA ad A) pc (o_iload i (pc + 2)) := by
  intro K hK lv st M h H locs ls hP hS hL
  unfold o_iload at h
  split at h
  · rename_i x hx
    exact lv_iload C.1 C.2.1 hd (lv_known hL hx) (hK _ _ _ _ h H locs ls hP hS hL)
  · exact h.elim
theorem s_lload_n (C : CX p s m args meth c cc nL own D dA ad A) {k : Fin 4} {i : Nat} (hi : (k : Nat) = i) (hd : decode cc pc = .ok (.lload_n k, 1)) : Snd (WW p l e R s m args below meth c cells slots Q nL D dA ad A) pc (o_lload i (pc + 1)) := by
  intro K hK lv st M h H locs ls hP hS hL
  unfold o_lload at h
  split at h
  · rename_i x hx
    exact lv_lload_n C.1 C.2.1 hd hi (lv_known hL hx) (hK _ _ _ _ h H locs ls hP hS hL)
  · exact h.elim
theorem s_aload_n (C : CX p s m args meth c cc nL own D dA ad A) {k : Fin 4} {i : Nat} (hi : (k : Nat) = i) (hd : decode cc pc = .ok (.aload_n k, 1)) : Snd (WW p l e R s m args below meth c cells slots Q nL D dA ad A) pc (o_aload i (pc + 1)) := by
  intro K hK lv st M h H locs ls hP hS hL
  unfold o_aload at h
  split at h
  · rename_i b hx
    cases hb : Nat.beq b 120 with
    | true => rw [hb] at h; exact h.elim
    | false =>
      rw [hb] at h
      have hne : b ≠ 120 := fun z => by rw [z] at hb; cases hb
      have h1 := hK _ _ _ _ h H locs ls hP hS hL
      have h2 := lv_known hL hx
      rw [List.map_cons, kv_ref hne] at h1
      rw [show kv ad (Sum.inr (Sum.inr b)) = .ref (ad b) from kv_ref hne] at h2
      exact lv_aload_n C.1 C.2.1 hd hi h2 h1
  · exact h.elim
theorem s_aload (C : CX p s m args meth c cc nL own D dA ad A) {i : Nat} (hd : decode cc pc = .ok (.aload i, 2)) : Snd (WW p l e R s m args below meth c cells slots Q nL D dA ad A) pc (o_aload i (pc + 2)) := by
  intro K hK lv st M h H locs ls hP hS hL
  unfold o_aload at h
  split at h
  · rename_i b hx
    cases hb : Nat.beq b 120 with
    | true => rw [hb] at h; exact h.elim
    | false =>
      rw [hb] at h
      have hne : b ≠ 120 := fun z => by rw [z] at hb; cases hb
      have h1 := hK _ _ _ _ h H locs ls hP hS hL
      have h2 := lv_known hL hx
      rw [List.map_cons, kv_ref hne] at h1
      rw [show kv ad (Sum.inr (Sum.inr b)) = .ref (ad b) from kv_ref hne] at h2
      exact lv_aload C.1 C.2.1 hd h2 h1
  · exact h.elim
theorem s_istore_n (C : CX p s m args meth c cc nL own D dA ad A) {k : Fin 4} {i : Nat} (hi : (k : Nat) = i) (hn : i < nL) (hd : decode cc pc = .ok (.istore_n k, 1)) : Snd (WW p l e R s m args below meth c cells slots Q nL D dA ad A) pc (o_istore i (pc + 1)) := by
  intro K hK lv st M h H locs ls hP hS hL
  unfold o_istore at h
  split at h
  · rename_i x st'
    exact lv_istore_n C.1 C.2.1 hd hi hL hn rfl (fun ls' hL' => hK _ _ _ _ h H locs ls' hP hS (lv_put (v := VI x) hL'))
  · exact h.elim
theorem s_istore (C : CX p s m args meth c cc nL own D dA ad A) {i : Nat} (hn : i < nL) (hd : decode cc pc = .ok (.istore i, 2)) : Snd (WW p l e R s m args below meth c cells slots Q nL D dA ad A) pc (o_istore i (pc + 2)) := by
  intro K hK lv st M h H locs ls hP hS hL
  unfold o_istore at h
  split at h
  · rename_i x st'
    exact lv_istore C.1 C.2.1 hd hL hn rfl (fun ls' hL' => hK _ _ _ _ h H locs ls' hP hS (lv_put (v := VI x) hL'))
  · exact h.elim
theorem s_lstore_n (C : CX p s m args meth c cc nL own D dA ad A) {k : Fin 4} {i : Nat} (hi : (k : Nat) = i) (hn : i + 1 < nL) (hd : decode cc pc = .ok (.lstore_n k, 1)) : Snd (WW p l e R s m args below meth c cells slots Q nL D dA ad A) pc (o_lstore i (pc + 1)) := by
  intro K hK lv st M h H locs ls hP hS hL
  unfold o_lstore at h
  split at h
  · rename_i x st'
    exact lv_lstore_n C.1 C.2.1 hd hi hL hn rfl (fun ls' hL' => hK _ _ _ _ h H locs ls' hP hS (lv_put2 (v := VL x) hL'))
  · exact h.elim
theorem s_astore_n (C : CX p s m args meth c cc nL own D dA ad A) {k : Fin 4} {i : Nat} (hi : (k : Nat) = i) (hn : i < nL) (hd : decode cc pc = .ok (.astore_n k, 1)) : Snd (WW p l e R s m args below meth c cells slots Q nL D dA ad A) pc (o_astore i (pc + 1)) := by
  intro K hK lv st M h H locs ls hP hS hL
  unfold o_astore at h
  split at h
  · rename_i b st'
    cases hb : Nat.beq b 120 with
    | true => rw [hb] at h; exact h.elim
    | false =>
      rw [hb] at h
      have hne : b ≠ 120 := fun z => by rw [z] at hb; cases hb
      show W p l e R s m args below meth c H locs cells slots Q (F0 m pc ls (kv ad (VR b) :: st'.map (kv ad)))
      rw [kv_ref hne]
      exact lv_astore_n C.1 C.2.1 hd hi hL hn rfl (fun ls' hL' => hK _ _ _ _ h H locs ls' hP hS (lv_put (v := VR b) (by rw [kv_ref hne]; exact hL')))
  · exact h.elim
theorem s_iinc (C : CX p s m args meth c cc nL own D dA ad A) {i : Nat} {n : Int} {x : Int32} (hn : i < nL) (hv : Int32.ofInt n = x) (hd : decode cc pc = .ok (.iinc i n, 3)) : Snd (WW p l e R s m args below meth c cells slots Q nL D dA ad A) pc (o_iinc i x (pc + 3)) := by
  intro K hK lv st M h H locs ls hP hS hL
  unfold o_iinc at h
  split at h
  · rename_i y hy
    obtain ⟨k, hk⟩ := List.getElem?_of_mem (lvl_mem.mpr ⟨i, VI y, hy, rfl⟩ : (i, kv ad (VI y)) ∈ lvl ad lv)
    exact lv_iinc C.1 C.2.1 hd hL (k := k) hk (by rw [hv]) hn rfl (fun ls' hL' => hK _ _ _ _ h H locs ls' hP hS (lv_put (v := VI (y + x)) hL'))
  · exact h.elim
theorem s_bin (C : CX p s m args meth c cc nL own D dA ad A) {f : Int32 → Int32 → Int32} (hstep : ∀ (H : Heap) (locs : List Loc) (ls : Array Slot) (rest : List Value) (x y : Int32), W p l e R s m args below meth c H locs cells slots Q (F0 m (pc + 1) ls (.int (f x y) :: rest)) → W p l e R s m args below meth c H locs cells slots Q (F0 m pc ls (.int y :: .int x :: rest))) : Snd (WW p l e R s m args below meth c cells slots Q nL D dA ad A) pc (o_bin f (pc + 1)) := by
  intro K hK lv st M h H locs ls hP hS hL
  unfold o_bin at h
  split at h
  · exact hstep _ _ _ _ _ _ (hK _ _ _ _ h H locs ls hP hS hL)
  · exact h.elim
theorem s_iadd (C : CX p s m args meth c cc nL own D dA ad A) (hd : decode cc pc = .ok (.iadd, 1)) : Snd (WW p l e R s m args below meth c cells slots Q nL D dA ad A) pc (o_bin (fun x y => x + y) (pc + 1)) := s_bin C fun _ _ _ _ _ _ k => lv_iadd C.1 C.2.1 hd k
theorem s_isub (C : CX p s m args meth c cc nL own D dA ad A) (hd : decode cc pc = .ok (.isub, 1)) : Snd (WW p l e R s m args below meth c cells slots Q nL D dA ad A) pc (o_bin (fun x y => x - y) (pc + 1)) := s_bin C fun _ _ _ _ _ _ k => lv_isub C.1 C.2.1 hd k
theorem s_imul (C : CX p s m args meth c cc nL own D dA ad A) (hd : decode cc pc = .ok (.imul, 1)) : Snd (WW p l e R s m args below meth c cells slots Q nL D dA ad A) pc (o_bin (fun x y => x * y) (pc + 1)) := s_bin C fun _ _ _ _ _ _ k => lv_imul C.1 C.2.1 hd k
theorem s_iand (C : CX p s m args meth c cc nL own D dA ad A) (hd : decode cc pc = .ok (.iand, 1)) : Snd (WW p l e R s m args below meth c cells slots Q nL D dA ad A) pc (o_bin (fun x y => x &&& y) (pc + 1)) := s_bin C fun _ _ _ _ _ _ k => lv_iand C.1 C.2.1 hd k
theorem s_ior (C : CX p s m args meth c cc nL own D dA ad A) (hd : decode cc pc = .ok (.ior, 1)) : Snd (WW p l e R s m args below meth c cells slots Q nL D dA ad A) pc (o_bin (fun x y => x ||| y) (pc + 1)) := s_bin C fun _ _ _ _ _ _ k => lv_ior C.1 C.2.1 hd k
theorem s_ixor (C : CX p s m args meth c cc nL own D dA ad A) (hd : decode cc pc = .ok (.ixor, 1)) : Snd (WW p l e R s m args below meth c cells slots Q nL D dA ad A) pc (o_bin (fun x y => x ^^^ y) (pc + 1)) := s_bin C fun _ _ _ _ _ _ k => lv_ixor C.1 C.2.1 hd k
theorem s_ishl (C : CX p s m args meth c cc nL own D dA ad A) (hd : decode cc pc = .ok (.ishl, 1)) : Snd (WW p l e R s m args below meth c cells slots Q nL D dA ad A) pc (o_bin (fun x y => x <<< (y &&& 31)) (pc + 1)) := s_bin C fun _ _ _ _ _ _ k => lv_ishl C.1 C.2.1 hd k
theorem s_ishr (C : CX p s m args meth c cc nL own D dA ad A) (hd : decode cc pc = .ok (.ishr, 1)) : Snd (WW p l e R s m args below meth c cells slots Q nL D dA ad A) pc (o_bin (fun x y => x >>> (y &&& 31)) (pc + 1)) := s_bin C fun _ _ _ _ _ _ k => lv_ishr C.1 C.2.1 hd k
theorem s_iushr (C : CX p s m args meth c cc nL own D dA ad A) (hd : decode cc pc = .ok (.iushr, 1)) : Snd (WW p l e R s m args below meth c cells slots Q nL D dA ad A) pc (o_bin (fun x y => (x.toUInt32 >>> (y.toUInt32 &&& Int32.toUInt32 31)).toInt32) (pc + 1)) := s_bin C fun _ _ _ _ _ _ k => lv_iushr C.1 C.2.1 hd rfl k
theorem s_div (C : CX p s m args meth c cc nL own D dA ad A) {f : Int32 → Int32 → Int32} (hstep : ∀ (H : Heap) (locs : List Loc) (ls : Array Slot) (rest : List Value) (x y : Int32), ¬ y = 0 → W p l e R s m args below meth c H locs cells slots Q (F0 m (pc + 1) ls (.int (f x y) :: rest)) → W p l e R s m args below meth c H locs cells slots Q (F0 m pc ls (.int y :: .int x :: rest))) : Snd (WW p l e R s m args below meth c cells slots Q nL D dA ad A) pc (o_div f (pc + 1)) := by
  intro K hK lv st M h H locs ls hP hS hL
  unfold o_div at h
  split at h
  · exact hstep _ _ _ _ _ _ h.1 (hK _ _ _ _ h.2 H locs ls hP hS hL)
  · exact h.elim
theorem s_idiv (C : CX p s m args meth c cc nL own D dA ad A) (hd : decode cc pc = .ok (.idiv, 1)) : Snd (WW p l e R s m args below meth c cells slots Q nL D dA ad A) pc (o_div (fun x y => x / y) (pc + 1)) := s_div C fun _ _ _ _ _ _ hz k => lv_idiv C.1 C.2.1 hd hz k
theorem s_irem (C : CX p s m args meth c cc nL own D dA ad A) (hd : decode cc pc = .ok (.irem, 1)) : Snd (WW p l e R s m args below meth c cells slots Q nL D dA ad A) pc (o_div (fun x y => x - x / y * y) (pc + 1)) := s_div C fun _ _ _ _ _ _ hz k => lv_irem C.1 C.2.1 hd hz k
theorem s_un (C : CX p s m args meth c cc nL own D dA ad A) {f : Int32 → Int32} (hstep : ∀ (H : Heap) (locs : List Loc) (ls : Array Slot) (rest : List Value) (x : Int32), W p l e R s m args below meth c H locs cells slots Q (F0 m (pc + 1) ls (.int (f x) :: rest)) → W p l e R s m args below meth c H locs cells slots Q (F0 m pc ls (.int x :: rest))) : Snd (WW p l e R s m args below meth c cells slots Q nL D dA ad A) pc (o_un f (pc + 1)) := by
  intro K hK lv st M h H locs ls hP hS hL
  unfold o_un at h
  split at h
  · exact hstep _ _ _ _ _ (hK _ _ _ _ h H locs ls hP hS hL)
  · exact h.elim
theorem s_i2b (C : CX p s m args meth c cc nL own D dA ad A) (hd : decode cc pc = .ok (.i2b, 1)) : Snd (WW p l e R s m args below meth c cells slots Q nL D dA ad A) pc (o_un (fun x => x.toInt8.toInt32) (pc + 1)) := s_un C fun _ _ _ _ _ k => lv_i2b C.1 C.2.1 hd rfl k
theorem s_i2c (C : CX p s m args meth c cc nL own D dA ad A) (hd : decode cc pc = .ok (.i2c, 1)) : Snd (WW p l e R s m args below meth c cells slots Q nL D dA ad A) pc (o_un (fun x => (x.toUInt32 % 65536).toInt32) (pc + 1)) := s_un C fun _ _ _ _ _ k => lv_i2c C.1 C.2.1 hd rfl k
theorem s_lbin (C : CX p s m args meth c cc nL own D dA ad A) {f : Int64 → Int64 → Int64} (hstep : ∀ (H : Heap) (locs : List Loc) (ls : Array Slot) (rest : List Value) (x y : Int64), W p l e R s m args below meth c H locs cells slots Q (F0 m (pc + 1) ls (.long (f x y) :: rest)) → W p l e R s m args below meth c H locs cells slots Q (F0 m pc ls (.long y :: .long x :: rest))) : Snd (WW p l e R s m args below meth c cells slots Q nL D dA ad A) pc (o_lbin f (pc + 1)) := by
  intro K hK lv st M h H locs ls hP hS hL
  unfold o_lbin at h
  split at h
  · exact hstep _ _ _ _ _ _ (hK _ _ _ _ h H locs ls hP hS hL)
  · exact h.elim
theorem s_ladd (C : CX p s m args meth c cc nL own D dA ad A) (hd : decode cc pc = .ok (.ladd, 1)) : Snd (WW p l e R s m args below meth c cells slots Q nL D dA ad A) pc (o_lbin (fun x y => x + y) (pc + 1)) := s_lbin C fun _ _ _ _ _ _ k => lv_ladd C.1 C.2.1 hd k
theorem s_lmul (C : CX p s m args meth c cc nL own D dA ad A) (hd : decode cc pc = .ok (.lmul, 1)) : Snd (WW p l e R s m args below meth c cells slots Q nL D dA ad A) pc (o_lbin (fun x y => x * y) (pc + 1)) := s_lbin C fun _ _ _ _ _ _ k => lv_lmul C.1 C.2.1 hd k
theorem s_land (C : CX p s m args meth c cc nL own D dA ad A) (hd : decode cc pc = .ok (.land, 1)) : Snd (WW p l e R s m args below meth c cells slots Q nL D dA ad A) pc (o_lbin (fun x y => x &&& y) (pc + 1)) := s_lbin C fun _ _ _ _ _ _ k => lv_land C.1 C.2.1 hd k
theorem s_lor (C : CX p s m args meth c cc nL own D dA ad A) (hd : decode cc pc = .ok (.lor, 1)) : Snd (WW p l e R s m args below meth c cells slots Q nL D dA ad A) pc (o_lbin (fun x y => x ||| y) (pc + 1)) := s_lbin C fun _ _ _ _ _ _ k => lv_lor C.1 C.2.1 hd k
theorem s_lshl (C : CX p s m args meth c cc nL own D dA ad A) (hd : decode cc pc = .ok (.lshl, 1)) : Snd (WW p l e R s m args below meth c cells slots Q nL D dA ad A) pc (o_lsh (fun x y => x <<< (y.toInt64 &&& 63)) (pc + 1)) := by
  intro K hK lv st M h H locs ls hP hS hL
  unfold o_lsh at h
  split at h
  · exact lv_lshl C.1 C.2.1 hd rfl (hK _ _ _ _ h H locs ls hP hS hL)
  · exact h.elim
theorem s_lshr (C : CX p s m args meth c cc nL own D dA ad A) (hd : decode cc pc = .ok (.lshr, 1)) : Snd (WW p l e R s m args below meth c cells slots Q nL D dA ad A) pc (o_lsh (fun x y => x >>> (y.toInt64 &&& 63)) (pc + 1)) := by
  intro K hK lv st M h H locs ls hP hS hL
  unfold o_lsh at h
  split at h
  · exact lv_lshr C.1 C.2.1 hd rfl (hK _ _ _ _ h H locs ls hP hS hL)
  · exact h.elim
theorem s_lcmp (C : CX p s m args meth c cc nL own D dA ad A) (hd : decode cc pc = .ok (.lcmp, 1)) : Snd (WW p l e R s m args below meth c cells slots Q nL D dA ad A) pc (o_lcmp (pc + 1)) := by
  intro K hK lv st M h H locs ls hP hS hL
  unfold o_lcmp at h
  split at h
  · exact W.lcmp C.1 C.2.1 hd (hK _ _ _ _ h H locs ls hP hS hL)
  · exact h.elim
theorem s_i2l (C : CX p s m args meth c cc nL own D dA ad A) (hd : decode cc pc = .ok (.i2l, 1)) : Snd (WW p l e R s m args below meth c cells slots Q nL D dA ad A) pc (o_i2l (pc + 1)) := by
  intro K hK lv st M h H locs ls hP hS hL
  unfold o_i2l at h
  split at h
  · exact lv_i2l C.1 C.2.1 hd rfl (hK _ _ _ _ h H locs ls hP hS hL)
  · exact h.elim
theorem s_l2i (C : CX p s m args meth c cc nL own D dA ad A) (hd : decode cc pc = .ok (.l2i, 1)) : Snd (WW p l e R s m args below meth c cells slots Q nL D dA ad A) pc (o_l2i (pc + 1)) := by
  intro K hK lv st M h H locs ls hP hS hL
  unfold o_l2i at h
  split at h
  · exact lv_l2i C.1 C.2.1 hd rfl (hK _ _ _ _ h H locs ls hP hS hL)
  · exact h.elim
theorem s_if_eq (C : CX p s m args meth c cc nL own D dA ad A) {off : Int} {tgt : Nat} (hd : decode cc pc = .ok (.ifCond .eq off, 3)) (ht : (pc : Int) + off = (tgt : Int)) : Snd (WW p l e R s m args below meth c cells slots Q nL D dA ad A) pc (o_if (fun x => x = 0) tgt (pc + 3)) := by
  intro K hK lv st M h H locs ls hP hS hL
  unfold o_if at h
  split at h
  · exact lv_if_eq C.1 C.2.1 hd ht (fun z => hK _ _ _ _ (h.1 z) H locs ls hP hS hL) (fun z => hK _ _ _ _ (h.2 z) H locs ls hP hS hL)
  · exact h.elim
theorem s_if_ne (C : CX p s m args meth c cc nL own D dA ad A) {off : Int} {tgt : Nat} (hd : decode cc pc = .ok (.ifCond .ne off, 3)) (ht : (pc : Int) + off = (tgt : Int)) : Snd (WW p l e R s m args below meth c cells slots Q nL D dA ad A) pc (o_if (fun x => x = 0) (pc + 3) tgt) := by
  intro K hK lv st M h H locs ls hP hS hL
  unfold o_if at h
  split at h
  · exact lv_if_ne C.1 C.2.1 hd ht (fun z => hK _ _ _ _ (h.2 z) H locs ls hP hS hL) (fun z => hK _ _ _ _ (h.1 z) H locs ls hP hS hL)
  · exact h.elim
theorem s_if_lt (C : CX p s m args meth c cc nL own D dA ad A) {off : Int} {tgt : Nat} (hd : decode cc pc = .ok (.ifCond .lt off, 3)) (ht : (pc : Int) + off = (tgt : Int)) : Snd (WW p l e R s m args below meth c cells slots Q nL D dA ad A) pc (o_if (fun x => x < 0) tgt (pc + 3)) := by
  intro K hK lv st M h H locs ls hP hS hL
  unfold o_if at h
  split at h
  · exact lv_if_lt C.1 C.2.1 hd ht (fun z => hK _ _ _ _ (h.1 z) H locs ls hP hS hL) (fun z => hK _ _ _ _ (h.2 z) H locs ls hP hS hL)
  · exact h.elim
theorem s_if_ge (C : CX p s m args meth c cc nL own D dA ad A) {off : Int} {tgt : Nat} (hd : decode cc pc = .ok (.ifCond .ge off, 3)) (ht : (pc : Int) + off = (tgt : Int)) : Snd (WW p l e R s m args below meth c cells slots Q nL D dA ad A) pc (o_if (fun x => 0 ≤ x) tgt (pc + 3)) := by
  intro K hK lv st M h H locs ls hP hS hL
  unfold o_if at h
  split at h
  · exact lv_if_ge C.1 C.2.1 hd ht (fun z => hK _ _ _ _ (h.1 z) H locs ls hP hS hL) (fun z => hK _ _ _ _ (h.2 z) H locs ls hP hS hL)
  · exact h.elim
theorem s_if_gt (C : CX p s m args meth c cc nL own D dA ad A) {off : Int} {tgt : Nat} (hd : decode cc pc = .ok (.ifCond .gt off, 3)) (ht : (pc : Int) + off = (tgt : Int)) : Snd (WW p l e R s m args below meth c cells slots Q nL D dA ad A) pc (o_if (fun x => 0 < x) tgt (pc + 3)) := by
  intro K hK lv st M h H locs ls hP hS hL
  unfold o_if at h
  split at h
  · exact lv_if_gt C.1 C.2.1 hd ht (fun z => hK _ _ _ _ (h.1 z) H locs ls hP hS hL) (fun z => hK _ _ _ _ (h.2 z) H locs ls hP hS hL)
  · exact h.elim
theorem s_if_le (C : CX p s m args meth c cc nL own D dA ad A) {off : Int} {tgt : Nat} (hd : decode cc pc = .ok (.ifCond .le off, 3)) (ht : (pc : Int) + off = (tgt : Int)) : Snd (WW p l e R s m args below meth c cells slots Q nL D dA ad A) pc (o_if (fun x => x ≤ 0) tgt (pc + 3)) := by
  intro K hK lv st M h H locs ls hP hS hL
  unfold o_if at h
  split at h
  · exact lv_if_le C.1 C.2.1 hd ht (fun z => hK _ _ _ _ (h.1 z) H locs ls hP hS hL) (fun z => hK _ _ _ _ (h.2 z) H locs ls hP hS hL)
  · exact h.elim
theorem s_icmp_eq (C : CX p s m args meth c cc nL own D dA ad A) {off : Int} {tgt : Nat} (hd : decode cc pc = .ok (.if_icmp .eq off, 3)) (ht : (pc : Int) + off = (tgt : Int)) : Snd (WW p l e R s m args below meth c cells slots Q nL D dA ad A) pc (o_icmp (fun x y => x = y) tgt (pc + 3)) := by
  intro K hK lv st M h H locs ls hP hS hL
  unfold o_icmp at h
  split at h
  · exact lv_icmp_eq C.1 C.2.1 hd ht (fun z => hK _ _ _ _ (h.1 z) H locs ls hP hS hL) (fun z => hK _ _ _ _ (h.2 z) H locs ls hP hS hL)
  · exact h.elim
theorem s_icmp_ne (C : CX p s m args meth c cc nL own D dA ad A) {off : Int} {tgt : Nat} (hd : decode cc pc = .ok (.if_icmp .ne off, 3)) (ht : (pc : Int) + off = (tgt : Int)) : Snd (WW p l e R s m args below meth c cells slots Q nL D dA ad A) pc (o_icmp (fun x y => x = y) (pc + 3) tgt) := by
  intro K hK lv st M h H locs ls hP hS hL
  unfold o_icmp at h
  split at h
  · exact lv_icmp_ne C.1 C.2.1 hd ht (fun z => hK _ _ _ _ (h.2 z) H locs ls hP hS hL) (fun z => hK _ _ _ _ (h.1 z) H locs ls hP hS hL)
  · exact h.elim
theorem s_icmp_lt (C : CX p s m args meth c cc nL own D dA ad A) {off : Int} {tgt : Nat} (hd : decode cc pc = .ok (.if_icmp .lt off, 3)) (ht : (pc : Int) + off = (tgt : Int)) : Snd (WW p l e R s m args below meth c cells slots Q nL D dA ad A) pc (o_icmp (fun x y => x < y) tgt (pc + 3)) := by
  intro K hK lv st M h H locs ls hP hS hL
  unfold o_icmp at h
  split at h
  · exact lv_icmp_lt C.1 C.2.1 hd ht (fun z => hK _ _ _ _ (h.1 z) H locs ls hP hS hL) (fun z => hK _ _ _ _ (h.2 z) H locs ls hP hS hL)
  · exact h.elim
theorem s_icmp_ge (C : CX p s m args meth c cc nL own D dA ad A) {off : Int} {tgt : Nat} (hd : decode cc pc = .ok (.if_icmp .ge off, 3)) (ht : (pc : Int) + off = (tgt : Int)) : Snd (WW p l e R s m args below meth c cells slots Q nL D dA ad A) pc (o_icmp (fun x y => y ≤ x) tgt (pc + 3)) := by
  intro K hK lv st M h H locs ls hP hS hL
  unfold o_icmp at h
  split at h
  · exact lv_icmp_ge C.1 C.2.1 hd ht (fun z => hK _ _ _ _ (h.1 z) H locs ls hP hS hL) (fun z => hK _ _ _ _ (h.2 z) H locs ls hP hS hL)
  · exact h.elim
theorem s_icmp_gt (C : CX p s m args meth c cc nL own D dA ad A) {off : Int} {tgt : Nat} (hd : decode cc pc = .ok (.if_icmp .gt off, 3)) (ht : (pc : Int) + off = (tgt : Int)) : Snd (WW p l e R s m args below meth c cells slots Q nL D dA ad A) pc (o_icmp (fun x y => y < x) tgt (pc + 3)) := by
  intro K hK lv st M h H locs ls hP hS hL
  unfold o_icmp at h
  split at h
  · exact lv_icmp_gt C.1 C.2.1 hd ht (fun z => hK _ _ _ _ (h.1 z) H locs ls hP hS hL) (fun z => hK _ _ _ _ (h.2 z) H locs ls hP hS hL)
  · exact h.elim
theorem s_icmp_le (C : CX p s m args meth c cc nL own D dA ad A) {off : Int} {tgt : Nat} (hd : decode cc pc = .ok (.if_icmp .le off, 3)) (ht : (pc : Int) + off = (tgt : Int)) : Snd (WW p l e R s m args below meth c cells slots Q nL D dA ad A) pc (o_icmp (fun x y => x ≤ y) tgt (pc + 3)) := by
  intro K hK lv st M h H locs ls hP hS hL
  unfold o_icmp at h
  split at h
  · exact lv_icmp_le C.1 C.2.1 hd ht (fun z => hK _ _ _ _ (h.1 z) H locs ls hP hS hL) (fun z => hK _ _ _ _ (h.2 z) H locs ls hP hS hL)
  · exact h.elim
theorem s_goto (C : CX p s m args meth c cc nL own D dA ad A) {off : Int} {tgt : Nat} (hd : decode cc pc = .ok (.goto off, 3)) (ht : (pc : Int) + off = (tgt : Int)) : Snd (WW p l e R s m args below meth c cells slots Q nL D dA ad A) pc (o_goto tgt) :=
  fun _ hK _ _ _ h H locs ls hP hS hL => lv_goto C.1 C.2.1 hd ht (hK _ _ _ _ h H locs ls hP hS hL)
theorem s_dup (C : CX p s m args meth c cc nL own D dA ad A) (hd : decode cc pc = .ok (.dup, 1)) : Snd (WW p l e R s m args below meth c cells slots Q nL D dA ad A) pc (o_dup (pc + 1)) := by
  intro K hK lv st M h H locs ls hP hS hL
  unfold o_dup at h
  split at h
  · exact lv_dup C.1 C.2.1 hd rfl (hK _ _ _ _ h H locs ls hP hS hL)
  · rename_i k st'
    exact lv_dup C.1 C.2.1 hd (kv_cat ad (VR k)) (hK _ _ _ _ h H locs ls hP hS hL)
  · exact h.elim
theorem s_dup2 (C : CX p s m args meth c cc nL own D dA ad A) (hd : decode cc pc = .ok (.dup2, 1)) : Snd (WW p l e R s m args below meth c cells slots Q nL D dA ad A) pc (o_dup2 (pc + 1)) := by
  intro K hK lv st M h H locs ls hP hS hL
  unfold o_dup2 at h
  split at h
  · rename_i x k st'
    exact lv_dup2_11 C.1 C.2.1 hd rfl (kv_cat ad (VR k)) (hK _ _ _ _ h H locs ls hP hS hL)
  · exact h.elim
theorem s_pop (C : CX p s m args meth c cc nL own D dA ad A) (hd : decode cc pc = .ok (.pop, 1)) : Snd (WW p l e R s m args below meth c cells slots Q nL D dA ad A) pc (o_pop (pc + 1)) := by
  intro K hK lv st M h H locs ls hP hS hL
  unfold o_pop at h
  split at h
  · exact lv_pop C.1 C.2.1 hd rfl (hK _ _ _ _ h H locs ls hP hS hL)
  · exact h.elim
theorem ne120 {k : Nat} (h : k < 48) : k ≠ 120 := by omega
theorem s_getf (C : CX p s m args meth c cc nL own D dA ad A) {ci j idx N : Nat} {Cn : String} {T : u_T} (hc : vwCl[ci]? = some (Cn, T, N)) (hin : ∀ w ∈ u_ws Cn T N, w ∈ tb) (hj : j < N) (hw : Cond.fieldLink own idx (T j).1 (T j).2.1 (T j).2.2.1 ∈ tb) (hd : decode cc pc = .ok (.getfield idx, 3)) : Snd (WW p l e R s m args below meth c cells slots Q nL D dA ad A) pc (o_getf ci j (pc + 3)) := by
  intro K hK lv st M h H locs ls hP hS hL
  unfold o_getf at h
  split at h
  · rename_i k st'
    split at h
    · rename_i f hf
      obtain ⟨fs, hk, hs, hfj⟩ := fld_some hf
      show W p l e R s m args below meth c H locs cells slots Q (F0 m pc ls (kv ad (VR k) :: st'.map (kv ad)))
      rw [kv_ref (ne120 hk)]
      have he := wd_get (dA := dA) (ad := ad) (M := M) hk
      rw [hs] at he
      exact va_get C.1 C.2.1 C.2.2.2.2.1 hin C.2.2.2.1 C.2.2.2.2.2.1 hP k he hc j hj (C.2.2.2.2.1 _ hw) (fun _ h9 => h9) (v := kv ad (fav M f)) (by rw [List.getElem?_map, hfj]; rfl) hd (hK _ _ _ _ h H locs ls hP hS hL)
    · exact h.elim
  · exact h.elim
theorem s_put (C : CX p s m args meth c cc nL own D dA ad A) {ci j idx N : Nat} {Cn : String} {T : u_T} (ty0 : Nat → FieldType) (hty : ∀ k, k < N → parseFieldDescriptor (T k).2.2.1 = some (ty0 k)) (hnm : ∀ a, a < N → ∀ b, b < N → a ≠ b → (T a).2.1 ≠ (T b).2.1) (hc : vwCl[ci]? = some (Cn, T, N)) (hin : ∀ w ∈ u_ws Cn T N, w ∈ tb) (hj : j < N) (hfin : (T j).2.2.2 = false) (hw : Cond.fieldLink own idx (T j).1 (T j).2.1 (T j).2.2.1 ∈ tb) (hd : decode cc pc = .ok (.putfield idx, 3))
    {K : NX} (hK : ∀ pc lv st M, K pc lv st M → WW p l e R s m args below meth c cells slots Q nL D dA ad A pc lv st M) {lv : LV} {st' : List AV} {M M' : AM} {k : Nat} {f : FS} {v : Value} (hf : fld ci j k = some f) (hn : narrow (ty0 j) v = v) (hfit : fits (ty0 j) v = true) (hM : ∀ fs, k < 48 → sh k = .inl (ci, fs) → fs[j]? = some f → (wd dA ad M).set k (ad k, .inr (ci, (fs.map (fun f => kv ad (fav M f))).set j v)) = wd dA ad M') (h : K (pc + 3) lv st' M') {H : Heap} {locs : List Loc} {ls : Array Slot} (hP : va_P D vwCl (wd dA ad M) H) (hS : va_S A s.heap H locs) (hL : lv_has ls nL (lvl ad lv)) : W p l e R s m args below meth c H locs cells slots Q (F0 m pc ls (v :: kv ad (VR k) :: st'.map (kv ad))) := by
  obtain ⟨fs, hk, hs, hfj⟩ := fld_some hf
  rw [kv_ref (ne120 hk)]
  have he := wd_get (dA := dA) (ad := ad) (M := M) hk
  rw [hs] at he
  refine va_put C.1 C.2.1 C.2.2.2.2.1 hin ty0 hty hnm C.2.2.2.1 C.2.2.2.2.2.1 hP (wd_D C.2.2.2.2.2.2.1 M) hS k he hc j hj (C.2.2.2.2.1 _ hw) (fun _ h9 => h9) hfin (hty j hj) hn hfit (by rw [List.length_map]; exact (List.getElem?_eq_some_iff.mp hfj).1) hd (fun H1 locs1 hP1 _ hS1 => ?_)
  rw [hM fs hk hs hfj] at hP1
  exact hK _ _ _ _ h H1 locs1 ls hP1 hS1 hL
theorem s_putI (C : CX p s m args meth c cc nL own D dA ad A) {ci j idx N : Nat} {Cn : String} {T : u_T} (ty0 : Nat → FieldType) (hty : ∀ k, k < N → parseFieldDescriptor (T k).2.2.1 = some (ty0 k)) (hnm : ∀ a, a < N → ∀ b, b < N → a ≠ b → (T a).2.1 ≠ (T b).2.1) (hc : vwCl[ci]? = some (Cn, T, N)) (hin : ∀ w ∈ u_ws Cn T N, w ∈ tb) (hj : j < N) (hfin : (T j).2.2.2 = false) (ht : ty0 j = .int) (hw : Cond.fieldLink own idx (T j).1 (T j).2.1 (T j).2.2.1 ∈ tb) (hd : decode cc pc = .ok (.putfield idx, 3)) : Snd (WW p l e R s m args below meth c cells slots Q nL D dA ad A) pc (o_putI ci j (pc + 3)) := by
  intro K hK lv st M h H locs ls hP hS hL
  unfold o_putI at h
  split at h
  · rename_i x k st'
    split at h
    · rename_i i hf
      exact s_put C ty0 hty hnm hc hin hj hfin hw hd hK (v := .int x) hf (by rw [ht]; rfl) (by rw [ht]; rfl) (fun fs hk hs hfj => wd_I hk hs hfj) h hP hS hL
    · exact h.elim
  · exact h.elim
theorem s_putZ (C : CX p s m args meth c cc nL own D dA ad A) {ci j idx N : Nat} {Cn : String} {T : u_T} (ty0 : Nat → FieldType) (hty : ∀ k, k < N → parseFieldDescriptor (T k).2.2.1 = some (ty0 k)) (hnm : ∀ a, a < N → ∀ b, b < N → a ≠ b → (T a).2.1 ≠ (T b).2.1) (hc : vwCl[ci]? = some (Cn, T, N)) (hin : ∀ w ∈ u_ws Cn T N, w ∈ tb) (hj : j < N) (hfin : (T j).2.2.2 = false) (ht : ty0 j = .boolean) (hw : Cond.fieldLink own idx (T j).1 (T j).2.1 (T j).2.2.1 ∈ tb) (hd : decode cc pc = .ok (.putfield idx, 3)) : Snd (WW p l e R s m args below meth c cells slots Q nL D dA ad A) pc (o_putZ ci j (pc + 3)) := by
  intro K hK lv st M h H locs ls hP hS hL
  unfold o_putZ at h
  split at h
  · rename_i x k st'
    split at h
    · rename_i i hf
      refine s_put C ty0 hty hnm hc hin hj hfin hw hd hK (v := .int x) hf ?_ ?_ (fun fs hk hs hfj => wd_I hk hs hfj) h.2 hP hS hL
      · rw [ht]
        rcases h.1 with rfl | rfl <;> rfl
      · rw [ht]
        rcases h.1 with rfl | rfl <;> decide
    · exact h.elim
  · exact h.elim
theorem s_putL (C : CX p s m args meth c cc nL own D dA ad A) {ci j idx N : Nat} {Cn : String} {T : u_T} (ty0 : Nat → FieldType) (hty : ∀ k, k < N → parseFieldDescriptor (T k).2.2.1 = some (ty0 k)) (hnm : ∀ a, a < N → ∀ b, b < N → a ≠ b → (T a).2.1 ≠ (T b).2.1) (hc : vwCl[ci]? = some (Cn, T, N)) (hin : ∀ w ∈ u_ws Cn T N, w ∈ tb) (hj : j < N) (hfin : (T j).2.2.2 = false) (ht : ty0 j = .long) (hw : Cond.fieldLink own idx (T j).1 (T j).2.1 (T j).2.2.1 ∈ tb) (hd : decode cc pc = .ok (.putfield idx, 3)) : Snd (WW p l e R s m args below meth c cells slots Q nL D dA ad A) pc (o_putL ci j (pc + 3)) := by
  intro K hK lv st M h H locs ls hP hS hL
  unfold o_putL at h
  split at h
  · rename_i x k st'
    split at h
    · rename_i i hf
      exact s_put C ty0 hty hnm hc hin hj hfin hw hd hK (v := .long x) hf (by rw [ht]; rfl) (by rw [ht]; rfl) (fun fs hk hs hfj => wd_L hk hs hfj) h hP hS hL
    · exact h.elim
  · exact h.elim
theorem s_iald (C : CX p s m args meth c cc nL own D dA ad A) (hd : decode cc pc = .ok (.iaload, 1)) : Snd (WW p l e R s m args below meth c cells slots Q nL D dA ad A) pc (o_ald 0 (pc + 1)) := by
  intro K hK lv st M h H locs ls hP hS hL
  unfold o_ald at h
  split at h
  · rename_i i k st'
    split at h
    · rename_i z a hr
      obtain ⟨hk, hs, -, hz⟩ := row_some hr
      obtain ⟨j, hj, rfl, h⟩ := h
      have hz2 : z < 2 ^ 31 := by omega
      show W p l e R s m args below meth c H locs cells slots Q (F0 m pc ls (.int (nI j) :: kv ad (VR k) :: st'.map (kv ad)))
      rw [kv_ref (ne120 hk)]
      have he := wd_get (dA := dA) (ad := ad) (M := M) hk
      rw [hs] at he
      refine va_iald C.1 C.2.1 C.2.2.2.2.2.1 hP k 0 he rfl (vp_in_nI hj hz2) hd ?_
      rw [nI_clamp (by omega)]
      exact hK _ _ _ _ h H locs ls hP hS hL
    · exact h.elim
  · exact h.elim
theorem s_bald1 (C : CX p s m args meth c cc nL own D dA ad A) (hd : decode cc pc = .ok (.baload, 1)) : Snd (WW p l e R s m args below meth c cells slots Q nL D dA ad A) pc (o_ald 1 (pc + 1)) := by
  intro K hK lv st M h H locs ls hP hS hL
  unfold o_ald at h
  split at h
  · rename_i i k st'
    split at h
    · rename_i z a hr
      obtain ⟨hk, hs, -, hz⟩ := row_some hr
      obtain ⟨j, hj, rfl, h⟩ := h
      have hz2 : z < 2 ^ 31 := by omega
      show W p l e R s m args below meth c H locs cells slots Q (F0 m pc ls (.int (nI j) :: kv ad (VR k) :: st'.map (kv ad)))
      rw [kv_ref (ne120 hk)]
      have he := wd_get (dA := dA) (ad := ad) (M := M) hk
      rw [hs] at he
      refine va_bald C.1 C.2.1 C.2.2.2.2.2.1 hP k 1 he rfl (vp_in_nI hj hz2) hd ?_
      rw [nI_clamp (by omega)]
      exact hK _ _ _ _ h H locs ls hP hS hL
    · exact h.elim
  · exact h.elim
theorem s_bald2 (C : CX p s m args meth c cc nL own D dA ad A) (hd : decode cc pc = .ok (.baload, 1)) : Snd (WW p l e R s m args below meth c cells slots Q nL D dA ad A) pc (o_ald 2 (pc + 1)) := by
  intro K hK lv st M h H locs ls hP hS hL
  unfold o_ald at h
  split at h
  · rename_i i k st'
    split at h
    · rename_i z a hr
      obtain ⟨hk, hs, -, hz⟩ := row_some hr
      obtain ⟨j, hj, rfl, h⟩ := h
      have hz2 : z < 2 ^ 31 := by omega
      show W p l e R s m args below meth c H locs cells slots Q (F0 m pc ls (.int (nI j) :: kv ad (VR k) :: st'.map (kv ad)))
      rw [kv_ref (ne120 hk)]
      have he := wd_get (dA := dA) (ad := ad) (M := M) hk
      rw [hs] at he
      refine va_zald C.1 C.2.1 C.2.2.2.2.2.1 hP k 2 he rfl (vp_in_nI hj hz2) hd ?_
      rw [nI_clamp (by omega)]
      exact hK _ _ _ _ h H locs ls hP hS hL
    · exact h.elim
  · exact h.elim
theorem s_iast (C : CX p s m args meth c cc nL own D dA ad A) (hd : decode cc pc = .ok (.iastore, 1)) : Snd (WW p l e R s m args below meth c cells slots Q nL D dA ad A) pc (o_ast 0 (fun x => x) (pc + 1)) := by
  intro K hK lv st M h H locs ls hP hS hL
  unfold o_ast at h
  split at h
  · rename_i x i k st'
    split at h
    · rename_i z a hr
      obtain ⟨hk, hs, ho, hz⟩ := row_some hr
      obtain ⟨j, hj, rfl, h⟩ := h
      have hz2 : z < 2 ^ 31 := by omega
      show W p l e R s m args below meth c H locs cells slots Q (F0 m pc ls (.int x :: .int (nI j) :: kv ad (VR k) :: st'.map (kv ad)))
      rw [kv_ref (ne120 hk)]
      have he := wd_get (dA := dA) (ad := ad) (M := M) hk
      rw [hs] at he
      refine va_iast C.1 C.2.1 C.2.2.2.2.2.1 hP (wd_D C.2.2.2.2.2.2.1 M) hS k 0 he rfl (vp_in_nI hj hz2) hd (fun H1 locs1 hP1 _ hS1 => ?_)
      rw [nI_clamp (by omega)] at hP1
      rw [wd_A hk hs ho] at hP1
      exact hK _ _ _ _ h H1 locs1 ls hP1 hS1 hL
    · exact h.elim
  · exact h.elim
theorem s_bast1 (C : CX p s m args meth c cc nL own D dA ad A) (hd : decode cc pc = .ok (.bastore, 1)) : Snd (WW p l e R s m args below meth c cells slots Q nL D dA ad A) pc (o_ast 1 (vp_nar .byte) (pc + 1)) := by
  intro K hK lv st M h H locs ls hP hS hL
  unfold o_ast at h
  split at h
  · rename_i x i k st'
    split at h
    · rename_i z a hr
      obtain ⟨hk, hs, ho, hz⟩ := row_some hr
      obtain ⟨j, hj, rfl, h⟩ := h
      have hz2 : z < 2 ^ 31 := by omega
      show W p l e R s m args below meth c H locs cells slots Q (F0 m pc ls (.int x :: .int (nI j) :: kv ad (VR k) :: st'.map (kv ad)))
      rw [kv_ref (ne120 hk)]
      have he := wd_get (dA := dA) (ad := ad) (M := M) hk
      rw [hs] at he
      refine va_bast C.1 C.2.1 C.2.2.2.2.2.1 hP (wd_D C.2.2.2.2.2.2.1 M) hS k 1 he rfl (vp_in_nI hj hz2) hd (fun H1 locs1 hP1 _ hS1 => ?_)
      rw [nI_clamp (by omega)] at hP1
      rw [wd_A hk hs ho] at hP1
      exact hK _ _ _ _ h H1 locs1 ls hP1 hS1 hL
    · exact h.elim
  · exact h.elim
theorem s_bast2 (C : CX p s m args meth c cc nL own D dA ad A) (hd : decode cc pc = .ok (.bastore, 1)) : Snd (WW p l e R s m args below meth c cells slots Q nL D dA ad A) pc (o_ast 2 (vp_nar .boolean) (pc + 1)) := by
  intro K hK lv st M h H locs ls hP hS hL
  unfold o_ast at h
  split at h
  · rename_i x i k st'
    split at h
    · rename_i z a hr
      obtain ⟨hk, hs, ho, hz⟩ := row_some hr
      obtain ⟨j, hj, rfl, h⟩ := h
      have hz2 : z < 2 ^ 31 := by omega
      show W p l e R s m args below meth c H locs cells slots Q (F0 m pc ls (.int x :: .int (nI j) :: kv ad (VR k) :: st'.map (kv ad)))
      rw [kv_ref (ne120 hk)]
      have he := wd_get (dA := dA) (ad := ad) (M := M) hk
      rw [hs] at he
      refine va_zast C.1 C.2.1 C.2.2.2.2.2.1 hP (wd_D C.2.2.2.2.2.2.1 M) hS k 2 he rfl (vp_in_nI hj hz2) hd (fun H1 locs1 hP1 _ hS1 => ?_)
      rw [nI_clamp (by omega)] at hP1
      rw [wd_A hk hs ho] at hP1
      exact hK _ _ _ _ h H1 locs1 ls hP1 hS1 hL
    · exact h.elim
  · exact h.elim
theorem s_alen (C : CX p s m args meth c cc nL own D dA ad A) {t : Nat} {ty : FieldType} (ht : (tyA dA)[t]? = some (dA t, ty)) (hd : decode cc pc = .ok (.arraylength, 1)) : Snd (WW p l e R s m args below meth c cells slots Q nL D dA ad A) pc (o_alen t (pc + 1)) := by
  intro K hK lv st M h H locs ls hP hS hL
  unfold o_alen at h
  split at h
  · rename_i k st'
    split at h
    · rename_i z a hr
      obtain ⟨hk, hs, -, hz⟩ := row_some hr
      show W p l e R s m args below meth c H locs cells slots Q (F0 m pc ls (kv ad (VR k) :: st'.map (kv ad)))
      rw [kv_ref (ne120 hk)]
      have he := wd_get (dA := dA) (ad := ad) (M := M) hk
      rw [hs] at he
      exact va_alen C.1 C.2.1 C.2.2.2.2.2.1 hP k t he ht rfl hd (hK _ _ _ _ h H locs ls hP hS hL)
    · exact h.elim
  · exact h.elim
end STEPS
