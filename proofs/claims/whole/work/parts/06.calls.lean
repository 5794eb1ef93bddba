/-! Calls, switches, ends; a contract out of a walk. -/
theorem goodIn_tb {ws : List Cond} (h : ∀ w ∈ ws, w ∈ tb) : GoodIn tb ws := fun w hw => ⟨h w hw, good_of_word (List.all_eq_true.mp tb_good w (h w hw))⟩
theorem PW.blind {D : va_G} {dA : Nat → ClassId} {ad : Nat → Nat} {sz : Nat} {M : AM} {av : List Value} : FrameBlind (va_Pc av (PW D dA ad sz M)) := by
  intro a U g mk h
  obtain ⟨h0, h1, h2, h3, h4, h5⟩ := h
  exact ⟨h0, h1, h2, va_K.moved (u := U) (U := U.calling g mk a) (Vm.Alike.refl U.vm) h3, h4, EX.same (u := U) (U := U.calling g mk a) rfl h5⟩
theorem popn_some : ∀ (n : Nat) (as st : List AV) (q : List AV × List AV), popn n as st = some q → ∃ bs, bs.length = n ∧ q.1 = bs ++ as ∧ st = bs.reverse ++ q.2 := by
  intro n
  induction n with
  | zero => intro as st q h; cases h; exact ⟨[], rfl, rfl, rfl⟩
  | succ n ih =>
    intro as st q h
    cases st with
    | nil => cases h
    | cons v st =>
      obtain ⟨bs, h1, h2, h3⟩ := ih (v :: as) st q h
      refine ⟨bs ++ [v], by rw [List.length_append, h1]; rfl, by rw [h2, List.append_assoc]; rfl, ?_⟩
      rw [List.reverse_append, h3]
      rfl
section CALLS
variable {p : Program} {l : Launch} {e : Env} {R : Room} {s : State} {m : MethodId} {args : Array Value} {below : List Frame} {meth : Method} {c : Code} {cells slots : Nat} {Q : State → Prop} {nL : Nat} {D : va_G} {dA : Nat → ClassId} {ad : Nat → Nat} {A : Nat → Prop} {cc : ByteArray} {own : String} {pc : Nat} {H : Heap} {locs : List Loc}
theorem PW_call (C : CX p s m args meth c cc nL own D dA ad A) (hS : va_S A s.heap H locs) {M : AM} (hP : va_P D vwCl (wd dA ad M) H) {U : State} (hU : U.heap = H) (hW : s.WarmedH U.vm) : PW D dA ad H.size M U := by
  obtain ⟨-, -, -, -, -, hK, hA, hE, hN, -⟩ := C
  have hE1 := (hE.kept hS.2.1).warm hW
  refine ⟨by rw [hU], by rw [hU]; exact hP, va_K.moved hW.alike hK, hA.1, ?_⟩
  rw [hU]
  refine hE1.narrow fun q hq => ?_
  rcases hq with ⟨k, hk, rfl⟩ | hq
  · exact hA.2 k hk
  · exact hN q (Nat.le_trans hS.1 hq)
theorem AA_in (C : CX p s m args meth c cc nL own D dA ad A) (hS : va_S A s.heap H locs) : ∀ q, AA ad H.size q → A q := by
  obtain ⟨-, -, -, -, -, hK, hA, hE, hN, -⟩ := C
  intro q hq
  rcases hq with ⟨k, hk, rfl⟩ | hq
  · exact hA.2 k hk
  · exact hN q (Nat.le_trans hS.1 hq)
/-- behind a call -/
theorem run_back (C : CX p s m args meth c cc nL own D dA ad A) (hS : va_S A s.heap H locs) {post : PO} {a : Array Value} {ls : Array Slot} {st0 rest : List Value}
    (hr : va_Run p l e R s m args below meth c H locs cells slots 0 0 (F0 m pc ls st0) rest (CQ D dA ad post (AA ad H.size) a) (AA ad H.size))
    (kk : ∀ (r : Option AV) (M' : AM) (H1 : Heap) (locs1 : List Loc), post r M' → va_P D vwCl (wd dA ad M') H1 → va_S A s.heap H1 locs1 → W p l e R s m args below meth c H1 locs1 cells slots Q (F0 m (pc + 3) ls ((r.map (kv ad)).toList ++ rest))) : W p l e R s m args below meth c H locs cells slots Q (F0 m pc ls st0) := by
  have hAA := AA_in C hS
  intro T hT X
  obtain ⟨v, st₀, t, T', L, h0, X', hL, e1, e2, ⟨⟨r, M', hv, hp, hb⟩, hz, hk⟩, st⟩ := hr T hT X
  cases hv
  rw [h0] at hz hk
  obtain ⟨t2, a1, b1⟩ := kk r M' T'.heap (locs ++ L) hp (by rw [e1]; exact hb)
    ⟨Nat.le_trans hS.1 (by rw [e1]; exact hz), fun q h1 h2 => by rw [e1, hk q (Nat.lt_of_lt_of_le h1 hS.1) (fun z => h2 (hAA q z))]; exact hS.2.1 q h1 h2, fun q hq => by
      rcases List.mem_append.mp hq with h | h
      · exact hS.2.2 q h
      · exact hAA _ (hL q h)⟩ T' rfl X'
  exact ⟨t2, st t2 a1, b1⟩
theorem rst_map {r : Option AV} {st : List AV} : (rst r st).map (kv ad) = (r.map (kv ad)).toList ++ st.map (kv ad) := by
  cases r <;> rfl
theorem s_callV (C : CX p s m args meth c cc nL own D dA ad A) {y : MethodName} {cy : ByteArray} {mL n idx ci N : Nat} {T : u_T} {ret : Option FieldType} {rm : Room} {S : SP} (hM : Ctr y cy mL ret rm S) (hc : vwCl[ci]? = some (y.cls, T, N))
    (hws : ∀ w ∈ ([.methodLink own idx y, .instanceMethod y, .selects y.cls y y, .initialized y.cls, .code y cy mL ret] : List Cond), w ∈ tb) (hrm : rm.cells = 0 ∧ rm.slots = 0)
    (hd0 : y.cls ≠ "java/lang/invoke/MethodHandle" ∧ y.cls ≠ "java/lang/invoke/VarHandle" ∧ (parseMethodDescriptor y.desc).map (fun d => d.parameters.length) = some n) (hR : rm.frames + 1 ≤ R.frames ∧ 8 + (mL + 11) + rm.locals ≤ R.locals) (hcs : cells ≤ R.cells ∧ slots ≤ R.slots)
    (hd : decode cc pc = .ok (.invokevirtual idx, 3)) : Snd (WW p l e R s m args below meth c cells slots Q nL D dA ad A) pc (o_callV ci S n (pc + 3)) := by
  intro K hK lv st M h H locs ls hP hS hL
  unfold o_callV at h
  split at h
  · rename_i as b st' hp
    split at h
    · rename_i o ho
      split at h
      case h_2 => exact h.elim
      rename_i hc1
      split at h
      case h_2 => exact h.elim
      rename_i hc2
      · have h : S (VR b :: as) M (kont K (pc + 3) lv st') := h
        have hci : o.1 = ci := Nat.eq_of_beq_eq_true hc1
        have hcond : True ∧ Nat.ble (wsum st') 8 = true := ⟨trivial, hc2⟩
        have hb : b < 48 := by
          rcases Nat.lt_or_ge b 48 with q | q
          · exact q
          · rw [sh_big q] at ho
            cases ho
            have := (List.getElem?_eq_some_iff.mp hc).1
            simp only [vwCl, List.length_cons, List.length_nil] at this
            omega
        obtain ⟨bs, h1, h2, h3⟩ := popn_some n [] st (as, .inr (.inr b) :: st') hp
        rw [List.append_nil] at h2
        have h2 : as = bs := h2
        subst h2
        subst h3
        have hM1 := hM l D dA ad H.size (VR b :: as) M _ h
        have hmap : (VR b :: as).map (kv ad) = .ref (ad b) :: as.map (kv ad) := by rw [List.map_cons, kv_ref (ne120 hb)]
        rw [hmap] at hM1
        have he := wd_get (dA := dA) (ad := ad) (M := M) hb
        rw [ho] at he
        have hst : (as.reverse ++ (VR b :: st')).map (kv ad) = (as.map (kv ad)).reverse ++ .ref (ad b) :: st'.map (kv ad) := by
          rw [List.map_append, List.map_cons, kv_ref (ne120 hb), List.map_reverse]
        show W p l e R s m args below meth c H locs cells slots Q (F0 m pc ls ((as.reverse ++ (VR b :: st')).map (kv ad)))
        rw [hst]
        refine run_back C hS (va_runV (Ts := tb) (own := own) (C := y.cls) (b := ad b) (As := as.map (kv ad)) (rest := st'.map (kv ad)) ⟨C.1, C.2.1, C.2.2.1, C.2.2.2.1, C.2.2.2.2.1⟩ hM1 (cwV n C.2.2.2.2.1 (goodIn_tb ?_) rfl hrm.1 hrm.2 ⟨rfl, hd0⟩ hR) ⟨PW.blind, ?_, fun U hU hW => ⟨rfl, PW_call C hS hP hU hW⟩⟩ rfl (by rw [List.length_map, h1]) hL.1 rfl ?_ hd ⟨hcs.1, hcs.2⟩) (fun r M' H1 locs1 hp1 hP1 hS1 => ?_)
        · intro w hw
          simp only [wsV, List.mem_append, List.mem_cons, List.not_mem_nil, or_false] at hw
          rcases hw with (rfl | rfl | rfl | rfl) | rfl | hw
          · exact hws _ (by simp)
          · exact hws _ (by simp)
          · exact hws _ (by simp)
          · exact hws _ (by simp)
          · exact hws _ (by simp)
          · exact hw
        · exact va_recv C.2.2.2.2.2.1 hP hc (by rw [he]; show some (ad b, (Sum.inr (o.1, _) : va_E)) = _; rw [hci])
        · exact lv_room (rest := (as.map (kv ad)).reverse ++ .ref (ad b) :: st'.map (kv ad)) (by rw [ws_sum]; exact Nat.le_of_ble_eq_true hcond.2)
        · rw [← rst_map]
          exact hK _ _ _ _ hp1 H1 locs1 ls hP1 hS1 hL
    · exact h.elim
  · exact h.elim
theorem s_callT (C : CX p s m args meth c cc nL own D dA ad A) {y : MethodName} {cy : ByteArray} {mL n idx : Nat} {ret : Option FieldType} {rm : Room} {S : SP} (hM : Ctr y cy mL ret rm S) (hcl : y.cls = RJ0)
    (hws : ∀ w ∈ ([.methodLink own idx y, .instanceMethod y, .selects y.cls y y, .initialized y.cls, .code y cy mL ret] : List Cond), w ∈ tb) (hrm : rm.cells = 0 ∧ rm.slots = 0)
    (hd0 : y.cls ≠ "java/lang/invoke/MethodHandle" ∧ y.cls ≠ "java/lang/invoke/VarHandle" ∧ (parseMethodDescriptor y.desc).map (fun d => d.parameters.length) = some n) (hR : rm.frames + 1 ≤ R.frames ∧ 8 + (mL + 11) + rm.locals ≤ R.locals) (hcs : cells ≤ R.cells ∧ slots ≤ R.slots)
    (hd : decode cc pc = .ok (.invokevirtual idx, 3)) : Snd (WW p l e R s m args below meth c cells slots Q nL D dA ad A) pc (o_callT S n (pc + 3)) := by
  intro K hK lv st M h H locs ls hP hS hL
  unfold o_callT at h
  split at h
  · rename_i as b st' hp
    split at h
    case h_2 => exact h.elim
    rename_i hc1
    split at h
    case h_2 => exact h.elim
    rename_i hc2
    split at h
    case h_2 => exact h.elim
    rename_i hc3
    · have h : S (VR b :: as) M (kont K (pc + 3) lv st') := h
      have hcond : (Nat.ble 100 b = true ∧ Nat.ble b 103 = true) ∧ Nat.ble (wsum st') 8 = true := ⟨⟨hc1, hc2⟩, hc3⟩
      have hb1 := Nat.le_of_ble_eq_true hcond.1.1
      have hb2 := Nat.le_of_ble_eq_true hcond.1.2
      have hb : b ≠ 120 := by omega
      obtain ⟨i, rfl⟩ : ∃ i, b = 100 + i := ⟨b - 100, by omega⟩
      obtain ⟨bs, h1, h2, h3⟩ := popn_some n [] st (as, .inr (.inr (100 + i)) :: st') hp
      rw [List.append_nil] at h2
      have h2 : as = bs := h2
      subst h2
      subst h3
      have hM1 := hM l D dA ad H.size (VR (100 + i) :: as) M _ h
      have hmap : (VR (100 + i) :: as).map (kv ad) = .ref (ad (100 + i)) :: as.map (kv ad) := by rw [List.map_cons, kv_ref hb]
      rw [hmap] at hM1
      have hst : (as.reverse ++ (VR (100 + i) :: st')).map (kv ad) = (as.map (kv ad)).reverse ++ .ref (ad (100 + i)) :: st'.map (kv ad) := by
        rw [List.map_append, List.map_cons, kv_ref hb, List.map_reverse]
      show W p l e R s m args below meth c H locs cells slots Q (F0 m pc ls ((as.reverse ++ (VR (100 + i) :: st')).map (kv ad)))
      rw [hst]
      refine run_back C hS (va_runV (Ts := tb) (own := own) (C := y.cls) (b := ad (100 + i)) (As := as.map (kv ad)) (rest := st'.map (kv ad)) ⟨C.1, C.2.1, C.2.2.1, C.2.2.2.1, C.2.2.2.2.1⟩ hM1 (cwV n C.2.2.2.2.1 (goodIn_tb ?_) rfl hrm.1 hrm.2 ⟨rfl, hd0⟩ hR) ⟨PW.blind, ?_, fun U hU hW => ⟨rfl, PW_call C hS hP hU hW⟩⟩ rfl (by rw [List.length_map, h1]) hL.1 rfl ?_ hd ⟨hcs.1, hcs.2⟩) (fun r M' H1 locs1 hp1 hP1 hS1 => ?_)
      · intro w hw
        simp only [wsV, List.mem_append, List.mem_cons, List.not_mem_nil, or_false] at hw
        rcases hw with (rfl | rfl | rfl | rfl) | rfl | hw
        · exact hws _ (by simp)
        · exact hws _ (by simp)
        · exact hws _ (by simp)
        · exact hws _ (by simp)
        · exact hws _ (by simp)
        · exact hw
      · rw [hcl]
        exact vk_recv (i := i) C.2.2.2.2.2.2.2.1.1 (by omega) hS
      · exact lv_room (rest := (as.map (kv ad)).reverse ++ .ref (ad (100 + i)) :: st'.map (kv ad)) (by rw [ws_sum]; exact Nat.le_of_ble_eq_true hcond.2)
      · rw [← rst_map]
        exact hK _ _ _ _ hp1 H1 locs1 ls hP1 hS1 hL
  · exact h.elim
theorem s_callS (C : CX p s m args meth c cc nL own D dA ad A) {y : MethodName} {cy : ByteArray} {mL n idx : Nat} {ret : Option FieldType} {rm : Room} {S : SP} (hM : Ctr y cy mL ret rm S)
    (hws : ∀ w ∈ ([.methodLink own idx y, .static y, .initialized y.cls, .code y cy mL ret] : List Cond), w ∈ tb) (hrm : rm.cells = 0 ∧ rm.slots = 0)
    (hd0 : y.cls ≠ "java/lang/invoke/MethodHandle" ∧ y.cls ≠ "java/lang/invoke/VarHandle" ∧ (parseMethodDescriptor y.desc).map (fun d => d.parameters.length) = some n) (hR : rm.frames + 1 ≤ R.frames ∧ 8 + (mL + 11) + rm.locals ≤ R.locals) (hcs : cells ≤ R.cells ∧ slots ≤ R.slots)
    (hd : decode cc pc = .ok (.invokestatic idx, 3)) : Snd (WW p l e R s m args below meth c cells slots Q nL D dA ad A) pc (o_callS S n (pc + 3)) := by
  intro K hK lv st M h H locs ls hP hS hL
  unfold o_callS at h
  split at h
  · rename_i as st' hp
    split at h
    case h_2 => exact h.elim
    rename_i hcond
    · have h : S as M (kont K (pc + 3) lv st') := h
      obtain ⟨bs, h1, h2, h3⟩ := popn_some n [] st (as, st') hp
      rw [List.append_nil] at h2
      have h2 : as = bs := h2
      subst h2
      subst h3
      have hM1 := hM l D dA ad H.size as M _ h
      have hst : (as.reverse ++ st').map (kv ad) = (as.map (kv ad)).reverse ++ st'.map (kv ad) := by
        rw [List.map_append, List.map_reverse]
      show W p l e R s m args below meth c H locs cells slots Q (F0 m pc ls ((as.reverse ++ st').map (kv ad)))
      rw [hst]
      refine run_back C hS (va_runS (Ts := tb) (own := own) (As := as.map (kv ad)) (rest := st'.map (kv ad)) ⟨C.1, C.2.1, C.2.2.1, C.2.2.2.1, C.2.2.2.2.1⟩ hM1 (va_cwS n C.2.2.2.2.1 (goodIn_tb ?_) rfl hrm.1 hrm.2 hd0 hR) ⟨PW.blind, fun U hU hW => ⟨rfl, PW_call C hS hP hU hW⟩⟩ rfl (by rw [List.length_map, h1]) hL.1 rfl ?_ hd ⟨hcs.1, hcs.2⟩) (fun r M' H1 locs1 hp1 hP1 hS1 => ?_)
      · intro w hw
        simp only [va_wsS, List.mem_append, List.mem_cons, List.not_mem_nil, or_false] at hw
        rcases hw with (rfl | rfl | rfl) | rfl | hw
        · exact hws _ (by simp)
        · exact hws _ (by simp)
        · exact hws _ (by simp)
        · exact hws _ (by simp)
        · exact hw
      · exact lv_room (rest := (as.map (kv ad)).reverse ++ st'.map (kv ad)) (by rw [ws_sum]; exact Nat.le_of_ble_eq_true hcond)
      · rw [← rst_map]
        exact hK _ _ _ _ hp1 H1 locs1 ls hP1 hS1 hL
  · exact h.elim
/-! switches -/
theorem swx_at {K : NX} {lv : LV} {st : List AV} {M : AM} {d : Nat} {x : Int32} : ∀ {ts : List (Int32 × Nat)}, swx K lv st M d x ts → (∃ q ∈ ts, x = q.1 ∧ K q.2 lv st M) ∨ ((∀ q ∈ ts, ¬ x = q.1) ∧ K d lv st M) := by
  intro ts
  induction ts with
  | nil => intro h; exact Or.inr ⟨fun q hq => (by cases hq), h⟩
  | cons q l ih =>
    intro h
    by_cases hx : x = q.1
    · exact Or.inl ⟨q, List.mem_cons_self, hx, h.1 hx⟩
    · rcases ih (h.2 hx) with ⟨z, h1, h2⟩ | ⟨h1, h2⟩
      · exact Or.inl ⟨z, List.mem_cons_of_mem _ h1, h2⟩
      · exact Or.inr ⟨fun z hz => by
          rcases List.mem_cons.mp hz with rfl | hz
          · exact hx
          · exact h1 z hz, h2⟩
/-- the table's rows, number by number -/
def swOk (pc : Nat) (lo : Int) (offs : Array Int) : Nat → List (Int32 × Nat) → Bool
  | i, [] => i == offs.size
  | i, q :: l => q.1 == Int32.ofInt (lo + i) && (q.1.toInt == lo + i && ((offs[i]?).map (fun o => (pc : Int) + o) == some (q.2 : Int) && swOk pc lo offs (i + 1) l))
theorem swOk_at {pc : Nat} {lo : Int} {offs : Array Int} : ∀ {ts : List (Int32 × Nat)} {i : Nat}, swOk pc lo offs i ts = true → (∀ q ∈ ts, ∃ j, i ≤ j ∧ q.1.toInt = lo + j ∧ (offs[j]?).map (fun o => (pc : Int) + o) = some (q.2 : Int)) ∧ ∀ j, i ≤ j → j < offs.size → ∃ q ∈ ts, q.1.toInt = lo + j := by
  intro ts
  induction ts with
  | nil =>
    intro i h
    have h : i = offs.size := eq_of_beq h
    exact ⟨fun q hq => (by cases hq), fun j h1 h2 => by omega⟩
  | cons q l ih =>
    intro i h
    rw [swOk, Bool.and_eq_true, Bool.and_eq_true, Bool.and_eq_true] at h
    obtain ⟨h1, h2, h3, h4⟩ := h
    obtain ⟨i1, i2⟩ := ih h4
    refine ⟨fun z hz => ?_, fun j hj hs => ?_⟩
    · rcases List.mem_cons.mp hz with rfl | hz
      · exact ⟨i, Nat.le_refl _, eq_of_beq h2, eq_of_beq h3⟩
      · obtain ⟨j, g1, g2⟩ := i1 z hz
        exact ⟨j, by omega, g2⟩
    · rcases Nat.eq_or_lt_of_le hj with rfl | hj
      · exact ⟨q, List.mem_cons_self, eq_of_beq h2⟩
      · obtain ⟨z, g1, g2⟩ := i2 j hj hs
        exact ⟨z, List.mem_cons_of_mem _ g1, g2⟩
theorem s_sw (C : CX p s m args meth c cc nL own D dA ad A) {dflt lo hi : Int} {offs : Array Int} {len d : Nat} {ts : List (Int32 × Nat)} (hd : decode cc pc = .ok (.tableswitch dflt lo hi offs, len)) (hdd : (pc : Int) + dflt = (d : Int)) (hok : swOk pc lo offs 0 ts = true) (hhi : hi = lo + offs.size - 1) : Snd (WW p l e R s m args below meth c cells slots Q nL D dA ad A) pc (o_sw ts d) := by
  intro K hK lv st M h H locs ls hP hS hL
  unfold o_sw at h
  split at h
  · rename_i x st'
    obtain ⟨k1, k2⟩ := swOk_at hok
    rcases swx_at h with ⟨q, hq, rfl, hk⟩ | ⟨hn, hk⟩
    · obtain ⟨j, -, hj, ho⟩ := k1 q hq
      cases hoj : offs[j]? with
      | none => rw [hoj] at ho; cases ho
      | some off =>
        rw [hoj] at ho
        have ht : (pc : Int) + off = (q.2 : Int) := Option.some.inj ho
        have hjs := (Array.getElem?_eq_some_iff.mp hoj).1
        exact lv_tableIn C.1 C.2.1 hd (by omega) (by omega) (by rw [show (q.1.toInt - lo).toNat = j by omega]; exact hoj) ht (hK _ _ _ _ hk H locs ls hP hS hL)
    · refine lv_tableOut C.1 C.2.1 hd ?_ hdd (hK _ _ _ _ hk H locs ls hP hS hL)
      rcases Int.lt_or_le x.toInt lo with g | g
      · exact Or.inl g
      · rcases Int.lt_or_le hi x.toInt with g2 | g2
        · exact Or.inr g2
        · exfalso
          obtain ⟨q, hq, hqx⟩ := k2 (x.toInt - lo).toNat (Nat.zero_le _) (by omega)
          refine hn q hq (Int32.toInt_inj.mp ?_)
          rw [hqx]; omega
  · exact h.elim
/-! ends -/
theorem s_iret {post : PO} (C : CX p s m args meth c cc nL own D dA ad (AA ad s.heap.size)) (hr : meth.sig.returnType = some .int) (hd : decode cc pc = .ok (.ireturn, 1)) : Snd (WW p l e R s m args below meth c 0 0 (MQ below (CQ D dA ad post (AA ad s.heap.size)) args s 0 0 (AA ad s.heap.size)) nL D dA ad (AA ad s.heap.size)) pc (o_iret post) := by
  intro K hK lv st M h H locs ls hP hS hL
  unfold o_iret at h
  split at h
  · rename_i x
    exact W.iret C.1 C.2.1 hr (fun t ht hW => ⟨⟨some (VI x), M, rfl, h, by rw [ht]; exact hP⟩, hS.F ht⟩) hS.2.2 hd C.2.2.2.2.2.2.2.2.2
  · exact h.elim
theorem s_zret {post : PO} {ty : FieldType} (C : CX p s m args meth c cc nL own D dA ad (AA ad s.heap.size)) (hr : meth.sig.returnType = some ty) (hty : narrow ty (.int 0) = .int 0 ∧ narrow ty (.int 1) = .int 1) (hd : decode cc pc = .ok (.ireturn, 1)) : Snd (WW p l e R s m args below meth c 0 0 (MQ below (CQ D dA ad post (AA ad s.heap.size)) args s 0 0 (AA ad s.heap.size)) nL D dA ad (AA ad s.heap.size)) pc (o_zret post) := by
  intro K hK lv st M h H locs ls hP hS hL
  unfold o_zret at h
  split at h
  · rename_i x
    exact W.zret C.1 C.2.1 hr (by rcases h.1 with rfl | rfl; exact hty.1; exact hty.2) (fun t ht hW => ⟨⟨some (VI x), M, rfl, h.2, by rw [ht]; exact hP⟩, hS.F ht⟩) hS.2.2 hd C.2.2.2.2.2.2.2.2.2
  · exact h.elim
/-- a char's end -/
def o_cret (post : PO) : OP := fun _ _ st M => match st with
  | [.inl x] => (∃ n : Nat, n < 65536 ∧ x = nI n) ∧ post (some (VI x)) M
  | _ => False
theorem s_cret {post : PO} (C : CX p s m args meth c cc nL own D dA ad (AA ad s.heap.size)) (hr : meth.sig.returnType = some .char) (hd : decode cc pc = .ok (.ireturn, 1)) : Snd (WW p l e R s m args below meth c 0 0 (MQ below (CQ D dA ad post (AA ad s.heap.size)) args s 0 0 (AA ad s.heap.size)) nL D dA ad (AA ad s.heap.size)) pc (o_cret post) := by
  intro K hK lv st M h H locs ls hP hS hL
  unfold o_cret at h
  split at h
  · rename_i x
    obtain ⟨⟨n, hn, rfl⟩, h⟩ := h
    exact W.zret C.1 C.2.1 hr (pk_charN hn).1 (fun t ht hW => ⟨⟨some (VI (nI n)), M, rfl, h, by rw [ht]; exact hP⟩, hS.F ht⟩) hS.2.2 hd C.2.2.2.2.2.2.2.2.2
  · exact h.elim
theorem s_ret {post : PO} (C : CX p s m args meth c cc nL own D dA ad (AA ad s.heap.size)) (hr : meth.sig.returnType = none) (hd : decode cc pc = .ok (.return_, 1)) : Snd (WW p l e R s m args below meth c 0 0 (MQ below (CQ D dA ad post (AA ad s.heap.size)) args s 0 0 (AA ad s.heap.size)) nL D dA ad (AA ad s.heap.size)) pc (o_ret post) := by
  intro K hK lv st M h H locs ls hP hS hL
  unfold o_ret at h
  split at h
  · exact W.vret C.1 C.2.1 hr (fun t ht hW => ⟨⟨none, M, rfl, h, by rw [ht]; exact hP⟩, hS.F ht⟩) hS.2.2 hd C.2.2.2.2.2.2.2.2.2
  · exact h.elim
theorem s_lret {post : PO} (C : CX p s m args meth c cc nL own D dA ad (AA ad s.heap.size)) (hr : meth.sig.returnType = some .long) (hd : decode cc pc = .ok (.lreturn, 1)) : Snd (WW p l e R s m args below meth c 0 0 (MQ below (CQ D dA ad post (AA ad s.heap.size)) args s 0 0 (AA ad s.heap.size)) nL D dA ad (AA ad s.heap.size)) pc (o_lret post) := by
  intro K hK lv st M h H locs ls hP hS hL
  unfold o_lret at h
  split at h
  · rename_i x
    exact W.lret C.1 C.2.1 hr (fun t ht hW => ⟨⟨some (VL x), M, rfl, h, by rw [ht]; exact hP⟩, hS.F ht⟩) hS.2.2 hd C.2.2.2.2.2.2.2.2.2
  · exact h.elim
theorem s_aret {post : PO} {rt : FieldType} (C : CX p s m args meth c cc nL own D dA ad (AA ad s.heap.size)) (hr : meth.sig.returnType = some rt) (hrt : ∃ n, rt = .object n) (hd : decode cc pc = .ok (.areturn, 1)) : Snd (WW p l e R s m args below meth c 0 0 (MQ below (CQ D dA ad post (AA ad s.heap.size)) args s 0 0 (AA ad s.heap.size)) nL D dA ad (AA ad s.heap.size)) pc (o_aret post) := by
  intro K hK lv st M h H locs ls hP hS hL
  unfold o_aret at h
  split at h
  · rename_i k
    cases hk : Nat.beq k 120 with
    | true => rw [hk] at h; exact h.elim
    | false =>
      rw [hk] at h
      have hne : k ≠ 120 := fun z => by rw [z] at hk; cases hk
      have h : post (some (VR k)) M := h
      show W p l e R s m args below meth c H locs 0 0 _ (F0 m pc ls [kv ad (VR k)])
      exact W.aret C.1 C.2.1 hr (Or.inl hrt) (Or.inr ⟨ad k, kv_ref hne⟩) (fun t ht hW => ⟨⟨some (VR k), M, rfl, h, by rw [ht]; exact hP⟩, hS.F ht⟩) hS.2.2 hd C.2.2.2.2.2.2.2.2.2
  · exact h.elim
end CALLS
/-- a contract out of a walk -/
theorem ctr_of {y : MethodName} {cy : ByteArray} {mL : Nat} {ret : Option FieldType} {rm : Room} {S : SP} {T : PO → List (Nat × OP)} (hy : plainName y.cls = true)
    (body : ∀ {p : Program} {l : Launch} {e : Env} {s : State} {m : MethodId} {args : Array Value} {below : List Frame} {meth : Method} {c : Code} {D : va_G} {dA : Nat → ClassId} {ad : Nat → Nat} (post : PO), CX p s m args meth c cy mL y.cls D dA ad (AA ad s.heap.size) → meth.sig.returnType = ret → SndL (WW p l e rm s m args below meth c 0 0 (MQ below (CQ D dA ad post (AA ad s.heap.size)) args s 0 0 (AA ad s.heap.size)) mL D dA ad (AA ad s.heap.size)) (T post))
    (hrun : ∀ as M post, S as M post → wsum as ≤ mL ∧ RUN (T post) 0 (entL mL as) [] M) : Ctr y cy mL ret rm S := by
  intro l D dA ad sz as M post hS0
  obtain ⟨hwl, hrun⟩ := hrun as M post hS0
  refine Met.ofW (cc := cy) (maxL := mL) (ret := ret) hy rfl ?_
  intro p e s m args below meth c s₁ B hml hv
  obtain ⟨rfl, hsz, hP, hK, hap, hE⟩ := hv
  subst hsz
  have hts := atoms_spec (ws := .code y cy mL ret :: tb) B.pre
  have hts2 : ∀ w ∈ tb, w.before (as.map (kv ad)).toArray s = true := fun w h => hts w (List.mem_cons_of_mem _ h)
  have hown : s.vm.findClass y.cls = some m.cls := findClass_of_methodNamed B.named
  have C : CX p s m (as.map (kv ad)).toArray meth c cy mL y.cls D dA ad (AA ad s.heap.size) := ⟨B.exec, B.bytes, hml, hown, hts2, hK, ⟨hap, fun k hk => Or.inl ⟨k, hk, rfl⟩⟩, hE, fun q h => Or.inr h, B.notSynchronized⟩
  have hr := B.returns
  have h1 := hrun _ (body (l := l) (e := e) (below := below) post C hr) ww_wk
  rw [lg_entry_eq]
  have hl := lv_entry (as.map (kv ad)) (n := mL) (by rw [sl_len]; exact hwl)
  generalize (lg_sl (as.map (kv ad)) ++ List.replicate (mL - (lg_sl (as.map (kv ad))).length) Slot.unset).toArray = ls at hl ⊢
  refine h1 s.heap [] ls hP va_S.rf (lv_of hl fun i a hg => ?_)
  have := lg_ent (ad := ad) as mL 0 i a hg
  rw [Nat.zero_add] at this
  exact this
