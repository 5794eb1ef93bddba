/-! The small machine is the machine's: every instruction's step, a call, a method's contract. -/
def kv (ad : Nat → Nat) : AV → Value
  | .inl x => .int x
  | .inr (.inl x) => .long x
  | .inr (.inr k) => bif k == 120 then (bif ad 121 == 0 then .null else .ref (ad 120)) else .ref (ad k)
theorem kv_ref {ad : Nat → Nat} {k : Nat} (h : k ≠ 120) : kv ad (VR k) = .ref (ad k) := by
  have e : (k == 120) = false := by simpa using h
  show (bif k == 120 then _ else _) = _
  rw [e]; rfl
theorem kv_cat (ad : Nat → Nat) (v : AV) : (kv ad v).category = match v with
  | .inr (.inl _) => 2
  | _ => 1 := by
  rcases v with x | x | k
  · rfl
  · rfl
  · show (bif k == 120 then (bif ad 121 == 0 then Value.null else .ref (ad 120)) else .ref (ad k)).category = 1
    cases k == 120 <;> cases ad 121 == 0 <;> rfl
def lvl (ad : Nat → Nat) (lv : LV) : List (Nat × Value) := (List.range lv.length).filterMap (fun i => (lg lv i).map (fun a => (i, kv ad a)))
theorem lg_lt {lv : LV} : ∀ {i : Nat} {a : AV}, lg lv i = some a → i < lv.length := by
  induction lv with
  | nil => intro i a h; cases h
  | cons w l ih =>
    intro i a h
    cases i with
    | zero => exact Nat.zero_lt_succ _
    | succ i => exact Nat.succ_lt_succ (ih h)
theorem lvl_mem {ad : Nat → Nat} {lv : LV} {q : Nat × Value} : q ∈ lvl ad lv ↔ ∃ i a, lg lv i = some a ∧ q = (i, kv ad a) := by
  unfold lvl
  rw [List.mem_filterMap]
  constructor
  · rintro ⟨i, -, h⟩
    cases hg : lg lv i with
    | none => rw [hg] at h; cases h
    | some a => rw [hg] at h; exact ⟨i, a, hg, (Option.some.inj h).symm⟩
  · rintro ⟨i, a, hg, rfl⟩
    exact ⟨i, List.mem_range.mpr (lg_lt hg), by rw [hg]; rfl⟩
theorem lv_known {ls : Array Slot} {nL : Nat} {ad : Nat → Nat} {lv : LV} (h : lv_has ls nL (lvl ad lv)) {i : Nat} {a : AV} (hg : lg lv i = some a) : ls[i]? = some (.val (kv ad a)) := h.2.2 (i, kv ad a) (lvl_mem.mpr ⟨i, a, hg, rfl⟩)
theorem lv_of {ls : Array Slot} {nL : Nat} {ad : Nat → Nat} {l : List (Nat × Value)} {lv : LV} (h : lv_has ls nL l) (hs : ∀ i a, lg lv i = some a → (i, kv ad a) ∈ l) : lv_has ls nL (lvl ad lv) := by
  refine ⟨h.1, h.2.1, fun q hq => ?_⟩
  obtain ⟨i, a, hg, rfl⟩ := lvl_mem.mp hq
  exact h.2.2 _ (hs i a hg)
theorem lg_lput {v : AV} : ∀ {lv : LV} {i j : Nat} {a : AV}, lg (lput lv i v) j = some a → (j = i ∧ a = v) ∨ (j ≠ i ∧ lg lv j = some a ∧ ¬ (j + 1 = i ∧ isL (some a) = true)) := by
  intro lv
  induction lv with
  | nil => intro i j a h; rw [lput] at h; cases h
  | cons w l ih =>
    intro i j a h
    match i, j with
    | 0, 0 => exact Or.inl ⟨rfl, (Option.some.inj h).symm⟩
    | 0, j + 1 => exact Or.inr ⟨Nat.succ_ne_zero j, h, fun z => by omega⟩
    | 1, 0 =>
      rw [lput] at h
      have h : (match isL w with | true => none | false => w) = some a := h
      cases hw : isL w with
      | true => rw [hw] at h; cases h
      | false => 
        rw [hw] at h
        have h : w = some a := h
        exact Or.inr ⟨by omega, h, fun z => by rw [← h, hw] at z; cases z.2⟩
    | 1, j + 1 =>
      rw [lput] at h
      rcases ih (i := 0) (j := j) h with ⟨h1, h2⟩ | ⟨h1, h2, h3⟩
      · exact Or.inl ⟨by omega, h2⟩
      · exact Or.inr ⟨by omega, h2, fun z => by omega⟩
    | i + 2, 0 =>
      rw [lput] at h
      exact Or.inr ⟨by omega, h, fun z => by omega⟩
    | i + 2, j + 1 =>
      rw [lput] at h
      rcases ih (i := i + 1) (j := j) h with ⟨h1, h2⟩ | ⟨h1, h2, h3⟩
      · exact Or.inl ⟨by omega, h2⟩
      · exact Or.inr ⟨by omega, h2, fun z => h3 ⟨by omega, z.2⟩⟩
theorem lg_ls1 : ∀ {lv : LV} {i j : Nat} {a : AV}, lg (ls1 lv i none) j = some a → j ≠ i ∧ lg lv j = some a := by
  intro lv
  induction lv with
  | nil => intro i j a h; rw [ls1] at h; cases h
  | cons w l ih =>
    intro i j a h
    match i, j with
    | 0, 0 => cases h
    | 0, j + 1 => exact ⟨by omega, h⟩
    | i + 1, 0 => exact ⟨by omega, h⟩
    | i + 1, j + 1 =>
      obtain ⟨h1, h2⟩ := ih (i := i) (j := j) h
      exact ⟨by omega, h2⟩
theorem isL_cat {ad : Nat → Nat} {a : AV} (h : (kv ad a).category = 2) : isL (some a) = true := by
  rw [kv_cat] at h
  rcases a with x | x | k
  · cases h
  · rfl
  · cases h
theorem lv_put {ls : Array Slot} {nL : Nat} {ad : Nat → Nat} {lv : LV} {i : Nat} {v : AV} (h : lv_has ls nL ((i, kv ad v) :: (lvl ad lv).filter (fun q => !(q.1 == i) && !(q.1 + 1 == i && q.2.category == 2)))) : lv_has ls nL (lvl ad (lput lv i v)) := by
  refine lv_of h fun j a hg => ?_
  rcases lg_lput hg with ⟨rfl, rfl⟩ | ⟨h1, h2, h3⟩
  · exact List.mem_cons_self
  · refine List.mem_cons_of_mem _ (List.mem_filter.mpr ⟨lvl_mem.mpr ⟨j, a, h2, rfl⟩, ?_⟩)
    have e1 : (j == i) = false := by simpa using h1
    have e2 : (j + 1 == i && (kv ad a).category == 2) = false := by
      cases hb : (j + 1 == i && (kv ad a).category == 2) with
      | false => rfl
      | true =>
        rw [Bool.and_eq_true] at hb
        exact absurd ⟨by simpa using hb.1, isL_cat (ad := ad) (by simpa using hb.2)⟩ h3
    show (!(j == i) && !(j + 1 == i && (kv ad a).category == 2)) = true
    rw [e1, e2]; rfl
theorem lv_put2 {ls : Array Slot} {nL : Nat} {ad : Nat → Nat} {lv : LV} {i : Nat} {v : AV} (h : lv_has ls nL ((i, kv ad v) :: (lvl ad lv).filter (fun q => !(q.1 == i) && (!(q.1 == i + 1) && !(q.1 + 1 == i && q.2.category == 2))))) : lv_has ls nL (lvl ad (lput2 lv i v)) := by
  refine lv_of h fun j a hg => ?_
  obtain ⟨h0, hg⟩ := lg_ls1 hg
  rcases lg_lput hg with ⟨rfl, rfl⟩ | ⟨h1, h2, h3⟩
  · exact List.mem_cons_self
  · refine List.mem_cons_of_mem _ (List.mem_filter.mpr ⟨lvl_mem.mpr ⟨j, a, h2, rfl⟩, ?_⟩)
    have e1 : (j == i) = false := by simpa using h1
    have e0 : (j == i + 1) = false := by simpa using h0
    have e2 : (j + 1 == i && (kv ad a).category == 2) = false := by
      cases hb : (j + 1 == i && (kv ad a).category == 2) with
      | false => rfl
      | true =>
        rw [Bool.and_eq_true] at hb
        exact absurd ⟨by simpa using hb.1, isL_cat (ad := ad) (by simpa using hb.2)⟩ h3
    show (!(j == i) && (!(j == i + 1) && !(j + 1 == i && (kv ad a).category == 2))) = true
    rw [e1, e0, e2]; rfl
theorem lg_lsub : ∀ {lv' lv : LV} {i : Nat} {a : AV}, lsub lv' lv → lg lv' i = some a → lg lv i = some a := by
  intro lv'
  induction lv' with
  | nil => intro lv i a _ h; cases h
  | cons w l ih =>
    intro lv i a hs h
    match w, lv, i with
    | none, [], _ => exact hs.elim
    | some v, [], _ => exact hs.elim
    | none, x :: l', 0 => cases h
    | none, x :: l', i + 1 => exact ih (lv := l') hs h
    | some v, x :: l', 0 => exact hs.1.trans h
    | some v, x :: l', i + 1 => exact ih (lv := l') hs.2 h
theorem upN_s {α : Type} (f : Nat → α) (k : Nat) (x : α) : upN f k x k = x := by
  have e : Nat.beq k k = true := Nat.beq_refl k
  unfold upN
  rw [e]
theorem upN_n {α : Type} (f : Nat → α) {k j : Nat} (x : α) (h : j ≠ k) : upN f k x j = f j := by
  have e : Nat.beq j k = false := by
    cases hb : Nat.beq j k with
    | false => rfl
    | true => exact absurd (Nat.eq_of_beq_eq_true hb) h
  unfold upN
  rw [e]
theorem lg_rep : ∀ (n i : Nat), lg (rep n) i = none := by
  intro n
  induction n with
  | zero => intro i; rfl
  | succ n ih =>
    intro i
    cases i with
    | zero => rfl
    | succ i => exact ih i
theorem lg_ent {ad : Nat → Nat} : ∀ (as : List AV) (n b i : Nat) (a : AV), lg (entL n as) i = some a → (b + i, kv ad a) ∈ lv_args b (as.map (kv ad)) := by
  intro as
  induction as with
  | nil => intro n b i a h; rw [entL, lg_rep] at h; cases h
  | cons v l ih =>
    intro n b i a h
    rcases v with x | x | k
    · rw [entL.eq_3 _ _ _ (by intro x h1; cases h1)] at h
      rw [List.map_cons, lv_args, kv_cat]
      cases i with
      | zero => rw [← Option.some.inj h]; exact List.mem_cons_self
      | succ i =>
        have := ih (n - 1) (b + 1) i a h
        rw [show b + (i + 1) = b + 1 + i by omega]
        exact List.mem_cons_of_mem _ this
    · rw [entL] at h
      rw [List.map_cons, lv_args, kv_cat]
      match i, h with
      | 0, h => rw [← Option.some.inj h]; exact List.mem_cons_self
      | 1, h => cases h
      | i + 2, h =>
        have := ih (n - 2) (b + 2) i a h
        rw [show b + (i + 2) = b + 2 + i by omega]
        exact List.mem_cons_of_mem _ this
    · rw [entL.eq_3 _ _ _ (by intro x h1; cases h1)] at h
      rw [List.map_cons, lv_args, kv_cat]
      cases i with
      | zero => rw [← Option.some.inj h]; exact List.mem_cons_self
      | succ i =>
        have := ih (n - 1) (b + 1) i a h
        rw [show b + (i + 1) = b + 1 + i by omega]
        exact List.mem_cons_of_mem _ this
theorem sl_len {ad : Nat → Nat} : ∀ as : List AV, (lg_sl (as.map (kv ad))).length = wsum as := by
  intro as
  induction as with
  | nil => rfl
  | cons v l ih =>
    have e : lg_sl ((v :: l).map (kv ad)) = (if (kv ad v).category = 2 then [.val (kv ad v), .second] else [.val (kv ad v)]) ++ lg_sl (l.map (kv ad)) := by simp [lg_sl]
    rw [e, List.length_append, ih, kv_cat]
    rcases v with x | x | k
    · simp [wsum]; omega
    · simp [wsum]; omega
    · simp [wsum]; omega
theorem ws_sum {ad : Nat → Nat} : ∀ as : List AV, ((as.map (kv ad)).map fun v => v.category).sum = wsum as := by
  intro as
  induction as with
  | nil => rfl
  | cons v l ih =>
    rw [List.map_cons, List.map_cons, List.sum_cons, ih, kv_cat]
    rcases v with x | x | k
    · simp [wsum]; omega
    · simp [wsum]; omega
    · simp [wsum]; omega
/-! the world -/
def cel (dA : Nat → ClassId) (ad : Nat → Nat) (M : AM) : CS → va_E
  | .inl o => .inr (o.1, o.2.map (fun f => kv ad (fav M f)))
  | .inr a => .inl (dA a.1, (a.2.1, .inl (M.2.2 a.2.2)))
def wd (dA : Nat → ClassId) (ad : Nat → Nat) (M : AM) : va_W := (List.range 48).map (fun k => (ad k, cel dA ad M (sh k)))
abbrev tyA (dA : Nat → ClassId) : List (ClassId × FieldType) := [(dA 0, .int), (dA 1, .byte), (dA 2, .boolean)]
theorem wd_len (dA : Nat → ClassId) (ad : Nat → Nat) (M : AM) : (wd dA ad M).length = 48 := by simp [wd]
theorem wd_get {dA : Nat → ClassId} {ad : Nat → Nat} {M : AM} {k : Nat} (h : k < 48) : (wd dA ad M)[k]? = some (ad k, cel dA ad M (sh k)) := by
  simp [wd, List.getElem?_map, List.getElem?_range h]
theorem wd_some {dA : Nat → ClassId} {ad : Nat → Nat} {M : AM} {k : Nat} {q : Nat × va_E} (h : (wd dA ad M)[k]? = some q) : k < 48 ∧ q.1 = ad k := by
  have hl := (List.getElem?_eq_some_iff.mp h).1
  rw [wd_len] at hl
  rw [wd_get hl] at h
  exact ⟨hl, by rw [← Option.some.inj h]⟩
theorem sh_big {k : Nat} (h : 48 ≤ k) : sh k = .inl (99, []) := by
  unfold sh
  split <;> first | omega | rfl
theorem sh_ok : ((List.range 48).all fun k => match sh k with
  | .inl o => (List.range o.2.length).all (fun j => match o.2[j]? with
    | some (.inr (.inl i)) => owI i == (k, j)
    | some (.inr (.inr i)) => owL i == (k, j)
    | _ => true)
  | .inr a => owA a.2.2 == k && Nat.ble a.2.1 8192) = true := by decide +kernel
theorem sh_I {k : Nat} {o : Nat × List FS} (h : sh k = .inl o) {j i : Nat} (hj : o.2[j]? = some (.inr (.inl i))) : owI i = (k, j) := by
  have hk : k < 48 := by
    rcases Nat.lt_or_ge k 48 with q | q
    · exact q
    · rw [sh_big q] at h; cases h; cases hj
  have h1 := List.all_eq_true.mp sh_ok k (List.mem_range.mpr hk)
  rw [h] at h1
  have h2 := List.all_eq_true.mp h1 j (List.mem_range.mpr (List.getElem?_eq_some_iff.mp hj).1)
  rw [hj] at h2
  exact eq_of_beq h2
theorem sh_L {k : Nat} {o : Nat × List FS} (h : sh k = .inl o) {j i : Nat} (hj : o.2[j]? = some (.inr (.inr i))) : owL i = (k, j) := by
  have hk : k < 48 := by
    rcases Nat.lt_or_ge k 48 with q | q
    · exact q
    · rw [sh_big q] at h; cases h; cases hj
  have h1 := List.all_eq_true.mp sh_ok k (List.mem_range.mpr hk)
  rw [h] at h1
  have h2 := List.all_eq_true.mp h1 j (List.mem_range.mpr (List.getElem?_eq_some_iff.mp hj).1)
  rw [hj] at h2
  exact eq_of_beq h2
theorem sh_A {k : Nat} {a : Nat × (Nat × Nat)} (h : sh k = .inr a) : k < 48 ∧ owA a.2.2 = k ∧ a.2.1 ≤ 8192 := by
  have hk : k < 48 := by
    rcases Nat.lt_or_ge k 48 with q | q
    · exact q
    · rw [sh_big q] at h; cases h
  have h1 := List.all_eq_true.mp sh_ok k (List.mem_range.mpr hk)
  rw [h] at h1
  have h1 : (owA a.2.2 == k && Nat.ble a.2.1 8192) = true := h1
  rw [Bool.and_eq_true] at h1
  exact ⟨hk, eq_of_beq h1.1, Nat.le_of_ble_eq_true h1.2⟩
theorem nth_eq : ∀ (l : List FS) (j : Nat), nth l j = l[j]? := by
  intro l
  induction l with
  | nil => intro j; rfl
  | cons f l ih =>
    intro j
    cases j with
    | zero => rfl
    | succ j => rw [nth, ih, List.getElem?_cons_succ]
theorem fld_some {ci j k : Nat} {f : FS} (h : fld ci j k = some f) : ∃ fs, k < 48 ∧ sh k = .inl (ci, fs) ∧ fs[j]? = some f := by
  unfold fld at h
  cases hs : sh k with
  | inr a => rw [hs] at h; cases h
  | inl o =>
    rw [hs] at h
    have h : (match Nat.beq o.1 ci with | true => nth o.2 j | false => none) = some f := h
    cases hc : Nat.beq o.1 ci with
    | false => rw [hc] at h; cases h
    | true =>
      rw [hc] at h
      have h : o.2[j]? = some f := by rw [← nth_eq]; exact h
      have e : o.1 = ci := Nat.eq_of_beq_eq_true hc
      refine ⟨o.2, ?_, by rw [← e], h⟩
      rcases Nat.lt_or_ge k 48 with q | q
      · exact q
      · rw [sh_big q] at hs; cases hs; cases h
theorem row_some {t k : Nat} {z a : Nat} (h : row t k = some (z, a)) : k < 48 ∧ sh k = .inr (t, (z, a)) ∧ owA a = k ∧ z ≤ 8192 := by
  unfold row at h
  cases hs : sh k with
  | inl a => rw [hs] at h; cases h
  | inr o =>
    rw [hs] at h
    have h : (match Nat.beq o.1 t with | true => some o.2 | false => none) = some (z, a) := h
    cases hc : Nat.beq o.1 t with
    | false => rw [hc] at h; cases h
    | true =>
      rw [hc] at h
      have h : o.2 = (z, a) := Option.some.inj h
      have e : o.1 = t := Nat.eq_of_beq_eq_true hc
      obtain ⟨h1, h2, h3⟩ := sh_A hs
      have ho : o = (t, (z, a)) := by rw [← e, ← h]
      subst ho
      exact ⟨h1, rfl, h2, h3⟩
theorem cel_I {dA : Nat → ClassId} {ad : Nat → Nat} {M : AM} {q i : Nat} {x : Int32} (h : (owI i).1 ≠ q) : cel dA ad (sI i x M) (sh q) = cel dA ad M (sh q) := by
  cases hs : sh q with
  | inr a => rfl
  | inl o =>
    show (Sum.inr (o.1, o.2.map (fun f => kv ad (fav (sI i x M) f))) : va_E) = .inr (o.1, o.2.map (fun f => kv ad (fav M f)))
    congr 2
    refine List.map_congr_left fun f hf => ?_
    obtain ⟨j, hj⟩ := List.getElem?_of_mem hf
    rcases f with k | i' | i'
    · rfl
    · have := sh_I hs hj
      have hne : i' ≠ i := fun e => h (by rw [← e, this])
      show kv ad (VI (upN M.1 i x i')) = kv ad (VI (M.1 i'))
      rw [upN_n _ _ hne]
    · rfl
theorem cel_L {dA : Nat → ClassId} {ad : Nat → Nat} {M : AM} {q i : Nat} {x : Int64} (h : (owL i).1 ≠ q) : cel dA ad (sL i x M) (sh q) = cel dA ad M (sh q) := by
  cases hs : sh q with
  | inr a => rfl
  | inl o =>
    show (Sum.inr (o.1, o.2.map (fun f => kv ad (fav (sL i x M) f))) : va_E) = .inr (o.1, o.2.map (fun f => kv ad (fav M f)))
    congr 2
    refine List.map_congr_left fun f hf => ?_
    obtain ⟨j, hj⟩ := List.getElem?_of_mem hf
    rcases f with k | i' | i'
    · rfl
    · rfl
    · have := sh_L hs hj
      have hne : i' ≠ i := fun e => h (by rw [← e, this])
      show kv ad (VL (upN M.2.1 i x i')) = kv ad (VL (M.2.1 i'))
      rw [upN_n _ _ hne]
theorem cel_A {dA : Nat → ClassId} {ad : Nat → Nat} {M : AM} {q i : Nat} {f : Nat → Int32} (h : owA i ≠ q) : cel dA ad (sA i f M) (sh q) = cel dA ad M (sh q) := by
  cases hs : sh q with
  | inl o =>
    show (Sum.inr (o.1, o.2.map (fun f' => kv ad (fav (sA i f M) f'))) : va_E) = .inr (o.1, o.2.map (fun f => kv ad (fav M f)))
    rfl
  | inr a =>
    show (Sum.inl (dA a.1, (a.2.1, .inl (upN M.2.2 i f a.2.2))) : va_E) = .inl (dA a.1, (a.2.1, .inl (M.2.2 a.2.2)))
    have hne : a.2.2 ≠ i := fun e => h (by rw [← e]; exact (sh_A hs).2.1)
    rw [upN_n _ _ hne]
theorem wd_I {dA : Nat → ClassId} {ad : Nat → Nat} {M : AM} {ci j k i : Nat} {fs : List FS} {x : Int32} (hk : k < 48) (hs : sh k = .inl (ci, fs)) (hj : fs[j]? = some (.inr (.inl i))) : (wd dA ad M).set k (ad k, .inr (ci, (fs.map (fun f => kv ad (fav M f))).set j (.int x))) = wd dA ad (sI i x M) := by
  have ho := sh_I hs hj
  refine List.ext_getElem? fun q => ?_
  by_cases hq : q = k
  · subst hq
    rw [List.getElem?_set_self (by rw [wd_len]; exact hk), wd_get hk, hs]
    show some (ad q, (Sum.inr _ : va_E)) = some (ad q, .inr (ci, fs.map (fun f => kv ad (fav (sI i x M) f))))
    congr 4
    refine List.ext_getElem? fun jj => ?_
    by_cases hjj : jj = j
    · subst hjj
      rw [List.getElem?_set_self (by rw [List.length_map]; exact (List.getElem?_eq_some_iff.mp hj).1), List.getElem?_map, hj]
      show some (Value.int x) = some (kv ad (VI (upN M.1 i x i)))
      rw [upN_s]; rfl
    · rw [List.getElem?_set_ne (Ne.symm hjj), List.getElem?_map, List.getElem?_map]
      cases hf : fs[jj]? with
      | none => rfl
      | some f =>
        rcases f with r | i' | i'
        · rfl
        · have h2 := sh_I hs hf
          have hne : i' ≠ i := fun e => hjj (by rw [e, ho] at h2; exact (Prod.mk.inj h2).2.symm)
          show some (kv ad (VI (M.1 i'))) = some (kv ad (VI (upN M.1 i x i')))
          rw [upN_n _ _ hne]
        · rfl
  · rw [List.getElem?_set_ne (Ne.symm hq)]
    rcases Nat.lt_or_ge q 48 with h | h
    · rw [wd_get h, wd_get h, cel_I (by rw [ho]; exact Ne.symm hq)]
    · rw [List.getElem?_eq_none (by rw [wd_len]; exact h), List.getElem?_eq_none (by rw [wd_len]; exact h)]
theorem wd_L {dA : Nat → ClassId} {ad : Nat → Nat} {M : AM} {ci j k i : Nat} {fs : List FS} {x : Int64} (hk : k < 48) (hs : sh k = .inl (ci, fs)) (hj : fs[j]? = some (.inr (.inr i))) : (wd dA ad M).set k (ad k, .inr (ci, (fs.map (fun f => kv ad (fav M f))).set j (.long x))) = wd dA ad (sL i x M) := by
  have ho := sh_L hs hj
  refine List.ext_getElem? fun q => ?_
  by_cases hq : q = k
  · subst hq
    rw [List.getElem?_set_self (by rw [wd_len]; exact hk), wd_get hk, hs]
    show some (ad q, (Sum.inr _ : va_E)) = some (ad q, .inr (ci, fs.map (fun f => kv ad (fav (sL i x M) f))))
    congr 4
    refine List.ext_getElem? fun jj => ?_
    by_cases hjj : jj = j
    · subst hjj
      rw [List.getElem?_set_self (by rw [List.length_map]; exact (List.getElem?_eq_some_iff.mp hj).1), List.getElem?_map, hj]
      show some (Value.long x) = some (kv ad (VL (upN M.2.1 i x i)))
      rw [upN_s]; rfl
    · rw [List.getElem?_set_ne (Ne.symm hjj), List.getElem?_map, List.getElem?_map]
      cases hf : fs[jj]? with
      | none => rfl
      | some f =>
        rcases f with r | i' | i'
        · rfl
        · rfl
        · have h2 := sh_L hs hf
          have hne : i' ≠ i := fun e => hjj (by rw [e, ho] at h2; exact (Prod.mk.inj h2).2.symm)
          show some (kv ad (VL (M.2.1 i'))) = some (kv ad (VL (upN M.2.1 i x i')))
          rw [upN_n _ _ hne]
  · rw [List.getElem?_set_ne (Ne.symm hq)]
    rcases Nat.lt_or_ge q 48 with h | h
    · rw [wd_get h, wd_get h, cel_L (by rw [ho]; exact Ne.symm hq)]
    · rw [List.getElem?_eq_none (by rw [wd_len]; exact h), List.getElem?_eq_none (by rw [wd_len]; exact h)]
theorem wd_A {dA : Nat → ClassId} {ad : Nat → Nat} {M : AM} {t z a k : Nat} {f : Nat → Int32} (hk : k < 48) (hs : sh k = .inr (t, (z, a))) (ho : owA a = k) : (wd dA ad M).set k (ad k, .inl (dA t, (z, .inl f))) = wd dA ad (sA a f M) := by
  refine List.ext_getElem? fun q => ?_
  by_cases hq : q = k
  · subst hq
    rw [List.getElem?_set_self (by rw [wd_len]; exact hk), wd_get hk, hs]
    show some (ad q, (Sum.inl (dA t, (z, .inl f)) : va_E)) = some (ad q, .inl (dA t, (z, .inl (upN M.2.2 a f a))))
    rw [upN_s]
  · rw [List.getElem?_set_ne (Ne.symm hq)]
    rcases Nat.lt_or_ge q 48 with h | h
    · rw [wd_get h, wd_get h, cel_A (by rw [ho]; exact Ne.symm hq)]
    · rw [List.getElem?_eq_none (by rw [wd_len]; exact h), List.getElem?_eq_none (by rw [wd_len]; exact h)]
