/-! A small machine of values, over flat memory: what a method's walk comes to. No state of the machine below stands in this part. -/
abbrev AV : Type := Int32 ⊕ (Int64 ⊕ Nat)
abbrev AM : Type := (Nat → Int32) × ((Nat → Int64) × (Nat → Nat → Int32))
abbrev LV : Type := List (Option AV)
abbrev VI (x : Int32) : AV := Sum.inl x
abbrev VL (x : Int64) : AV := Sum.inr (Sum.inl x)
abbrev VR (k : Nat) : AV := Sum.inr (Sum.inr k)
abbrev PO : Type := Option AV → AM → Prop
abbrev SP : Type := List AV → AM → PO → Prop
abbrev NX : Type := Nat → LV → List AV → AM → Prop
abbrev OP : Type := NX → LV → List AV → AM → Prop
/-- a field: a cell, an int, a long -/
abbrev FS : Type := Nat ⊕ (Nat ⊕ Nat)
abbrev fR (k : Nat) : FS := Sum.inl k
abbrev fI (i : Nat) : FS := Sum.inr (Sum.inl i)
abbrev fL (i : Nat) : FS := Sum.inr (Sum.inr i)
/-- a cell: an object (its class's place, its fields), a row (its type's place, its length, its number) -/
abbrev CS : Type := (Nat × List FS) ⊕ (Nat × (Nat × Nat))
def sh : Nat → CS
  | 0 => .inl (4, [fR 1, fR 3, fR 12, fR 21, fR 28, fR 35, fR 37, fR 38, fL 0])
  | 1 => .inl (3, [fR 2, fI 0, fI 1, fI 2, fI 3, fI 4])
  | 2 => .inr (1, 300, 0)
  | 3 => .inl (0, [fR 5, fR 4, fI 5, fI 6, fI 7, fI 8])
  | 4 => .inr (0, 6, 1)
  | 5 => .inl (1, [fR 6, fR 7, fI 9, fI 10, fR 8, fR 9, fR 10, fR 11, fI 11])
  | 6 => .inr (0, 8, 2)
  | 7 => .inr (0, 8, 3)
  | 8 => .inr (0, 10, 4)
  | 9 => .inr (0, 10, 5)
  | 10 => .inr (0, 10, 6)
  | 11 => .inr (0, 10, 7)
  | 12 => .inl (0, [fR 14, fR 13, fI 12, fI 13, fI 14, fI 15])
  | 13 => .inr (0, 6, 8)
  | 14 => .inl (1, [fR 15, fR 16, fI 16, fI 17, fR 17, fR 18, fR 19, fR 20, fI 18])
  | 15 => .inr (0, 8, 9)
  | 16 => .inr (0, 8, 10)
  | 17 => .inr (0, 10, 11)
  | 18 => .inr (0, 10, 12)
  | 19 => .inr (0, 10, 13)
  | 20 => .inr (0, 10, 14)
  | 21 => .inl (1, [fR 22, fR 23, fI 19, fI 20, fR 24, fR 25, fR 26, fR 27, fI 21])
  | 22 => .inr (0, 8, 15)
  | 23 => .inr (0, 8, 16)
  | 24 => .inr (0, 10, 17)
  | 25 => .inr (0, 10, 18)
  | 26 => .inr (0, 10, 19)
  | 27 => .inr (0, 10, 20)
  | 28 => .inl (1, [fR 29, fR 30, fI 22, fI 23, fR 31, fR 32, fR 33, fR 34, fI 24])
  | 29 => .inr (0, 8, 21)
  | 30 => .inr (0, 8, 22)
  | 31 => .inr (0, 10, 23)
  | 32 => .inr (0, 10, 24)
  | 33 => .inr (0, 10, 25)
  | 34 => .inr (0, 10, 26)
  | 35 => .inl (2, [fR 36])
  | 36 => .inr (0, 9, 27)
  | 37 => .inr (2, 512, 28)
  | 38 => .inr (0, 6, 29)
  | 39 => .inl (5, [fL 1, fR 40, fI 25, fR 41, fR 42, fR 43, fR 44, fR 45, fI 26, fI 27, fI 28, fI 29, fR 46, fR 47])
  | 40 => .inr (0, 300, 30)
  | 41 => .inr (0, 28, 31)
  | 42 => .inr (0, 28, 32)
  | 43 => .inr (0, 48, 33)
  | 44 => .inr (0, 96, 34)
  | 45 => .inr (2, 2, 35)
  | 46 => .inr (2, 512, 36)
  | 47 => .inr (2, 8192, 37)
  | _ => .inl (99, [])
/-- who has an int, a long, a row -/
def owI : Nat → Nat × Nat
  | 0 => (1, 1)
  | 1 => (1, 2)
  | 2 => (1, 3)
  | 3 => (1, 4)
  | 4 => (1, 5)
  | 5 => (3, 2)
  | 6 => (3, 3)
  | 7 => (3, 4)
  | 8 => (3, 5)
  | 9 => (5, 2)
  | 10 => (5, 3)
  | 11 => (5, 8)
  | 12 => (12, 2)
  | 13 => (12, 3)
  | 14 => (12, 4)
  | 15 => (12, 5)
  | 16 => (14, 2)
  | 17 => (14, 3)
  | 18 => (14, 8)
  | 19 => (21, 2)
  | 20 => (21, 3)
  | 21 => (21, 8)
  | 22 => (28, 2)
  | 23 => (28, 3)
  | 24 => (28, 8)
  | 25 => (39, 2)
  | 26 => (39, 8)
  | 27 => (39, 9)
  | 28 => (39, 10)
  | 29 => (39, 11)
  | _ => (0, 99)
def owL : Nat → Nat × Nat
  | 0 => (0, 8)
  | 1 => (39, 0)
  | _ => (0, 99)
def owA : Nat → Nat
  | 0 => 2
  | 1 => 4
  | 2 => 6
  | 3 => 7
  | 4 => 8
  | 5 => 9
  | 6 => 10
  | 7 => 11
  | 8 => 13
  | 9 => 15
  | 10 => 16
  | 11 => 17
  | 12 => 18
  | 13 => 19
  | 14 => 20
  | 15 => 22
  | 16 => 23
  | 17 => 24
  | 18 => 25
  | 19 => 26
  | 20 => 27
  | 21 => 29
  | 22 => 30
  | 23 => 31
  | 24 => 32
  | 25 => 33
  | 26 => 34
  | 27 => 36
  | 28 => 37
  | 29 => 38
  | 30 => 40
  | 31 => 41
  | 32 => 42
  | 33 => 43
  | 34 => 44
  | 35 => 45
  | 36 => 46
  | 37 => 47
  | _ => 0
def sI (i : Nat) (x : Int32) (M : AM) : AM := (upd M.1 i x, M.2)
def sL (i : Nat) (x : Int64) (M : AM) : AM := (M.1, (vp_updL M.2.1 i x, M.2.2))
/-- a row put in another's place -/
def updA (F : Nat → Nat → Int32) (k : Nat) (f : Nat → Int32) : Nat → Nat → Int32 := fun b => if b = k then f else F b
def sA (k : Nat) (f : Nat → Int32) (M : AM) : AM := (M.1, (M.2.1, updA M.2.2 k f))
def fav (M : AM) : FS → AV
  | .inl k => VR k
  | .inr (.inl i) => VI (M.1 i)
  | .inr (.inr i) => VL (M.2.1 i)
/-- locals -/
def lg : LV → Nat → Option AV
  | [], _ => none
  | v :: _, 0 => v
  | _ :: l, i + 1 => lg l i
def ls1 : LV → Nat → Option AV → LV
  | [], _, _ => []
  | _ :: l, 0, v => v :: l
  | w :: l, i + 1, v => w :: ls1 l i v
def isL : Option AV → Bool
  | some (.inr (.inl _)) => true
  | _ => false
/-- a store: a long whose second half it hits is gone -/
def lput : LV → Nat → AV → LV
  | [], _, _ => []
  | _ :: l, 0, v => some v :: l
  | w :: l, 1, v => (bif isL w then none else w) :: lput l 0 v
  | w :: l, i + 2, v => w :: lput l (i + 1) v
def lput2 (lv : LV) (i : Nat) (v : AV) : LV := ls1 (lput lv i v) (i + 1) none
/-- fewer locals are known -/
def lsub : LV → LV → Prop
  | [], [] => True
  | none :: l, _ :: l' => lsub l l'
  | some v :: l, w :: l' => w = some v ∧ lsub l l'
  | _, _ => False
def entL : Nat → List AV → LV
  | n, [] => List.replicate n none
  | n, .inr (.inl x) :: l => some (VL x) :: none :: entL (n - 2) l
  | n, v :: l => some v :: entL (n - 1) l
def wsum : List AV → Nat
  | [] => 0
  | .inr (.inl _) :: l => wsum l + 2
  | _ :: l => wsum l + 1
/-- instructions -/
def o_const (x : Int32) (n : Nat) : OP := fun K lv st M => K n lv (VI x :: st) M
def o_lconst (x : Int64) (n : Nat) : OP := fun K lv st M => K n lv (VL x :: st) M
def o_ref (k n : Nat) : OP := fun K lv st M => K n lv (VR k :: st) M
def o_iload (i n : Nat) : OP := fun K lv st M => match lg lv i with
  | some (.inl x) => K n lv (VI x :: st) M
  | _ => False
def o_lload (i n : Nat) : OP := fun K lv st M => match lg lv i with
  | some (.inr (.inl x)) => K n lv (VL x :: st) M
  | _ => False
def o_aload (i n : Nat) : OP := fun K lv st M => match lg lv i with
  | some (.inr (.inr k)) => bif k == 120 then False else K n lv (VR k :: st) M
  | _ => False
def o_istore (i n : Nat) : OP := fun K lv st M => match st with
  | .inl x :: st => K n (lput lv i (VI x)) st M
  | _ => False
def o_lstore (i n : Nat) : OP := fun K lv st M => match st with
  | .inr (.inl x) :: st => K n (lput2 lv i (VL x)) st M
  | _ => False
def o_astore (i n : Nat) : OP := fun K lv st M => match st with
  | .inr (.inr k) :: st => bif k == 120 then False else K n (lput lv i (VR k)) st M
  | _ => False
def o_iinc (i : Nat) (x : Int32) (n : Nat) : OP := fun K lv st M => match lg lv i with
  | some (.inl y) => K n (lput lv i (VI (y + x))) st M
  | _ => False
def o_bin (f : Int32 → Int32 → Int32) (n : Nat) : OP := fun K lv st M => match st with
  | .inl y :: .inl x :: st => K n lv (VI (f x y) :: st) M
  | _ => False
def o_div (f : Int32 → Int32 → Int32) (n : Nat) : OP := fun K lv st M => match st with
  | .inl y :: .inl x :: st => ¬ y = 0 ∧ K n lv (VI (f x y) :: st) M
  | _ => False
def o_un (f : Int32 → Int32) (n : Nat) : OP := fun K lv st M => match st with
  | .inl x :: st => K n lv (VI (f x) :: st) M
  | _ => False
def o_lbin (f : Int64 → Int64 → Int64) (n : Nat) : OP := fun K lv st M => match st with
  | .inr (.inl y) :: .inr (.inl x) :: st => K n lv (VL (f x y) :: st) M
  | _ => False
def o_lsh (f : Int64 → Int32 → Int64) (n : Nat) : OP := fun K lv st M => match st with
  | .inl y :: .inr (.inl x) :: st => K n lv (VL (f x y) :: st) M
  | _ => False
def o_lcmp (n : Nat) : OP := fun K lv st M => match st with
  | .inr (.inl y) :: .inr (.inl x) :: st => K n lv (VI (lg_cmp x y) :: st) M
  | _ => False
def o_i2l (n : Nat) : OP := fun K lv st M => match st with
  | .inl x :: st => K n lv (VL x.toInt64 :: st) M
  | _ => False
def o_l2i (n : Nat) : OP := fun K lv st M => match st with
  | .inr (.inl x) :: st => K n lv (VI x.toInt32 :: st) M
  | _ => False
def o_if (P : Int32 → Prop) (t n : Nat) : OP := fun K lv st M => match st with
  | .inl x :: st => (P x → K t lv st M) ∧ (¬ P x → K n lv st M)
  | _ => False
def o_icmp (P : Int32 → Int32 → Prop) (t n : Nat) : OP := fun K lv st M => match st with
  | .inl y :: .inl x :: st => (P x y → K t lv st M) ∧ (¬ P x y → K n lv st M)
  | _ => False
def o_goto (t : Nat) : OP := fun K lv st M => K t lv st M
def o_dup (n : Nat) : OP := fun K lv st M => match st with
  | .inl x :: st => K n lv (VI x :: VI x :: st) M
  | .inr (.inr k) :: st => K n lv (VR k :: VR k :: st) M
  | _ => False
def o_dup2 (n : Nat) : OP := fun K lv st M => match st with
  | .inl x :: .inr (.inr k) :: st => K n lv (VI x :: VR k :: VI x :: VR k :: st) M
  | _ => False
def o_pop (n : Nat) : OP := fun K lv st M => match st with
  | .inl _ :: st => K n lv st M
  | _ => False
def fld (ci j k : Nat) : Option FS := match sh k with
  | .inl o => bif o.1 == ci then o.2[j]? else none
  | .inr _ => none
def row (t k : Nat) : Option (Nat × Nat) := match sh k with
  | .inr a => bif a.1 == t then some a.2 else none
  | .inl _ => none
def o_getf (ci j n : Nat) : OP := fun K lv st M => match st with
  | .inr (.inr k) :: st => match fld ci j k with
    | some f => K n lv (fav M f :: st) M
    | none => False
  | _ => False
def o_putI (ci j n : Nat) : OP := fun K lv st M => match st with
  | .inl x :: .inr (.inr k) :: st => match fld ci j k with
    | some (.inr (.inl i)) => K n lv st (sI i x M)
    | _ => False
  | _ => False
def o_putZ (ci j n : Nat) : OP := fun K lv st M => match st with
  | .inl x :: .inr (.inr k) :: st => match fld ci j k with
    | some (.inr (.inl i)) => (x = 0 ∨ x = 1) ∧ K n lv st (sI i x M)
    | _ => False
  | _ => False
def o_putL (ci j n : Nat) : OP := fun K lv st M => match st with
  | .inr (.inl x) :: .inr (.inr k) :: st => match fld ci j k with
    | some (.inr (.inr i)) => K n lv st (sL i x M)
    | _ => False
  | _ => False
def o_ald (t n : Nat) : OP := fun K lv st M => match st with
  | .inl i :: .inr (.inr k) :: st => match row t k with
    | some (z, a) => ∃ j : Nat, j < z ∧ i = nI j ∧ K n lv (VI (M.2.2 a j) :: st) M
    | none => False
  | _ => False
def o_ast (t : Nat) (g : Int32 → Int32) (n : Nat) : OP := fun K lv st M => match st with
  | .inl x :: .inl i :: .inr (.inr k) :: st => match row t k with
    | some (z, a) => ∃ j : Nat, j < z ∧ i = nI j ∧ K n lv st (sA a (upd (M.2.2 a) j (g x)) M)
    | none => False
  | _ => False
def o_alen (t n : Nat) : OP := fun K lv st M => match st with
  | .inr (.inr k) :: st => match row t k with
    | some (z, _) => K n lv (VI (nI z) :: st) M
    | none => False
  | _ => False
def popn : Nat → List AV → List AV → Option (List AV × List AV)
  | 0, as, st => some (as, st)
  | _ + 1, _, [] => none
  | n + 1, as, v :: st => popn n (v :: as) st
def rst (r : Option AV) (st : List AV) : List AV := match r with
  | some v => v :: st
  | none => st
/-- a call of an object's method: of one of the class ci; of a String; of no object -/
def o_callV (ci : Nat) (S : SP) (k n : Nat) : OP := fun K lv st M => match popn k [] st with
  | some (as, .inr (.inr b) :: st) => match sh b with
    | .inl o => bif o.1 == ci && Nat.ble (wsum st) 8 then S (VR b :: as) M (fun r M => K n lv (rst r st) M) else False
    | .inr _ => False
  | _ => False
def o_callT (S : SP) (k n : Nat) : OP := fun K lv st M => match popn k [] st with
  | some (as, .inr (.inr b) :: st) => bif Nat.ble 100 b && Nat.ble b 103 && Nat.ble (wsum st) 8 then S (VR b :: as) M (fun r M => K n lv (rst r st) M) else False
  | _ => False
def o_callS (S : SP) (k n : Nat) : OP := fun K lv st M => match popn k [] st with
  | some (as, st) => bif Nat.ble (wsum st) 8 then S as M (fun r M => K n lv (rst r st) M) else False
  | none => False
/-- a switch -/
def swx (K : NX) (lv : LV) (st : List AV) (M : AM) (d : Nat) (x : Int32) : List (Int32 × Nat) → Prop
  | [] => K d lv st M
  | q :: l => (x = q.1 → K q.2 lv st M) ∧ (¬ x = q.1 → swx K lv st M d x l)
def o_sw (l : List (Int32 × Nat)) (d : Nat) : OP := fun K lv st M => match st with
  | .inl x :: st => swx K lv st M d x l
  | _ => False
/-- ends -/
def o_ret (post : PO) : OP := fun _ _ st M => match st with
  | [] => post none M
  | _ => False
def o_iret (post : PO) : OP := fun _ _ st M => match st with
  | [.inl x] => post (some (VI x)) M
  | _ => False
def o_zret (post : PO) : OP := fun _ _ st M => match st with
  | [.inl x] => (x = 0 ∨ x = 1) ∧ post (some (VI x)) M
  | _ => False
def o_lret (post : PO) : OP := fun _ _ st M => match st with
  | [.inr (.inl x)] => post (some (VL x)) M
  | _ => False
def o_aret (post : PO) : OP := fun _ _ st M => match st with
  | [.inr (.inr k)] => bif k == 120 then False else post (some (VR k)) M
  | _ => False
/-- a relation of states that an instruction's step keeps -/
def Snd (w : NX) (pc : Nat) (o : OP) : Prop := ∀ (K : NX), (∀ pc lv st M, K pc lv st M → w pc lv st M) → ∀ lv st M, o K lv st M → w pc lv st M
def SndL (w : NX) : List (Nat × OP) → Prop
  | [] => True
  | q :: l => Snd w q.1 q.2 ∧ SndL w l
def WK (w : NX) : Prop := ∀ pc lv lv' st M, lsub lv' lv → w pc lv' st M → w pc lv st M
/-- the walk: from here, all that the instructions allow comes to its end -/
def RUN (T : List (Nat × OP)) (pc : Nat) (lv : LV) (st : List AV) (M : AM) : Prop := ∀ w : NX, SndL w T → WK w → w pc lv st M
def lk : List (Nat × OP) → Nat → OP
  | [], _ => fun _ _ _ _ => False
  | q :: l, n => bif q.1 == n then q.2 else lk l n
def cutIn : List Nat → Nat → Bool
  | [], _ => false
  | q :: l, n => bif q == n then true else cutIn l n
def wp (T : List (Nat × OP)) (C : List Nat) (K : NX) : Nat → NX
  | 0, _, _, _, _ => False
  | f + 1, pc, lv, st, M => bif cutIn C pc then K pc lv st M else lk T pc (wp T C K f) lv st M
def wp1 (T : List (Nat × OP)) (C : List Nat) (K : NX) (f : Nat) : NX := fun pc lv st M => lk T pc (wp T C K f) lv st M
theorem snd_lk {w : NX} {T : List (Nat × OP)} (h : SndL w T) (pc : Nat) : Snd w pc (lk T pc) := by
  induction T with
  | nil => exact fun K _ lv st M hf => hf.elim
  | cons q l ih =>
    rw [lk]
    cases hq : q.1 == pc with
    | true =>
      have e : q.1 = pc := by simpa using hq
      rw [← e]
      exact h.1
    | false => exact ih h.2
theorem wp_snd {w : NX} {T : List (Nat × OP)} (h : SndL w T) (C : List Nat) (K : NX) (hK : ∀ pc lv st M, K pc lv st M → w pc lv st M) : ∀ f pc lv st M, wp T C K f pc lv st M → w pc lv st M := by
  intro f
  induction f with
  | zero => exact fun pc lv st M hf => hf.elim
  | succ f ih =>
    intro pc lv st M hf
    rw [wp] at hf
    cases hc : cutIn C pc with
    | true => rw [hc] at hf; exact hK pc lv st M hf
    | false => rw [hc] at hf; exact snd_lk h pc _ ih lv st M hf
/-- at a cut: some invariant of a smaller measure holds, of locals that are known -/
abbrev ATC (I : Nat → NX) (n : Nat) : NX := fun pc lv st M => ∃ lv' μ, lsub lv' lv ∧ μ < n ∧ I μ pc lv' st M
theorem run_cut {T : List (Nat × OP)} (C : List Nat) (I : Nat → NX) (f : Nat) (h : ∀ n pc lv st M, I n pc lv st M → wp1 T C (ATC I n) f pc lv st M) : ∀ n pc lv st M, I n pc lv st M → RUN T pc lv st M := by
  intro n
  induction n using Nat.strongRecOn with
  | ind n ih =>
    intro pc lv st M hI w hw hk
    refine snd_lk hw pc _ (wp_snd hw C (ATC I n) ?_ f) lv st M (h n pc lv st M hI)
    intro pc' lv1 st' M' hc
    obtain ⟨lv', μ, h1, h2, h3⟩ := hc
    exact hk _ _ _ _ _ h1 (ih μ h2 pc' lv' st' M' h3 w hw hk)
theorem run_of {T : List (Nat × OP)} (C : List Nat) (I : Nat → NX) (f N : Nat) {lv : LV} {st : List AV} {M : AM} {pc : Nat} (h : ∀ n pc lv st M, I n pc lv st M → wp1 T C (ATC I n) f pc lv st M) (h0 : wp1 T C (ATC I N) f pc lv st M) : RUN T pc lv st M := by
  intro w hw hk
  refine snd_lk hw pc _ (wp_snd hw C (ATC I N) ?_ f) lv st M h0
  intro pc' lv1 st' M' hc
  obtain ⟨lv', μ, h1, h2, h3⟩ := hc
  exact hk _ _ _ _ _ h1 (run_cut C I f h μ pc' lv' st' M' h3 w hw hk)
theorem run_wp {T : List (Nat × OP)} (f : Nat) {lv : LV} {st : List AV} {M : AM} {pc : Nat} (h0 : wp1 T [] (fun _ _ _ _ => False) f pc lv st M) : RUN T pc lv st M := by
  intro w hw hk
  exact snd_lk hw pc _ (wp_snd hw [] _ (fun _ _ _ _ h => h.elim) f) lv st M h0
