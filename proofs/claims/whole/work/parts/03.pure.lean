/-! A small machine of values, over flat memory: what a method's walk comes to. No state of the machine below stands in this part. -/
abbrev AV : Type := Int32 ⊕ (Int64 ⊕ Nat)
abbrev AM : Type := (Nat → Int32) × ((Nat → Int64) × (Nat → Nat → Int32))
abbrev LV : Type := List (Option AV)
abbrev VI (x : Int32) : AV := Sum.inl x
abbrev VL (x : Int64) : AV := Sum.inr (Sum.inl x)
abbrev VR (k : Nat) : AV := Sum.inr (Sum.inr k)
abbrev PO : Type := Option AV → AM → Prop
abbrev SP : Type := List AV → AM → PO → Prop
abbrev NX : Type := Nat → LV → List AV → AM → Prop
abbrev OP : Type := NX → LV → List AV → AM → Prop
/-- a field: a cell, an int, a long -/
abbrev FS : Type := Nat ⊕ (Nat ⊕ Nat)
abbrev fR (k : Nat) : FS := Sum.inl k
abbrev fI (i : Nat) : FS := Sum.inr (Sum.inl i)
abbrev fL (i : Nat) : FS := Sum.inr (Sum.inr i)
/-- a cell: an object (its class's place, its fields), a row (its type's place, its length, its number) -/
abbrev CS : Type := (Nat × List FS) ⊕ (Nat × (Nat × Nat))
def sh : Nat → CS
  | 0 => .inl (4, [fR 1, fR 3, fR 12, fR 21, fR 28, fR 35, fR 37, fR 38, fL 0])
  | 1 => .inl (3, [fR 2, fI 0, fI 1, fI 2, fI 3, fI 4])
  | 2 => .inr (1, 300, 0)
  | 3 => .inl (0, [fR 5, fR 4, fI 5, fI 6, fI 7, fI 8])
  | 4 => .inr (0, 6, 1)
  | 5 => .inl (1, [fR 6, fR 7, fI 9, fI 10, fR 8, fR 9, fR 10, fR 11, fI 11])
  | 6 => .inr (0, 8, 2)
  | 7 => .inr (0, 8, 3)
  | 8 => .inr (0, 10, 4)
  | 9 => .inr (0, 10, 5)
  | 10 => .inr (0, 10, 6)
  | 11 => .inr (0, 10, 7)
  | 12 => .inl (0, [fR 14, fR 13, fI 12, fI 13, fI 14, fI 15])
  | 13 => .inr (0, 6, 8)
  | 14 => .inl (1, [fR 15, fR 16, fI 16, fI 17, fR 17, fR 18, fR 19, fR 20, fI 18])
  | 15 => .inr (0, 8, 9)
  | 16 => .inr (0, 8, 10)
  | 17 => .inr (0, 10, 11)
  | 18 => .inr (0, 10, 12)
  | 19 => .inr (0, 10, 13)
  | 20 => .inr (0, 10, 14)
  | 21 => .inl (1, [fR 22, fR 23, fI 19, fI 20, fR 24, fR 25, fR 26, fR 27, fI 21])
  | 22 => .inr (0, 8, 15)
  | 23 => .inr (0, 8, 16)
  | 24 => .inr (0, 10, 17)
  | 25 => .inr (0, 10, 18)
  | 26 => .inr (0, 10, 19)
  | 27 => .inr (0, 10, 20)
  | 28 => .inl (1, [fR 29, fR 30, fI 22, fI 23, fR 31, fR 32, fR 33, fR 34, fI 24])
  | 29 => .inr (0, 8, 21)
  | 30 => .inr (0, 8, 22)
  | 31 => .inr (0, 10, 23)
  | 32 => .inr (0, 10, 24)
  | 33 => .inr (0, 10, 25)
  | 34 => .inr (0, 10, 26)
  | 35 => .inl (2, [fR 36])
  | 36 => .inr (0, 9, 27)
  | 37 => .inr (2, 512, 28)
  | 38 => .inr (0, 6, 29)
  | 39 => .inl (5, [fL 1, fR 40, fI 25, fR 41, fR 42, fR 43, fR 44, fR 45, fI 26, fI 27, fI 28, fI 29, fR 46, fR 47])
  | 40 => .inr (0, 300, 30)
  | 41 => .inr (0, 28, 31)
  | 42 => .inr (0, 28, 32)
  | 43 => .inr (0, 48, 33)
  | 44 => .inr (0, 96, 34)
  | 45 => .inr (2, 2, 35)
  | 46 => .inr (2, 512, 36)
  | 47 => .inr (2, 8192, 37)
  | _ => .inl (99, [])
/-- who has an int, a long, a row -/
def owI : Nat → Nat × Nat
  | 0 => (1, 1)
  | 1 => (1, 2)
  | 2 => (1, 3)
  | 3 => (1, 4)
  | 4 => (1, 5)
  | 5 => (3, 2)
  | 6 => (3, 3)
  | 7 => (3, 4)
  | 8 => (3, 5)
  | 9 => (5, 2)
  | 10 => (5, 3)
  | 11 => (5, 8)
  | 12 => (12, 2)
  | 13 => (12, 3)
  | 14 => (12, 4)
  | 15 => (12, 5)
  | 16 => (14, 2)
  | 17 => (14, 3)
  | 18 => (14, 8)
  | 19 => (21, 2)
  | 20 => (21, 3)
  | 21 => (21, 8)
  | 22 => (28, 2)
  | 23 => (28, 3)
  | 24 => (28, 8)
  | 25 => (39, 2)
  | 26 => (39, 8)
  | 27 => (39, 9)
  | 28 => (39, 10)
  | 29 => (39, 11)
  | _ => (0, 99)
def owL : Nat → Nat × Nat
  | 0 => (0, 8)
  | 1 => (39, 0)
  | _ => (0, 99)
def owA : Nat → Nat
  | 0 => 2
  | 1 => 4
  | 2 => 6
  | 3 => 7
  | 4 => 8
  | 5 => 9
  | 6 => 10
  | 7 => 11
  | 8 => 13
  | 9 => 15
  | 10 => 16
  | 11 => 17
  | 12 => 18
  | 13 => 19
  | 14 => 20
  | 15 => 22
  | 16 => 23
  | 17 => 24
  | 18 => 25
  | 19 => 26
  | 20 => 27
  | 21 => 29
  | 22 => 30
  | 23 => 31
  | 24 => 32
  | 25 => 33
  | 26 => 34
  | 27 => 36
  | 28 => 37
  | 29 => 38
  | 30 => 40
  | 31 => 41
  | 32 => 42
  | 33 => 43
  | 34 => 44
  | 35 => 45
  | 36 => 46
  | 37 => 47
  | _ => 0
def upN {α : Type} (f : Nat → α) (k : Nat) (x : α) : Nat → α := fun j => match Nat.beq j k with | true => x | false => f j
def sI (i : Nat) (x : Int32) (M : AM) : AM := (upN M.1 i x, M.2)
def sL (i : Nat) (x : Int64) (M : AM) : AM := (M.1, (upN M.2.1 i x, M.2.2))
/-- a row put in another's place -/
def sA (k : Nat) (f : Nat → Int32) (M : AM) : AM := (M.1, (M.2.1, upN M.2.2 k f))
def fav (M : AM) : FS → AV
  | .inl k => VR k
  | .inr (.inl i) => VI (M.1 i)
  | .inr (.inr i) => VL (M.2.1 i)
/-- locals -/
def lg : LV → Nat → Option AV
  | [], _ => none
  | v :: _, 0 => v
  | _ :: l, i + 1 => lg l i
def ls1 : LV → Nat → Option AV → LV
  | [], _, _ => []
  | _ :: l, 0, v => v :: l
  | w :: l, i + 1, v => w :: ls1 l i v
def isL : Option AV → Bool
  | some (.inr (.inl _)) => true
  | _ => false
/-- a store: a long whose second half it hits is gone -/
def lput : LV → Nat → AV → LV
  | [], _, _ => []
  | _ :: l, 0, v => some v :: l
  | w :: l, 1, v => (match isL w with | true => none | false => w) :: lput l 0 v
  | w :: l, i + 2, v => w :: lput l (i + 1) v
def lput2 (lv : LV) (i : Nat) (v : AV) : LV := ls1 (lput lv i v) (i + 1) none
/-- fewer locals are known -/
def lsub : LV → LV → Prop
  | [], [] => True
  | none :: l, _ :: l' => lsub l l'
  | some v :: l, w :: l' => w = some v ∧ lsub l l'
  | _, _ => False
def rep : Nat → LV
  | 0 => []
  | n + 1 => none :: rep n
def entL : Nat → List AV → LV
  | n, [] => rep n
  | n, .inr (.inl x) :: l => some (VL x) :: none :: entL (n - 2) l
  | n, v :: l => some v :: entL (n - 1) l
def wsum : List AV → Nat
  | [] => 0
  | .inr (.inl _) :: l => wsum l + 2
  | _ :: l => wsum l + 1
/-- instructions -/
def o_const (x : Int32) (n : Nat) : OP := fun K lv st M => K n lv (VI x :: st) M
def o_lconst (x : Int64) (n : Nat) : OP := fun K lv st M => K n lv (VL x :: st) M
def o_ref (k n : Nat) : OP := fun K lv st M => K n lv (VR k :: st) M
def o_iload (i n : Nat) : OP := fun K lv st M => match lg lv i with
  | some (.inl x) => K n lv (VI x :: st) M
  | _ => False
def o_lload (i n : Nat) : OP := fun K lv st M => match lg lv i with
  | some (.inr (.inl x)) => K n lv (VL x :: st) M
  | _ => False
def o_aload (i n : Nat) : OP := fun K lv st M => match lg lv i with
  | some (.inr (.inr k)) => match Nat.beq k 120 with | true => False | false => K n lv (VR k :: st) M
  | _ => False
def o_istore (i n : Nat) : OP := fun K lv st M => match st with
  | .inl x :: st => K n (lput lv i (VI x)) st M
  | _ => False
def o_lstore (i n : Nat) : OP := fun K lv st M => match st with
  | .inr (.inl x) :: st => K n (lput2 lv i (VL x)) st M
  | _ => False
def o_astore (i n : Nat) : OP := fun K lv st M => match st with
  | .inr (.inr k) :: st => match Nat.beq k 120 with | true => False | false => K n (lput lv i (VR k)) st M
  | _ => False
def o_iinc (i : Nat) (x : Int32) (n : Nat) : OP := fun K lv st M => match lg lv i with
  | some (.inl y) => K n (lput lv i (VI (y + x))) st M
  | _ => False
def o_bin (f : Int32 → Int32 → Int32) (n : Nat) : OP := fun K lv st M => match st with
  | .inl y :: .inl x :: st => K n lv (VI (f x y) :: st) M
  | _ => False
def o_div (f : Int32 → Int32 → Int32) (n : Nat) : OP := fun K lv st M => match st with
  | .inl y :: .inl x :: st => ¬ y = 0 ∧ K n lv (VI (f x y) :: st) M
  | _ => False
def o_un (f : Int32 → Int32) (n : Nat) : OP := fun K lv st M => match st with
  | .inl x :: st => K n lv (VI (f x) :: st) M
  | _ => False
def o_lbin (f : Int64 → Int64 → Int64) (n : Nat) : OP := fun K lv st M => match st with
  | .inr (.inl y) :: .inr (.inl x) :: st => K n lv (VL (f x y) :: st) M
  | _ => False
def o_lsh (f : Int64 → Int32 → Int64) (n : Nat) : OP := fun K lv st M => match st with
  | .inl y :: .inr (.inl x) :: st => K n lv (VL (f x y) :: st) M
  | _ => False
def o_lcmp (n : Nat) : OP := fun K lv st M => match st with
  | .inr (.inl y) :: .inr (.inl x) :: st => K n lv (VI (lg_cmp x y) :: st) M
  | _ => False
def o_i2l (n : Nat) : OP := fun K lv st M => match st with
  | .inl x :: st => K n lv (VL x.toInt64 :: st) M
  | _ => False
def o_l2i (n : Nat) : OP := fun K lv st M => match st with
  | .inr (.inl x) :: st => K n lv (VI x.toInt32 :: st) M
  | _ => False
def o_if (P : Int32 → Prop) (t n : Nat) : OP := fun K lv st M => match st with
  | .inl x :: st => (P x → K t lv st M) ∧ (¬ P x → K n lv st M)
  | _ => False
def o_icmp (P : Int32 → Int32 → Prop) (t n : Nat) : OP := fun K lv st M => match st with
  | .inl y :: .inl x :: st => (P x y → K t lv st M) ∧ (¬ P x y → K n lv st M)
  | _ => False
def o_goto (t : Nat) : OP := fun K lv st M => K t lv st M
def o_dup (n : Nat) : OP := fun K lv st M => match st with
  | .inl x :: st => K n lv (VI x :: VI x :: st) M
  | .inr (.inr k) :: st => K n lv (VR k :: VR k :: st) M
  | _ => False
def o_dup2 (n : Nat) : OP := fun K lv st M => match st with
  | .inl x :: .inr (.inr k) :: st => K n lv (VI x :: VR k :: VI x :: VR k :: st) M
  | _ => False
def o_pop (n : Nat) : OP := fun K lv st M => match st with
  | .inl _ :: st => K n lv st M
  | _ => False
def nth : List FS → Nat → Option FS
  | [], _ => none
  | f :: _, 0 => some f
  | _ :: l, j + 1 => nth l j
def fld (ci j k : Nat) : Option FS := match sh k with
  | .inl o => match Nat.beq o.1 ci with | true => nth o.2 j | false => none
  | .inr _ => none
def row (t k : Nat) : Option (Nat × Nat) := match sh k with
  | .inr a => match Nat.beq a.1 t with | true => some a.2 | false => none
  | .inl _ => none
theorem sh_0 : sh 0 = .inl (4, [fR 1, fR 3, fR 12, fR 21, fR 28, fR 35, fR 37, fR 38, fL 0]) := rfl
theorem F_0_0 : fld 4 0 0 = some (fR 1) := rfl
theorem F_0_1 : fld 4 1 0 = some (fR 3) := rfl
theorem F_0_2 : fld 4 2 0 = some (fR 12) := rfl
theorem F_0_3 : fld 4 3 0 = some (fR 21) := rfl
theorem F_0_4 : fld 4 4 0 = some (fR 28) := rfl
theorem F_0_5 : fld 4 5 0 = some (fR 35) := rfl
theorem F_0_6 : fld 4 6 0 = some (fR 37) := rfl
theorem F_0_7 : fld 4 7 0 = some (fR 38) := rfl
theorem F_0_8 : fld 4 8 0 = some (fL 0) := rfl
theorem sh_1 : sh 1 = .inl (3, [fR 2, fI 0, fI 1, fI 2, fI 3, fI 4]) := rfl
theorem F_1_0 : fld 3 0 1 = some (fR 2) := rfl
theorem F_1_1 : fld 3 1 1 = some (fI 0) := rfl
theorem F_1_2 : fld 3 2 1 = some (fI 1) := rfl
theorem F_1_3 : fld 3 3 1 = some (fI 2) := rfl
theorem F_1_4 : fld 3 4 1 = some (fI 3) := rfl
theorem F_1_5 : fld 3 5 1 = some (fI 4) := rfl
theorem sh_3 : sh 3 = .inl (0, [fR 5, fR 4, fI 5, fI 6, fI 7, fI 8]) := rfl
theorem F_3_0 : fld 0 0 3 = some (fR 5) := rfl
theorem F_3_1 : fld 0 1 3 = some (fR 4) := rfl
theorem F_3_2 : fld 0 2 3 = some (fI 5) := rfl
theorem F_3_3 : fld 0 3 3 = some (fI 6) := rfl
theorem F_3_4 : fld 0 4 3 = some (fI 7) := rfl
theorem F_3_5 : fld 0 5 3 = some (fI 8) := rfl
theorem sh_5 : sh 5 = .inl (1, [fR 6, fR 7, fI 9, fI 10, fR 8, fR 9, fR 10, fR 11, fI 11]) := rfl
theorem F_5_0 : fld 1 0 5 = some (fR 6) := rfl
theorem F_5_1 : fld 1 1 5 = some (fR 7) := rfl
theorem F_5_2 : fld 1 2 5 = some (fI 9) := rfl
theorem F_5_3 : fld 1 3 5 = some (fI 10) := rfl
theorem F_5_4 : fld 1 4 5 = some (fR 8) := rfl
theorem F_5_5 : fld 1 5 5 = some (fR 9) := rfl
theorem F_5_6 : fld 1 6 5 = some (fR 10) := rfl
theorem F_5_7 : fld 1 7 5 = some (fR 11) := rfl
theorem F_5_8 : fld 1 8 5 = some (fI 11) := rfl
theorem sh_12 : sh 12 = .inl (0, [fR 14, fR 13, fI 12, fI 13, fI 14, fI 15]) := rfl
theorem F_12_0 : fld 0 0 12 = some (fR 14) := rfl
theorem F_12_1 : fld 0 1 12 = some (fR 13) := rfl
theorem F_12_2 : fld 0 2 12 = some (fI 12) := rfl
theorem F_12_3 : fld 0 3 12 = some (fI 13) := rfl
theorem F_12_4 : fld 0 4 12 = some (fI 14) := rfl
theorem F_12_5 : fld 0 5 12 = some (fI 15) := rfl
theorem sh_14 : sh 14 = .inl (1, [fR 15, fR 16, fI 16, fI 17, fR 17, fR 18, fR 19, fR 20, fI 18]) := rfl
theorem F_14_0 : fld 1 0 14 = some (fR 15) := rfl
theorem F_14_1 : fld 1 1 14 = some (fR 16) := rfl
theorem F_14_2 : fld 1 2 14 = some (fI 16) := rfl
theorem F_14_3 : fld 1 3 14 = some (fI 17) := rfl
theorem F_14_4 : fld 1 4 14 = some (fR 17) := rfl
theorem F_14_5 : fld 1 5 14 = some (fR 18) := rfl
theorem F_14_6 : fld 1 6 14 = some (fR 19) := rfl
theorem F_14_7 : fld 1 7 14 = some (fR 20) := rfl
theorem F_14_8 : fld 1 8 14 = some (fI 18) := rfl
theorem sh_21 : sh 21 = .inl (1, [fR 22, fR 23, fI 19, fI 20, fR 24, fR 25, fR 26, fR 27, fI 21]) := rfl
theorem F_21_0 : fld 1 0 21 = some (fR 22) := rfl
theorem F_21_1 : fld 1 1 21 = some (fR 23) := rfl
theorem F_21_2 : fld 1 2 21 = some (fI 19) := rfl
theorem F_21_3 : fld 1 3 21 = some (fI 20) := rfl
theorem F_21_4 : fld 1 4 21 = some (fR 24) := rfl
theorem F_21_5 : fld 1 5 21 = some (fR 25) := rfl
theorem F_21_6 : fld 1 6 21 = some (fR 26) := rfl
theorem F_21_7 : fld 1 7 21 = some (fR 27) := rfl
theorem F_21_8 : fld 1 8 21 = some (fI 21) := rfl
theorem sh_28 : sh 28 = .inl (1, [fR 29, fR 30, fI 22, fI 23, fR 31, fR 32, fR 33, fR 34, fI 24]) := rfl
theorem F_28_0 : fld 1 0 28 = some (fR 29) := rfl
theorem F_28_1 : fld 1 1 28 = some (fR 30) := rfl
theorem F_28_2 : fld 1 2 28 = some (fI 22) := rfl
theorem F_28_3 : fld 1 3 28 = some (fI 23) := rfl
theorem F_28_4 : fld 1 4 28 = some (fR 31) := rfl
theorem F_28_5 : fld 1 5 28 = some (fR 32) := rfl
theorem F_28_6 : fld 1 6 28 = some (fR 33) := rfl
theorem F_28_7 : fld 1 7 28 = some (fR 34) := rfl
theorem F_28_8 : fld 1 8 28 = some (fI 24) := rfl
theorem sh_35 : sh 35 = .inl (2, [fR 36]) := rfl
theorem F_35_0 : fld 2 0 35 = some (fR 36) := rfl
theorem sh_39 : sh 39 = .inl (5, [fL 1, fR 40, fI 25, fR 41, fR 42, fR 43, fR 44, fR 45, fI 26, fI 27, fI 28, fI 29, fR 46, fR 47]) := rfl
theorem F_39_0 : fld 5 0 39 = some (fL 1) := rfl
theorem F_39_1 : fld 5 1 39 = some (fR 40) := rfl
theorem F_39_2 : fld 5 2 39 = some (fI 25) := rfl
theorem F_39_3 : fld 5 3 39 = some (fR 41) := rfl
theorem F_39_4 : fld 5 4 39 = some (fR 42) := rfl
theorem F_39_5 : fld 5 5 39 = some (fR 43) := rfl
theorem F_39_6 : fld 5 6 39 = some (fR 44) := rfl
theorem F_39_7 : fld 5 7 39 = some (fR 45) := rfl
theorem F_39_8 : fld 5 8 39 = some (fI 26) := rfl
theorem F_39_9 : fld 5 9 39 = some (fI 27) := rfl
theorem F_39_10 : fld 5 10 39 = some (fI 28) := rfl
theorem F_39_11 : fld 5 11 39 = some (fI 29) := rfl
theorem F_39_12 : fld 5 12 39 = some (fR 46) := rfl
theorem F_39_13 : fld 5 13 39 = some (fR 47) := rfl
theorem A_2 : row 1 2 = some (300, 0) := rfl
theorem A_4 : row 0 4 = some (6, 1) := rfl
theorem A_6 : row 0 6 = some (8, 2) := rfl
theorem A_7 : row 0 7 = some (8, 3) := rfl
theorem A_8 : row 0 8 = some (10, 4) := rfl
theorem A_9 : row 0 9 = some (10, 5) := rfl
theorem A_10 : row 0 10 = some (10, 6) := rfl
theorem A_11 : row 0 11 = some (10, 7) := rfl
theorem A_13 : row 0 13 = some (6, 8) := rfl
theorem A_15 : row 0 15 = some (8, 9) := rfl
theorem A_16 : row 0 16 = some (8, 10) := rfl
theorem A_17 : row 0 17 = some (10, 11) := rfl
theorem A_18 : row 0 18 = some (10, 12) := rfl
theorem A_19 : row 0 19 = some (10, 13) := rfl
theorem A_20 : row 0 20 = some (10, 14) := rfl
theorem A_22 : row 0 22 = some (8, 15) := rfl
theorem A_23 : row 0 23 = some (8, 16) := rfl
theorem A_24 : row 0 24 = some (10, 17) := rfl
theorem A_25 : row 0 25 = some (10, 18) := rfl
theorem A_26 : row 0 26 = some (10, 19) := rfl
theorem A_27 : row 0 27 = some (10, 20) := rfl
theorem A_29 : row 0 29 = some (8, 21) := rfl
theorem A_30 : row 0 30 = some (8, 22) := rfl
theorem A_31 : row 0 31 = some (10, 23) := rfl
theorem A_32 : row 0 32 = some (10, 24) := rfl
theorem A_33 : row 0 33 = some (10, 25) := rfl
theorem A_34 : row 0 34 = some (10, 26) := rfl
theorem A_36 : row 0 36 = some (9, 27) := rfl
theorem A_37 : row 2 37 = some (512, 28) := rfl
theorem A_38 : row 0 38 = some (6, 29) := rfl
theorem A_40 : row 0 40 = some (300, 30) := rfl
theorem A_41 : row 0 41 = some (28, 31) := rfl
theorem A_42 : row 0 42 = some (28, 32) := rfl
theorem A_43 : row 0 43 = some (48, 33) := rfl
theorem A_44 : row 0 44 = some (96, 34) := rfl
theorem A_45 : row 2 45 = some (2, 35) := rfl
theorem A_46 : row 2 46 = some (512, 36) := rfl
theorem A_47 : row 2 47 = some (8192, 37) := rfl
def o_getf (ci j n : Nat) : OP := fun K lv st M => match st with
  | .inr (.inr k) :: st => match fld ci j k with
    | some f => K n lv (fav M f :: st) M
    | none => False
  | _ => False
def o_putI (ci j n : Nat) : OP := fun K lv st M => match st with
  | .inl x :: .inr (.inr k) :: st => match fld ci j k with
    | some (.inr (.inl i)) => K n lv st (sI i x M)
    | _ => False
  | _ => False
def o_putZ (ci j n : Nat) : OP := fun K lv st M => match st with
  | .inl x :: .inr (.inr k) :: st => match fld ci j k with
    | some (.inr (.inl i)) => (x = 0 ∨ x = 1) ∧ K n lv st (sI i x M)
    | _ => False
  | _ => False
def o_putL (ci j n : Nat) : OP := fun K lv st M => match st with
  | .inr (.inl x) :: .inr (.inr k) :: st => match fld ci j k with
    | some (.inr (.inr i)) => K n lv st (sL i x M)
    | _ => False
  | _ => False
def o_ald (t n : Nat) : OP := fun K lv st M => match st with
  | .inl i :: .inr (.inr k) :: st => match row t k with
    | some (z, a) => ∃ j : Nat, j < z ∧ i = nI j ∧ K n lv (VI (M.2.2 a j) :: st) M
    | none => False
  | _ => False
def o_ast (t : Nat) (g : Int32 → Int32) (n : Nat) : OP := fun K lv st M => match st with
  | .inl x :: .inl i :: .inr (.inr k) :: st => match row t k with
    | some (z, a) => ∃ j : Nat, j < z ∧ i = nI j ∧ K n lv st (sA a (upd (M.2.2 a) j (g x)) M)
    | none => False
  | _ => False
def o_alen (t n : Nat) : OP := fun K lv st M => match st with
  | .inr (.inr k) :: st => match row t k with
    | some (z, _) => K n lv (VI (nI z) :: st) M
    | none => False
  | _ => False
def popn : Nat → List AV → List AV → Option (List AV × List AV)
  | 0, as, st => some (as, st)
  | _ + 1, _, [] => none
  | n + 1, as, v :: st => popn n (v :: as) st
def rst (r : Option AV) (st : List AV) : List AV := match r with
  | some v => v :: st
  | none => st
/-- what follows a call -/
def kont (K : NX) (n : Nat) (lv : LV) (st : List AV) (r : Option AV) (M : AM) : Prop := K n lv (rst r st) M
/-- a call of an object's method: of one of the class ci; of a String; of no object -/
def o_callV (ci : Nat) (S : SP) (k n : Nat) : OP := fun K lv st M => match popn k [] st with
  | some (as, .inr (.inr b) :: st) => match sh b with
    | .inl o => match Nat.beq o.1 ci with
      | true => match Nat.ble (wsum st) 8 with
        | true => S (VR b :: as) M (kont K n lv st)
        | false => False
      | false => False
    | .inr _ => False
  | _ => False
def o_callT (S : SP) (k n : Nat) : OP := fun K lv st M => match popn k [] st with
  | some (as, .inr (.inr b) :: st) => match Nat.ble 100 b with
    | true => match Nat.ble b 103 with
      | true => match Nat.ble (wsum st) 8 with
        | true => S (VR b :: as) M (kont K n lv st)
        | false => False
      | false => False
    | false => False
  | _ => False
def o_callS (S : SP) (k n : Nat) : OP := fun K lv st M => match popn k [] st with
  | some (as, st) => match Nat.ble (wsum st) 8 with
    | true => S as M (kont K n lv st)
    | false => False
  | none => False
/-- a switch -/
def swx (K : NX) (lv : LV) (st : List AV) (M : AM) (d : Nat) (x : Int32) : List (Int32 × Nat) → Prop
  | [] => K d lv st M
  | q :: l => (x = q.1 → K q.2 lv st M) ∧ (¬ x = q.1 → swx K lv st M d x l)
def o_sw (l : List (Int32 × Nat)) (d : Nat) : OP := fun K lv st M => match st with
  | .inl x :: st => swx K lv st M d x l
  | _ => False
/-- ends -/
def o_ret (post : PO) : OP := fun _ _ st M => match st with
  | [] => post none M
  | _ => False
def o_iret (post : PO) : OP := fun _ _ st M => match st with
  | [.inl x] => post (some (VI x)) M
  | _ => False
def o_zret (post : PO) : OP := fun _ _ st M => match st with
  | [.inl x] => (x = 0 ∨ x = 1) ∧ post (some (VI x)) M
  | _ => False
def o_lret (post : PO) : OP := fun _ _ st M => match st with
  | [.inr (.inl x)] => post (some (VL x)) M
  | _ => False
def o_aret (post : PO) : OP := fun _ _ st M => match st with
  | [.inr (.inr k)] => match Nat.beq k 120 with | true => False | false => post (some (VR k)) M
  | _ => False
/-- a relation of states that an instruction's step keeps -/
def Snd (w : NX) (pc : Nat) (o : OP) : Prop := ∀ (K : NX), (∀ pc lv st M, K pc lv st M → w pc lv st M) → ∀ lv st M, o K lv st M → w pc lv st M
def SndL (w : NX) : List (Nat × OP) → Prop
  | [] => True
  | q :: l => Snd w q.1 q.2 ∧ SndL w l
def WK (w : NX) : Prop := ∀ pc lv lv' st M, lsub lv' lv → w pc lv' st M → w pc lv st M
/-- the walk: from here, all that the instructions allow comes to its end -/
def RUN (T : List (Nat × OP)) (pc : Nat) (lv : LV) (st : List AV) (M : AM) : Prop := ∀ w : NX, SndL w T → WK w → w pc lv st M
def lk : List (Nat × OP) → Nat → OP
  | [], _ => fun _ _ _ _ => False
  | q :: l, n => match Nat.beq q.1 n with | true => q.2 | false => lk l n
def cutIn : List Nat → Nat → Bool
  | [], _ => false
  | q :: l, n => match Nat.beq q n with | true => true | false => cutIn l n
def wp (T : List (Nat × OP)) (C : List Nat) (K : NX) : Nat → NX
  | 0, _, _, _, _ => False
  | f + 1, pc, lv, st, M => match cutIn C pc with | true => K pc lv st M | false => lk T pc (wp T C K f) lv st M
def wp1 (T : List (Nat × OP)) (C : List Nat) (K : NX) (f : Nat) : NX := fun pc lv st M => lk T pc (wp T C K f) lv st M
theorem wp_s (T : List (Nat × OP)) (C : List Nat) (K : NX) (f pc : Nat) (lv : LV) (st : List AV) (M : AM) : wp T C K (f + 1) pc lv st M = (match cutIn C pc with | true => K pc lv st M | false => lk T pc (wp T C K f) lv st M) := rfl
theorem snd_lk {w : NX} {T : List (Nat × OP)} (h : SndL w T) (pc : Nat) : Snd w pc (lk T pc) := by
  induction T with
  | nil => exact fun K _ lv st M hf => hf.elim
  | cons q l ih =>
    rw [lk]
    cases hq : Nat.beq q.1 pc with
    | true =>
      have e : q.1 = pc := Nat.eq_of_beq_eq_true hq
      rw [← e]
      exact h.1
    | false => exact ih h.2
theorem wp_snd {w : NX} {T : List (Nat × OP)} (h : SndL w T) (C : List Nat) (K : NX) (hK : ∀ pc lv st M, K pc lv st M → w pc lv st M) : ∀ f pc lv st M, wp T C K f pc lv st M → w pc lv st M := by
  intro f
  induction f with
  | zero => exact fun pc lv st M hf => hf.elim
  | succ f ih =>
    intro pc lv st M hf
    rw [wp] at hf
    cases hc : cutIn C pc with
    | true => rw [hc] at hf; exact hK pc lv st M hf
    | false => rw [hc] at hf; exact snd_lk h pc _ ih lv st M hf
/-- at a cut: some invariant of a smaller measure holds, of locals that are known -/
abbrev ATC (I : Nat → NX) (n : Nat) : NX := fun pc lv st M => ∃ lv' μ, lsub lv' lv ∧ μ < n ∧ I μ pc lv' st M
theorem run_cut {T : List (Nat × OP)} (C : List Nat) (I : Nat → NX) (f : Nat) (h : ∀ n pc lv st M, I n pc lv st M → wp1 T C (ATC I n) f pc lv st M) : ∀ n pc lv st M, I n pc lv st M → RUN T pc lv st M := by
  intro n
  induction n using Nat.strongRecOn with
  | ind n ih =>
    intro pc lv st M hI w hw hk
    refine snd_lk hw pc _ (wp_snd hw C (ATC I n) ?_ f) lv st M (h n pc lv st M hI)
    intro pc' lv1 st' M' hc
    obtain ⟨lv', μ, h1, h2, h3⟩ := hc
    exact hk _ _ _ _ _ h1 (ih μ h2 pc' lv' st' M' h3 w hw hk)
theorem run_of {T : List (Nat × OP)} (C : List Nat) (I : Nat → NX) (f N : Nat) {lv : LV} {st : List AV} {M : AM} {pc : Nat} (h : ∀ n pc lv st M, I n pc lv st M → wp1 T C (ATC I n) f pc lv st M) (h0 : wp1 T C (ATC I N) f pc lv st M) : RUN T pc lv st M := by
  intro w hw hk
  refine snd_lk hw pc _ (wp_snd hw C (ATC I N) ?_ f) lv st M h0
  intro pc' lv1 st' M' hc
  obtain ⟨lv', μ, h1, h2, h3⟩ := hc
  exact hk _ _ _ _ _ h1 (run_cut C I f h μ pc' lv' st' M' h3 w hw hk)
theorem run_wp {T : List (Nat × OP)} (f : Nat) {lv : LV} {st : List AV} {M : AM} {pc : Nat} (h0 : wp1 T [] (fun _ _ _ _ => False) f pc lv st M) : RUN T pc lv st M := by
  intro w hw hk
  exact snd_lk hw pc _ (wp_snd hw [] _ (fun _ _ _ _ h => h.elim) f) lv st M h0
