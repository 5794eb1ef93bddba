/-! Words by their places, the fields' words, small rows. -/
theorem tb_all {ws : List Cond} (is : List Nat) (h : is.map (fun i => lw_tbl[i]?) = ws.map some) (hg : ws.all goodWord = true) : ∀ w ∈ ws, w ∈ tb := by
  intro w hw
  obtain ⟨k, hk⟩ := List.getElem?_of_mem hw
  have h1 : (is.map (fun i => lw_tbl[i]?))[k]? = some (some w) := by rw [h, List.getElem?_map, hk]; rfl
  rw [List.getElem?_map] at h1
  cases hi : is[k]? with
  | none => rw [hi] at h1; cases h1
  | some i =>
    rw [hi] at h1
    exact tb_of i (Option.some.inj h1) (List.all_eq_true.mp hg w hw)
theorem inX0 : ∀ w ∈ u_ws RX0 TX0 6, w ∈ tb := tb_all [160, 162, 164, 166, 168, 170] (by decide +kernel) (by decide +kernel)
theorem inX1 : ∀ w ∈ u_ws RX1 TX1 9, w ∈ tb := tb_all [130, 132, 134, 136, 138, 140, 142, 144, 146] (by decide +kernel) (by decide +kernel)
theorem inX2 : ∀ w ∈ u_ws RX2 TX2 1, w ∈ tb := tb_all [182] (by decide +kernel) (by decide +kernel)
theorem inX3 : ∀ w ∈ u_ws RX3 TX3 6, w ∈ tb := tb_all [89, 91, 93, 95, 97, 99] (by decide +kernel) (by decide +kernel)
theorem inX4 : ∀ w ∈ u_ws RX4 TX4 9, w ∈ tb := tb_all [194, 196, 198, 200, 202, 204, 206, 208, 210] (by decide +kernel) (by decide +kernel)
theorem inX5 : ∀ w ∈ u_ws RX5 TX5 14, w ∈ tb := tb_all [647, 649, 651, 653, 655, 657, 659, 661, 663, 665, 667, 669, 671, 673] (by decide +kernel) (by decide +kernel)
theorem snd_c {w : NX} {pc : Nat} {o : OP} {l : List (Nat × OP)} (h : Snd w pc o) (t : SndL w l) : SndL w ((pc, o) :: l) := ⟨h, t⟩

/-- bits k < n of which P holds -/
def mk (P : Nat → Bool) : Nat → Nat
  | 0 => 0
  | n + 1 => if P n = true then mk P n ||| 2 ^ n else mk P n
theorem mk_lt (P : Nat → Bool) : ∀ n, mk P n < 2 ^ n := by
  intro n
  induction n with
  | zero => exact Nat.one_pos
  | succ n ih =>
    rw [mk]
    have h2 : 2 ^ n < 2 ^ (n + 1) := Nat.pow_lt_pow_right (by omega) (Nat.lt_succ_self n)
    split
    · exact Nat.or_lt_two_pow (Nat.lt_trans ih h2) h2
    · exact Nat.lt_trans ih h2
theorem mk_bit (P : Nat → Bool) : ∀ n k, (mk P n).testBit k = (decide (k < n) && P k) := by
  intro n
  induction n with
  | zero => intro k; simp [mk]
  | succ n ih =>
    intro k
    rw [mk]
    by_cases hk : k = n
    · subst hk
      split
      · rename_i h; rw [Nat.testBit_or, ih, Nat.testBit_two_pow_self, h]; simp
      · rename_i h; rw [ih]; simp at h; simp [h]
    · have e : decide (k < n + 1) = decide (k < n) := by
        by_cases h : k < n
        · simp [h, Nat.lt_succ_of_lt h]
        · simp [h, show ¬ k < n + 1 by omega]
      rw [e]
      split
      · rw [Nat.testBit_or, ih, Nat.testBit_two_pow_of_ne (Ne.symm hk), Bool.or_false]
      · exact ih k
/-! numbers of the machine -/
theorem nI_bv (n : Nat) : (nI n).toBitVec = BitVec.ofNat 32 n := rfl
theorem i_eq {a b : Int32} (h : a.toBitVec = b.toBitVec) : a = b := Int32.toBitVec_inj.mp h
theorem nI_and (a b : Nat) : nI a &&& nI b = nI (a &&& b) := i_eq (by rw [Int32.toBitVec_and, nI_bv, nI_bv, nI_bv, BitVec.ofNat_and])
theorem nI_or (a b : Nat) : nI a ||| nI b = nI (a ||| b) := i_eq (by rw [Int32.toBitVec_or, nI_bv, nI_bv, nI_bv, BitVec.ofNat_or])
theorem nI_xor (a b : Nat) : nI a ^^^ nI b = nI (a ^^^ b) := i_eq (by rw [Int32.toBitVec_xor, nI_bv, nI_bv, nI_bv, BitVec.ofNat_xor])
theorem sh31 : ∀ k, k < 32 → (((nI k &&& 31).toBitVec.smod 32).toNat = k) := by decide +kernel
theorem nI_shl {n k : Nat} (hk : k < 31) (h : n * 2 ^ k < 2 ^ 32) : nI n <<< (nI k &&& 31) = nI (n * 2 ^ k) := pk_shlN (nI k &&& 31) k (sh31 k (by omega)) h
theorem one_shl {k : Nat} (hk : k < 31) : (1 : Int32) <<< (nI k &&& 31) = nI (2 ^ k) := by
  have := nI_shl (n := 1) hk (by rw [Nat.one_mul]; exact Nat.pow_lt_pow_right (by omega) (by omega))
  rw [Nat.one_mul] at this
  exact this
theorem nI_shr {n k : Nat} (hn : n < 2 ^ 31) (hk : k < 32) : nI n >>> (nI k &&& 31) = nI (n >>> k) := by
  rw [Nat.shiftRight_eq_div_pow]
  exact pk_shrN hn (nI k &&& 31) k (sh31 k hk)
theorem and1 (n : Nat) : nI n &&& 1 = nI (n % 2) := by
  rw [show (1 : Int32) = nI 1 from rfl, nI_and, Nat.and_one_is_mod]
theorem tb_dec (n k : Nat) : n.testBit k = decide (n >>> k % 2 = 1) := by rw [Nat.testBit_eq_decide_div_mod_eq, Nat.shiftRight_eq_div_pow]
/-- a bit is asked -/
theorem bit_0 {n k : Nat} (hn : n < 2 ^ 31) (hk : k < 32) : ((nI n >>> (nI k &&& 31)) &&& 1 = 0) ↔ n.testBit k = false := by
  rw [nI_shr hn hk, and1]
  have h2 : (n >>> k) % 2 < 2 := Nat.mod_lt _ (by omega)
  rw [show (0 : Int32) = nI 0 from rfl, nI_eq (by omega) (by omega), tb_dec, decide_eq_false_iff_not]
  omega
theorem bit_1 {n k : Nat} (hn : n < 2 ^ 31) (hk : k < 32) : ((nI n >>> (nI k &&& 31)) &&& 1 = 1) ↔ n.testBit k = true := by
  rw [nI_shr hn hk, and1]
  have h2 : (n >>> k) % 2 < 2 := Nat.mod_lt _ (by omega)
  rw [show (1 : Int32) = nI 1 from rfl, nI_eq (by omega) (by omega), tb_dec, decide_eq_true_iff]
theorem n2p {k m : Nat} (h : k < m) : 2 ^ k < 2 ^ m := Nat.pow_lt_pow_right (by omega) h
theorem sA_self (a : Nat) (M : AM) : sA a (M.2.2 a) M = M := by
  have e : upN M.2.2 a (M.2.2 a) = M.2.2 := by
    funext b
    by_cases h : b = a
    · rw [h, upN_s]
    · rw [upN_n _ _ h]
  unfold sA
  rw [e]
theorem rdI1 (i : Nat) (x : Int32) (M : AM) : (sI i x M).1 = upN M.1 i x := rfl
theorem rdI2 (i : Nat) (x : Int32) (M : AM) : (sI i x M).2 = M.2 := rfl
theorem rdA1 (a : Nat) (f : Nat → Int32) (M : AM) : (sA a f M).1 = M.1 := rfl
theorem rdA21 (a : Nat) (f : Nat → Int32) (M : AM) : (sA a f M).2.1 = M.2.1 := rfl
theorem rdA22 (a : Nat) (f : Nat → Int32) (M : AM) : (sA a f M).2.2 = upN M.2.2 a f := rfl
theorem rdL1 (i : Nat) (x : Int64) (M : AM) : (sL i x M).1 = M.1 := rfl
theorem rdL22 (i : Nat) (x : Int64) (M : AM) : (sL i x M).2.2 = M.2.2 := rfl
theorem rdL21 (i : Nat) (x : Int64) (M : AM) : (sL i x M).2.1 = upN M.2.1 i x := rfl
theorem upN_at {α : Type} (f : Nat → α) (k : Nat) (x : α) (j : Nat) : upN f k x j = match Nat.beq j k with | true => x | false => f j := rfl
theorem vi_eq {a b : Int32} (h : a = b) : some (VI a) = some (VI b) := by rw [h]
theorem cut {I : Nat → NX} {n pc : Nat} {lv : LV} {st : List AV} {M : AM} (lv' : LV) (μ : Nat) (hI : I μ pc lv' st M) (hμ : μ < n) (hl : lsub lv' lv) : ATC I n pc lv st M := ⟨lv', μ, hl, hμ, hI⟩
theorem m1 (x : Int32) : x + (-1) = x - 1 := (Int32.sub_eq_add_neg x 1).symm
theorem cnt0 : nI 0 - 1 < 0 := by decide
theorem upN_sn {α : Type} (F : Nat → α) {a b : Nat} (f g : α) (h : a < b) : upN (upN F a g) b f = upN (upN F b f) a g := by
  funext c
  by_cases h1 : c = a
  · subst h1
    rw [upN_n _ _ (by omega), upN_s, upN_s]
  · by_cases h2 : c = b
    · subst h2
      rw [upN_s, upN_n _ _ h1, upN_s]
    · rw [upN_n _ _ h2, upN_n _ _ h1, upN_n _ _ h1, upN_n _ _ h2]
theorem upN_ss {α : Type} (F : Nat → α) (a : Nat) (f g : α) : upN (upN F a g) a f = upN F a f := by
  funext c
  by_cases h1 : c = a
  · subst h1
    rw [upN_s, upN_s]
  · rw [upN_n _ _ h1, upN_n _ _ h1, upN_n _ _ h1]
/-- memory in one order: rows outside, the smallest first; then ints -/
theorem sA_sA (a : Nat) (f g : Nat → Int32) (M : AM) : sA a f (sA a g M) = sA a f M := by
  show (M.1, M.2.1, upN (upN M.2.2 a g) a f) = (M.1, M.2.1, upN M.2.2 a f)
  rw [upN_ss]
theorem sA_cm {a b : Nat} (h : a < b) (f g : Nat → Int32) (M : AM) : sA b f (sA a g M) = sA a g (sA b f M) := by
  show (M.1, M.2.1, upN (upN M.2.2 a g) b f) = (M.1, M.2.1, upN (upN M.2.2 b f) a g)
  rw [upN_sn _ _ _ h]
theorem sI_sA (i : Nat) (x : Int32) (a : Nat) (f : Nat → Int32) (M : AM) : sI i x (sA a f M) = sA a f (sI i x M) := rfl
theorem sI_sI (a : Nat) (f g : Int32) (M : AM) : sI a f (sI a g M) = sI a f M := by
  show (upN (upN M.1 a g) a f, M.2) = (upN M.1 a f, M.2)
  rw [upN_ss]
theorem sI_cm {a b : Nat} (h : a < b) (f g : Int32) (M : AM) : sI b f (sI a g M) = sI a g (sI b f M) := by
  show (upN (upN M.1 a g) b f, M.2) = (upN (upN M.1 b f) a g, M.2)
  rw [upN_sn _ _ _ h]
theorem sL_sA (i : Nat) (x : Int64) (a : Nat) (f : Nat → Int32) (M : AM) : sL i x (sA a f M) = sA a f (sL i x M) := rfl
theorem sL_sI (i : Nat) (x : Int64) (a : Nat) (f : Int32) (M : AM) : sL i x (sI a f M) = sI a f (sL i x M) := rfl
theorem sL_sL (a : Nat) (f g : Int64) (M : AM) : sL a f (sL a g M) = sL a f M := by
  show (M.1, upN (upN M.2.1 a g) a f, M.2.2) = (M.1, upN M.2.1 a f, M.2.2)
  rw [upN_ss]
theorem sL_cm {a b : Nat} (h : a < b) (f g : Int64) (M : AM) : sL b f (sL a g M) = sL a g (sL b f M) := by
  show (M.1, upN (upN M.2.1 a g) b f, M.2.2) = (M.1, upN (upN M.2.1 b f) a g, M.2.2)
  rw [upN_sn _ _ _ h]
theorem sI_self (a : Nat) (M : AM) : sI a (M.1 a) M = M := by
  have e : upN M.1 a (M.1 a) = M.1 := by
    funext b
    by_cases h : b = a
    · rw [h, upN_s]
    · rw [upN_n _ _ h]
  unfold sI
  rw [e]
/-- the first m moved down by one -/
def shf (f : Nat → Int32) (m : Nat) : Nat → Int32 := fun j => if j < m then f (j + 1) else f j
/-- the first m of g -/
def cpy (f g : Nat → Int32) (m : Nat) : Nat → Int32 := fun j => if j < m then g j else f j
theorem shf_0 (f : Nat → Int32) : shf f 0 = f := by funext j; simp [shf]
theorem shf_s (f : Nat → Int32) (m : Nat) : upd (shf f m) m (shf f m (m + 1)) = shf f (m + 1) := by
  funext j
  unfold upd shf
  by_cases h : j = m
  · subst h; simp [show ¬ j + 1 < j by omega]
  · by_cases h2 : j < m
    · simp [h, h2, show j < m + 1 by omega]
    · simp [h, h2, show ¬ j < m + 1 by omega]
theorem cpy_0 (f g : Nat → Int32) : cpy f g 0 = f := by funext j; simp [cpy]
theorem cpy_s (f g : Nat → Int32) (m : Nat) : upd (cpy f g m) m (g m) = cpy f g (m + 1) := by
  funext j
  unfold upd cpy
  by_cases h : j = m
  · subst h; simp
  · by_cases h2 : j < m
    · simp [h, h2, show j < m + 1 by omega]
    · simp [h, h2, show ¬ j < m + 1 by omega]
/-- four rows of a ring -/
def o4 (d : Nat) (f0 f1 f2 f3 : Nat → Int32) (M : AM) : AM := sA d f0 (sA (d + 1) f1 (sA (d + 2) f2 (sA (d + 3) f3 M)))
theorem sA_id {a : Nat} {f : Nat → Int32} {M : AM} (h : M.2.2 a = f) : sA a f M = M := by rw [← h, sA_self]
theorem sI_id {a : Nat} {x : Int32} {M : AM} (h : M.1 a = x) : sI a x M = M := by rw [← h, sI_self]
