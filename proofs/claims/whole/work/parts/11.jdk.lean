/-! What is reached of the JDK: bitCount, a text's length and signs. -/
def o_svalue (n : Nat) : OP := fun K lv st M => match st with
  | .inr (.inr k) :: st => match Nat.ble 100 k with
    | true => match Nat.ble k 103 with
      | true => K n lv (VR (k + 10) :: st) M
      | false => False
    | false => False
  | _ => False
def o_scoder (n : Nat) : OP := fun K lv st M => match st with
  | .inr (.inr k) :: st => match Nat.ble 100 k with
    | true => match Nat.ble k 103 with
      | true => K n lv (VI 0 :: st) M
      | false => False
    | false => False
  | _ => False
def o_slen (n : Nat) : OP := fun K lv st M => match st with
  | .inr (.inr k) :: st => match Nat.ble 110 k with
    | true => match Nat.ble k 113 with
      | true => K n lv (VI (nI (lenS.getD (k - 110) 0)) :: st) M
      | false => False
    | false => False
  | _ => False
def o_sbyte (n : Nat) : OP := fun K lv st M => match st with
  | .inl i :: .inr (.inr k) :: st => match Nat.ble 110 k with
    | true => match Nat.ble k 113 with
      | true => ∃ j : Nat, j < lenS.getD (k - 110) 0 ∧ i = nI j ∧ K n lv (VI ((bytS.getD (k - 110) []).getD j 0) :: st) M
      | false => False
    | false => False
  | _ => False
section JSTEPS
variable {p : Program} {l : Launch} {e : Env} {R : Room} {s : State} {m : MethodId} {args : Array Value} {below : List Frame} {meth : Method} {c : Code} {cells slots : Nat} {Q : State → Prop} {nL : Nat} {D : va_G} {dA : Nat → ClassId} {ad : Nat → Nat} {A : Nat → Prop} {cc : ByteArray} {own : String} {pc : Nat}
theorem s_svalue (C : CX p s m args meth c cc nL own D dA ad A) {idx : Nat} (hw : Cond.fieldLink own idx "java/lang/String" "value" "[B" ∈ tb) (hd : decode cc pc = .ok (.getfield idx, 3)) : Snd (WW p l e R s m args below meth c cells slots Q nL D dA ad A) pc (o_svalue (pc + 3)) := by
  intro K hK lv st M h H locs ls hP hS hL
  unfold o_svalue at h
  split at h
  · rename_i k st'
    split at h
    case h_2 => exact h.elim
    rename_i h1
    split at h
    case h_2 => exact h.elim
    rename_i h2
    have h1 := Nat.le_of_ble_eq_true h1
    have h2 := Nat.le_of_ble_eq_true h2
    obtain ⟨i, rfl⟩ : ∃ i, k = 100 + i := ⟨k - 100, by omega⟩
    obtain ⟨-, -, hv, -⟩ := C.2.2.2.2.2.2.2.1.1.1 i (by omega)
    have h3 := hK _ _ _ _ h H locs ls hP hS hL
    rw [List.map_cons, kv_ref (by omega), show 100 + i + 10 = 110 + i by omega] at h3
    show W p l e R s m args below meth c H locs cells slots Q (F0 m pc ls (kv ad (VR (100 + i)) :: st'.map (kv ad)))
    rw [kv_ref (by omega)]
    exact vk_getf C.1 C.2.1 hv hS C.2.2.2.1 (C.2.2.2.2.1 _ hw) (fun _ h9 => h9) hd h3
  · exact h.elim
theorem s_scoder (C : CX p s m args meth c cc nL own D dA ad A) {idx : Nat} (hw : Cond.fieldLink own idx "java/lang/String" "coder" "B" ∈ tb) (hd : decode cc pc = .ok (.getfield idx, 3)) : Snd (WW p l e R s m args below meth c cells slots Q nL D dA ad A) pc (o_scoder (pc + 3)) := by
  intro K hK lv st M h H locs ls hP hS hL
  unfold o_scoder at h
  split at h
  · rename_i k st'
    split at h
    case h_2 => exact h.elim
    rename_i h1
    split at h
    case h_2 => exact h.elim
    rename_i h2
    have h1 := Nat.le_of_ble_eq_true h1
    have h2 := Nat.le_of_ble_eq_true h2
    obtain ⟨i, rfl⟩ : ∃ i, k = 100 + i := ⟨k - 100, by omega⟩
    obtain ⟨-, hv, -, -⟩ := C.2.2.2.2.2.2.2.1.1.1 i (by omega)
    have h3 := hK _ _ _ _ h H locs ls hP hS hL
    show W p l e R s m args below meth c H locs cells slots Q (F0 m pc ls (kv ad (VR (100 + i)) :: st'.map (kv ad)))
    rw [kv_ref (by omega)]
    exact vk_getf C.1 C.2.1 hv hS C.2.2.2.1 (C.2.2.2.2.1 _ hw) (fun _ h9 => h9) hd h3
  · exact h.elim
theorem s_slen (C : CX p s m args meth c cc nL own D dA ad A) (hd : decode cc pc = .ok (.arraylength, 1)) : Snd (WW p l e R s m args below meth c cells slots Q nL D dA ad A) pc (o_slen (pc + 1)) := by
  intro K hK lv st M h H locs ls hP hS hL
  unfold o_slen at h
  split at h
  · rename_i k st'
    split at h
    case h_2 => exact h.elim
    rename_i h1
    split at h
    case h_2 => exact h.elim
    rename_i h2
    have h1 := Nat.le_of_ble_eq_true h1
    have h2 := Nat.le_of_ble_eq_true h2
    obtain ⟨i, rfl⟩ : ∃ i, k = 110 + i := ⟨k - 110, by omega⟩
    obtain ⟨-, -, -, hv⟩ := C.2.2.2.2.2.2.2.1.1.1 i (by omega)
    have h3 := hK _ _ _ _ h H locs ls hP hS hL
    show W p l e R s m args below meth c H locs cells slots Q (F0 m pc ls (kv ad (VR (110 + i)) :: st'.map (kv ad)))
    rw [kv_ref (by omega)]
    rw [show 110 + i - 110 = i by omega] at h3
    exact va_tlen C.1 C.2.1 hv hS rfl hd h3
  · exact h.elim
theorem s_sbyte (C : CX p s m args meth c cc nL own D dA ad A) (hd : decode cc pc = .ok (.baload, 1)) : Snd (WW p l e R s m args below meth c cells slots Q nL D dA ad A) pc (o_sbyte (pc + 1)) := by
  intro K hK lv st M h H locs ls hP hS hL
  unfold o_sbyte at h
  split at h
  · rename_i ix k st'
    split at h
    case h_2 => exact h.elim
    rename_i h1
    split at h
    case h_2 => exact h.elim
    rename_i h2
    have h1 := Nat.le_of_ble_eq_true h1
    have h2 := Nat.le_of_ble_eq_true h2
    obtain ⟨i, rfl⟩ : ∃ i, k = 110 + i := ⟨k - 110, by omega⟩
    obtain ⟨-, -, -, hv⟩ := C.2.2.2.2.2.2.2.1.1.1 i (by omega)
    rw [show 110 + i - 110 = i by omega] at h
    obtain ⟨j, hj, rfl, h⟩ := h
    have hz : ∀ q, q < 4 → lenS.getD q 0 < 10 := by decide
    have hz2 : lenS.getD i 0 < 2 ^ 31 := Nat.lt_trans (hz i (by omega)) (by omega)
    have h3 := hK _ _ _ _ h H locs ls hP hS hL
    show W p l e R s m args below meth c H locs cells slots Q (F0 m pc ls (.int (nI j) :: kv ad (VR (110 + i)) :: st'.map (kv ad)))
    rw [kv_ref (by omega)]
    exact va_tb C.1 C.2.1 hv hS (vp_in_nI hj hz2) (by rw [nI_clamp (by omega)]; rfl) hd h3
  · exact h.elim
theorem s_compact (C : CX p s m args meth c cc nL own D dA ad A) {idx : Nat} (hw : Cond.fieldLink own idx "java/lang/String" "COMPACT_STRINGS" "Z" ∈ tb) (hd : decode cc pc = .ok (.getstatic idx, 3)) : Snd (WW p l e R s m args below meth c cells slots Q nL D dA ad A) pc (o_const 1 (pc + 3)) :=
  fun _ hK _ _ _ h H locs ls hP hS hL => va_gets C.1 C.2.1 C.2.2.2.2.2.2.2.1.2.2.1 hS C.2.2.2.1 (C.2.2.2.2.1 _ hw) (fun _ h9 => h9) hd (hK _ _ _ _ h H locs ls hP hS hL)
theorem s_sioobe (C : CX p s m args meth c cc nL own D dA ad A) {idx : Nat} (hw : Cond.fieldLink own idx "jdk/internal/util/Preconditions" "SIOOBE_FORMATTER" "Ljava/util/function/BiFunction;" ∈ tb) (hd : decode cc pc = .ok (.getstatic idx, 3)) : Snd (WW p l e R s m args below meth c cells slots Q nL D dA ad A) pc (o_ref 120 (pc + 3)) :=
  fun _ hK _ _ _ h H locs ls hP hS hL => va_gets C.1 C.2.1 C.2.2.2.2.2.2.2.1.2.2.2 hS C.2.2.2.1 (C.2.2.2.2.1 _ hw) (fun _ h9 => h9) hd (hK _ _ _ _ h H locs ls hP hS hL)
end JSTEPS
/-- how many of the first n bits are set -/
def cn (T : Nat) : Nat → Nat
  | 0 => 0
  | n + 1 => cn T n + (if T.testBit n = true then 1 else 0)
def bcI (x : Int32) : Int32 :=
  let u (x : Int32) (k : Int32) : Int32 := (x.toUInt32 >>> (k.toUInt32 &&& Int32.toUInt32 31)).toInt32
  let a := x - (u x 1 &&& 1431655765)
  let b := (a &&& 858993459) + (u a 2 &&& 858993459)
  let c := (b + u b 4) &&& 252645135
  let d := c + u c 8
  let e := d + u d 16
  e &&& 63
theorem bc_ok : ∀ n, n < 512 → bcI (nI n) = nI (cn n 9) := by decide +kernel
def S_J6_bitCount_0f7a4 : SP := fun as M post => ∃ n, as = [VI (nI n)] ∧ n < 512 ∧ post (some (VI (nI (cn n 9)))) M
def S_J0_coder_7d493 : SP := fun as M post => ∃ i, as = [VR (100 + i)] ∧ i < 4 ∧ post (some (VI 0)) M
def S_J0_isLatin1_aae02 : SP := fun as M post => ∃ i, as = [VR (100 + i)] ∧ i < 4 ∧ post (some (VI 1)) M
def S_J0_length_8abf5 : SP := fun as M post => ∃ i, as = [VR (100 + i)] ∧ i < 4 ∧ post (some (VI (nI (lenS.getD i 0)))) M
def S_J3_checkIndex_8e157 : SP := fun as M post => ∃ a b, as = [VI (nI a), VI (nI b), VR 120] ∧ a < b ∧ b < 2 ^ 31 ∧ post (some (VI (nI a))) M
def S_J0_checkIndex_df160 : SP := fun as M post => ∃ a b, as = [VI (nI a), VI (nI b)] ∧ a < b ∧ b < 2 ^ 31 ∧ post none M
def S_J1_charAt_3b067 : SP := fun as M post => ∃ i j, as = [VR (110 + i), VI (nI j)] ∧ i < 4 ∧ j < lenS.getD i 0 ∧ post (some (VI ((bytS.getD i []).getD j 0))) M
def S_J0_charAt_5068e : SP := fun as M post => ∃ i j, as = [VR (100 + i), VI (nI j)] ∧ i < 4 ∧ j < lenS.getD i 0 ∧ post (some (VI ((bytS.getD i []).getD j 0))) M
theorem ct_RJ6_265 : Cond.constant RJ6 265 (1431655765) ∈ tb := tb_of 472 (by decide +kernel) (by decide +kernel)
theorem ct_RJ6_266 : Cond.constant RJ6 266 (858993459) ∈ tb := tb_of 473 (by decide +kernel) (by decide +kernel)
theorem ct_RJ6_267 : Cond.constant RJ6 267 (252645135) ∈ tb := tb_of 474 (by decide +kernel) (by decide +kernel)
theorem dJ6_bitCount_0f7a4_0 : decode cJ6_bitCount_0f7a4 0 = .ok (.iload_n 0, 1) := by decide +kernel
theorem dJ6_bitCount_0f7a4_1 : decode cJ6_bitCount_0f7a4 1 = .ok (.iload_n 0, 1) := by decide +kernel
theorem dJ6_bitCount_0f7a4_2 : decode cJ6_bitCount_0f7a4 2 = .ok (.iconst 1, 1) := by decide +kernel
theorem dJ6_bitCount_0f7a4_3 : decode cJ6_bitCount_0f7a4 3 = .ok (.iushr, 1) := by decide +kernel
theorem dJ6_bitCount_0f7a4_4 : decode cJ6_bitCount_0f7a4 4 = .ok (.ldc_w 265, 3) := by decide +kernel
theorem dJ6_bitCount_0f7a4_7 : decode cJ6_bitCount_0f7a4 7 = .ok (.iand, 1) := by decide +kernel
theorem dJ6_bitCount_0f7a4_8 : decode cJ6_bitCount_0f7a4 8 = .ok (.isub, 1) := by decide +kernel
theorem dJ6_bitCount_0f7a4_9 : decode cJ6_bitCount_0f7a4 9 = .ok (.istore_n 0, 1) := by decide +kernel
theorem dJ6_bitCount_0f7a4_10 : decode cJ6_bitCount_0f7a4 10 = .ok (.iload_n 0, 1) := by decide +kernel
theorem dJ6_bitCount_0f7a4_11 : decode cJ6_bitCount_0f7a4 11 = .ok (.ldc_w 266, 3) := by decide +kernel
theorem dJ6_bitCount_0f7a4_14 : decode cJ6_bitCount_0f7a4 14 = .ok (.iand, 1) := by decide +kernel
theorem dJ6_bitCount_0f7a4_15 : decode cJ6_bitCount_0f7a4 15 = .ok (.iload_n 0, 1) := by decide +kernel
theorem dJ6_bitCount_0f7a4_16 : decode cJ6_bitCount_0f7a4 16 = .ok (.iconst 2, 1) := by decide +kernel
theorem dJ6_bitCount_0f7a4_17 : decode cJ6_bitCount_0f7a4 17 = .ok (.iushr, 1) := by decide +kernel
theorem dJ6_bitCount_0f7a4_18 : decode cJ6_bitCount_0f7a4 18 = .ok (.ldc_w 266, 3) := by decide +kernel
theorem dJ6_bitCount_0f7a4_21 : decode cJ6_bitCount_0f7a4 21 = .ok (.iand, 1) := by decide +kernel
theorem dJ6_bitCount_0f7a4_22 : decode cJ6_bitCount_0f7a4 22 = .ok (.iadd, 1) := by decide +kernel
theorem dJ6_bitCount_0f7a4_23 : decode cJ6_bitCount_0f7a4 23 = .ok (.istore_n 0, 1) := by decide +kernel
theorem dJ6_bitCount_0f7a4_24 : decode cJ6_bitCount_0f7a4 24 = .ok (.iload_n 0, 1) := by decide +kernel
theorem dJ6_bitCount_0f7a4_25 : decode cJ6_bitCount_0f7a4 25 = .ok (.iload_n 0, 1) := by decide +kernel
theorem dJ6_bitCount_0f7a4_26 : decode cJ6_bitCount_0f7a4 26 = .ok (.iconst 4, 1) := by decide +kernel
theorem dJ6_bitCount_0f7a4_27 : decode cJ6_bitCount_0f7a4 27 = .ok (.iushr, 1) := by decide +kernel
theorem dJ6_bitCount_0f7a4_28 : decode cJ6_bitCount_0f7a4 28 = .ok (.iadd, 1) := by decide +kernel
theorem dJ6_bitCount_0f7a4_29 : decode cJ6_bitCount_0f7a4 29 = .ok (.ldc_w 267, 3) := by decide +kernel
theorem dJ6_bitCount_0f7a4_32 : decode cJ6_bitCount_0f7a4 32 = .ok (.iand, 1) := by decide +kernel
theorem dJ6_bitCount_0f7a4_33 : decode cJ6_bitCount_0f7a4 33 = .ok (.istore_n 0, 1) := by decide +kernel
theorem dJ6_bitCount_0f7a4_34 : decode cJ6_bitCount_0f7a4 34 = .ok (.iload_n 0, 1) := by decide +kernel
theorem dJ6_bitCount_0f7a4_35 : decode cJ6_bitCount_0f7a4 35 = .ok (.iload_n 0, 1) := by decide +kernel
theorem dJ6_bitCount_0f7a4_36 : decode cJ6_bitCount_0f7a4 36 = .ok (.bipush 8, 2) := by decide +kernel
theorem dJ6_bitCount_0f7a4_38 : decode cJ6_bitCount_0f7a4 38 = .ok (.iushr, 1) := by decide +kernel
theorem dJ6_bitCount_0f7a4_39 : decode cJ6_bitCount_0f7a4 39 = .ok (.iadd, 1) := by decide +kernel
theorem dJ6_bitCount_0f7a4_40 : decode cJ6_bitCount_0f7a4 40 = .ok (.istore_n 0, 1) := by decide +kernel
theorem dJ6_bitCount_0f7a4_41 : decode cJ6_bitCount_0f7a4 41 = .ok (.iload_n 0, 1) := by decide +kernel
theorem dJ6_bitCount_0f7a4_42 : decode cJ6_bitCount_0f7a4 42 = .ok (.iload_n 0, 1) := by decide +kernel
theorem dJ6_bitCount_0f7a4_43 : decode cJ6_bitCount_0f7a4 43 = .ok (.bipush 16, 2) := by decide +kernel
theorem dJ6_bitCount_0f7a4_45 : decode cJ6_bitCount_0f7a4 45 = .ok (.iushr, 1) := by decide +kernel
theorem dJ6_bitCount_0f7a4_46 : decode cJ6_bitCount_0f7a4 46 = .ok (.iadd, 1) := by decide +kernel
theorem dJ6_bitCount_0f7a4_47 : decode cJ6_bitCount_0f7a4 47 = .ok (.istore_n 0, 1) := by decide +kernel
theorem dJ6_bitCount_0f7a4_48 : decode cJ6_bitCount_0f7a4 48 = .ok (.iload_n 0, 1) := by decide +kernel
theorem dJ6_bitCount_0f7a4_49 : decode cJ6_bitCount_0f7a4 49 = .ok (.bipush 63, 2) := by decide +kernel
theorem dJ6_bitCount_0f7a4_51 : decode cJ6_bitCount_0f7a4 51 = .ok (.iand, 1) := by decide +kernel
theorem dJ6_bitCount_0f7a4_52 : decode cJ6_bitCount_0f7a4 52 = .ok (.ireturn, 1) := by decide +kernel
def T_J6_bitCount_0f7a4 (post : PO) : List (Nat × OP) := [(0, o_iload 0 1), (1, o_iload 0 2), (2, o_const 1 3), (3, o_bin (fun x y => (x.toUInt32 >>> (y.toUInt32 &&& Int32.toUInt32 31)).toInt32) 4), (4, o_const 1431655765 7), (7, o_bin (fun x y => x &&& y) 8), (8, o_bin (fun x y => x - y) 9), (9, o_istore 0 10), (10, o_iload 0 11), (11, o_const 858993459 14), (14, o_bin (fun x y => x &&& y) 15), (15, o_iload 0 16), (16, o_const 2 17), (17, o_bin (fun x y => (x.toUInt32 >>> (y.toUInt32 &&& Int32.toUInt32 31)).toInt32) 18), (18, o_const 858993459 21), (21, o_bin (fun x y => x &&& y) 22), (22, o_bin (fun x y => x + y) 23), (23, o_istore 0 24), (24, o_iload 0 25), (25, o_iload 0 26), (26, o_const 4 27), (27, o_bin (fun x y => (x.toUInt32 >>> (y.toUInt32 &&& Int32.toUInt32 31)).toInt32) 28), (28, o_bin (fun x y => x + y) 29), (29, o_const 252645135 32), (32, o_bin (fun x y => x &&& y) 33), (33, o_istore 0 34), (34, o_iload 0 35), (35, o_iload 0 36), (36, o_const 8 38), (38, o_bin (fun x y => (x.toUInt32 >>> (y.toUInt32 &&& Int32.toUInt32 31)).toInt32) 39), (39, o_bin (fun x y => x + y) 40), (40, o_istore 0 41), (41, o_iload 0 42), (42, o_iload 0 43), (43, o_const 16 45), (45, o_bin (fun x y => (x.toUInt32 >>> (y.toUInt32 &&& Int32.toUInt32 31)).toInt32) 46), (46, o_bin (fun x y => x + y) 47), (47, o_istore 0 48), (48, o_iload 0 49), (49, o_const 63 51), (51, o_bin (fun x y => x &&& y) 52), (52, o_iret post)]
theorem k_J6_bitCount_0f7a4_0 (post : PO) : lk (T_J6_bitCount_0f7a4 post) 0 = o_iload 0 1 := rfl
theorem k_J6_bitCount_0f7a4_1 (post : PO) : lk (T_J6_bitCount_0f7a4 post) 1 = o_iload 0 2 := rfl
theorem k_J6_bitCount_0f7a4_2 (post : PO) : lk (T_J6_bitCount_0f7a4 post) 2 = o_const 1 3 := rfl
theorem k_J6_bitCount_0f7a4_3 (post : PO) : lk (T_J6_bitCount_0f7a4 post) 3 = o_bin (fun x y => (x.toUInt32 >>> (y.toUInt32 &&& Int32.toUInt32 31)).toInt32) 4 := rfl
theorem k_J6_bitCount_0f7a4_4 (post : PO) : lk (T_J6_bitCount_0f7a4 post) 4 = o_const 1431655765 7 := rfl
theorem k_J6_bitCount_0f7a4_7 (post : PO) : lk (T_J6_bitCount_0f7a4 post) 7 = o_bin (fun x y => x &&& y) 8 := rfl
theorem k_J6_bitCount_0f7a4_8 (post : PO) : lk (T_J6_bitCount_0f7a4 post) 8 = o_bin (fun x y => x - y) 9 := rfl
theorem k_J6_bitCount_0f7a4_9 (post : PO) : lk (T_J6_bitCount_0f7a4 post) 9 = o_istore 0 10 := rfl
theorem k_J6_bitCount_0f7a4_10 (post : PO) : lk (T_J6_bitCount_0f7a4 post) 10 = o_iload 0 11 := rfl
theorem k_J6_bitCount_0f7a4_11 (post : PO) : lk (T_J6_bitCount_0f7a4 post) 11 = o_const 858993459 14 := rfl
theorem k_J6_bitCount_0f7a4_14 (post : PO) : lk (T_J6_bitCount_0f7a4 post) 14 = o_bin (fun x y => x &&& y) 15 := rfl
theorem k_J6_bitCount_0f7a4_15 (post : PO) : lk (T_J6_bitCount_0f7a4 post) 15 = o_iload 0 16 := rfl
theorem k_J6_bitCount_0f7a4_16 (post : PO) : lk (T_J6_bitCount_0f7a4 post) 16 = o_const 2 17 := rfl
theorem k_J6_bitCount_0f7a4_17 (post : PO) : lk (T_J6_bitCount_0f7a4 post) 17 = o_bin (fun x y => (x.toUInt32 >>> (y.toUInt32 &&& Int32.toUInt32 31)).toInt32) 18 := rfl
theorem k_J6_bitCount_0f7a4_18 (post : PO) : lk (T_J6_bitCount_0f7a4 post) 18 = o_const 858993459 21 := rfl
theorem k_J6_bitCount_0f7a4_21 (post : PO) : lk (T_J6_bitCount_0f7a4 post) 21 = o_bin (fun x y => x &&& y) 22 := rfl
theorem k_J6_bitCount_0f7a4_22 (post : PO) : lk (T_J6_bitCount_0f7a4 post) 22 = o_bin (fun x y => x + y) 23 := rfl
theorem k_J6_bitCount_0f7a4_23 (post : PO) : lk (T_J6_bitCount_0f7a4 post) 23 = o_istore 0 24 := rfl
theorem k_J6_bitCount_0f7a4_24 (post : PO) : lk (T_J6_bitCount_0f7a4 post) 24 = o_iload 0 25 := rfl
theorem k_J6_bitCount_0f7a4_25 (post : PO) : lk (T_J6_bitCount_0f7a4 post) 25 = o_iload 0 26 := rfl
theorem k_J6_bitCount_0f7a4_26 (post : PO) : lk (T_J6_bitCount_0f7a4 post) 26 = o_const 4 27 := rfl
theorem k_J6_bitCount_0f7a4_27 (post : PO) : lk (T_J6_bitCount_0f7a4 post) 27 = o_bin (fun x y => (x.toUInt32 >>> (y.toUInt32 &&& Int32.toUInt32 31)).toInt32) 28 := rfl
theorem k_J6_bitCount_0f7a4_28 (post : PO) : lk (T_J6_bitCount_0f7a4 post) 28 = o_bin (fun x y => x + y) 29 := rfl
theorem k_J6_bitCount_0f7a4_29 (post : PO) : lk (T_J6_bitCount_0f7a4 post) 29 = o_const 252645135 32 := rfl
theorem k_J6_bitCount_0f7a4_32 (post : PO) : lk (T_J6_bitCount_0f7a4 post) 32 = o_bin (fun x y => x &&& y) 33 := rfl
theorem k_J6_bitCount_0f7a4_33 (post : PO) : lk (T_J6_bitCount_0f7a4 post) 33 = o_istore 0 34 := rfl
theorem k_J6_bitCount_0f7a4_34 (post : PO) : lk (T_J6_bitCount_0f7a4 post) 34 = o_iload 0 35 := rfl
theorem k_J6_bitCount_0f7a4_35 (post : PO) : lk (T_J6_bitCount_0f7a4 post) 35 = o_iload 0 36 := rfl
theorem k_J6_bitCount_0f7a4_36 (post : PO) : lk (T_J6_bitCount_0f7a4 post) 36 = o_const 8 38 := rfl
theorem k_J6_bitCount_0f7a4_38 (post : PO) : lk (T_J6_bitCount_0f7a4 post) 38 = o_bin (fun x y => (x.toUInt32 >>> (y.toUInt32 &&& Int32.toUInt32 31)).toInt32) 39 := rfl
theorem k_J6_bitCount_0f7a4_39 (post : PO) : lk (T_J6_bitCount_0f7a4 post) 39 = o_bin (fun x y => x + y) 40 := rfl
theorem k_J6_bitCount_0f7a4_40 (post : PO) : lk (T_J6_bitCount_0f7a4 post) 40 = o_istore 0 41 := rfl
theorem k_J6_bitCount_0f7a4_41 (post : PO) : lk (T_J6_bitCount_0f7a4 post) 41 = o_iload 0 42 := rfl
theorem k_J6_bitCount_0f7a4_42 (post : PO) : lk (T_J6_bitCount_0f7a4 post) 42 = o_iload 0 43 := rfl
theorem k_J6_bitCount_0f7a4_43 (post : PO) : lk (T_J6_bitCount_0f7a4 post) 43 = o_const 16 45 := rfl
theorem k_J6_bitCount_0f7a4_45 (post : PO) : lk (T_J6_bitCount_0f7a4 post) 45 = o_bin (fun x y => (x.toUInt32 >>> (y.toUInt32 &&& Int32.toUInt32 31)).toInt32) 46 := rfl
theorem k_J6_bitCount_0f7a4_46 (post : PO) : lk (T_J6_bitCount_0f7a4 post) 46 = o_bin (fun x y => x + y) 47 := rfl
theorem k_J6_bitCount_0f7a4_47 (post : PO) : lk (T_J6_bitCount_0f7a4 post) 47 = o_istore 0 48 := rfl
theorem k_J6_bitCount_0f7a4_48 (post : PO) : lk (T_J6_bitCount_0f7a4 post) 48 = o_iload 0 49 := rfl
theorem k_J6_bitCount_0f7a4_49 (post : PO) : lk (T_J6_bitCount_0f7a4 post) 49 = o_const 63 51 := rfl
theorem k_J6_bitCount_0f7a4_51 (post : PO) : lk (T_J6_bitCount_0f7a4 post) 51 = o_bin (fun x y => x &&& y) 52 := rfl
theorem k_J6_bitCount_0f7a4_52 (post : PO) : lk (T_J6_bitCount_0f7a4 post) 52 = o_iret post := rfl
set_option maxRecDepth 100000 in
theorem t_J6_bitCount_0f7a4 {p : Program} {l : Launch} {e : Env} {s : State} {m : MethodId} {args : Array Value} {below : List Frame} {meth : Method} {c : Code} {D : va_G} {dA : Nat → ClassId} {ad : Nat → Nat} (post : PO) (C : CX p s m args meth c cJ6_bitCount_0f7a4 1 yJ6_bitCount_0f7a4.cls D dA ad (AA ad s.heap.size)) (hr : meth.sig.returnType = (some .int)) : SndL (WW p l e ({ frames := 0, cells := 0, slots := 0, locals := 0 } : Room) s m args below meth c 0 0 (MQ below (CQ D dA ad post (AA ad s.heap.size)) args s 0 0 (AA ad s.heap.size)) 1 D dA ad (AA ad s.heap.size)) (T_J6_bitCount_0f7a4 post) := by
  refine snd_c (s_iload_n C rfl dJ6_bitCount_0f7a4_0) ?_
  refine snd_c (s_iload_n C rfl dJ6_bitCount_0f7a4_1) ?_
  refine snd_c (s_iconst C dJ6_bitCount_0f7a4_2 rfl) ?_
  refine snd_c (s_iushr C dJ6_bitCount_0f7a4_3) ?_
  refine snd_c (s_ldcw C ct_RJ6_265 dJ6_bitCount_0f7a4_4) ?_
  refine snd_c (s_iand C dJ6_bitCount_0f7a4_7) ?_
  refine snd_c (s_isub C dJ6_bitCount_0f7a4_8) ?_
  refine snd_c (s_istore_n C rfl (by decide) dJ6_bitCount_0f7a4_9) ?_
  refine snd_c (s_iload_n C rfl dJ6_bitCount_0f7a4_10) ?_
  refine snd_c (s_ldcw C ct_RJ6_266 dJ6_bitCount_0f7a4_11) ?_
  refine snd_c (s_iand C dJ6_bitCount_0f7a4_14) ?_
  refine snd_c (s_iload_n C rfl dJ6_bitCount_0f7a4_15) ?_
  refine snd_c (s_iconst C dJ6_bitCount_0f7a4_16 rfl) ?_
  refine snd_c (s_iushr C dJ6_bitCount_0f7a4_17) ?_
  refine snd_c (s_ldcw C ct_RJ6_266 dJ6_bitCount_0f7a4_18) ?_
  refine snd_c (s_iand C dJ6_bitCount_0f7a4_21) ?_
  refine snd_c (s_iadd C dJ6_bitCount_0f7a4_22) ?_
  refine snd_c (s_istore_n C rfl (by decide) dJ6_bitCount_0f7a4_23) ?_
  refine snd_c (s_iload_n C rfl dJ6_bitCount_0f7a4_24) ?_
  refine snd_c (s_iload_n C rfl dJ6_bitCount_0f7a4_25) ?_
  refine snd_c (s_iconst C dJ6_bitCount_0f7a4_26 rfl) ?_
  refine snd_c (s_iushr C dJ6_bitCount_0f7a4_27) ?_
  refine snd_c (s_iadd C dJ6_bitCount_0f7a4_28) ?_
  refine snd_c (s_ldcw C ct_RJ6_267 dJ6_bitCount_0f7a4_29) ?_
  refine snd_c (s_iand C dJ6_bitCount_0f7a4_32) ?_
  refine snd_c (s_istore_n C rfl (by decide) dJ6_bitCount_0f7a4_33) ?_
  refine snd_c (s_iload_n C rfl dJ6_bitCount_0f7a4_34) ?_
  refine snd_c (s_iload_n C rfl dJ6_bitCount_0f7a4_35) ?_
  refine snd_c (s_bipush C dJ6_bitCount_0f7a4_36 rfl) ?_
  refine snd_c (s_iushr C dJ6_bitCount_0f7a4_38) ?_
  refine snd_c (s_iadd C dJ6_bitCount_0f7a4_39) ?_
  refine snd_c (s_istore_n C rfl (by decide) dJ6_bitCount_0f7a4_40) ?_
  refine snd_c (s_iload_n C rfl dJ6_bitCount_0f7a4_41) ?_
  refine snd_c (s_iload_n C rfl dJ6_bitCount_0f7a4_42) ?_
  refine snd_c (s_bipush C dJ6_bitCount_0f7a4_43 rfl) ?_
  refine snd_c (s_iushr C dJ6_bitCount_0f7a4_45) ?_
  refine snd_c (s_iadd C dJ6_bitCount_0f7a4_46) ?_
  refine snd_c (s_istore_n C rfl (by decide) dJ6_bitCount_0f7a4_47) ?_
  refine snd_c (s_iload_n C rfl dJ6_bitCount_0f7a4_48) ?_
  refine snd_c (s_bipush C dJ6_bitCount_0f7a4_49 rfl) ?_
  refine snd_c (s_iand C dJ6_bitCount_0f7a4_51) ?_
  refine snd_c (s_iret C hr dJ6_bitCount_0f7a4_52) ?_
  exact trivial
theorem fl_RJ0_38 : Cond.fieldLink RJ0 38 "java/lang/String" "COMPACT_STRINGS" "Z" ∈ tb := tb_of 277 (by decide +kernel) (by decide +kernel)
theorem fl_RJ0_15 : Cond.fieldLink RJ0 15 "java/lang/String" "coder" "B" ∈ tb := tb_of 899 (by decide +kernel) (by decide +kernel)
theorem dJ0_coder_7d493_0 : decode cJ0_coder_7d493 0 = .ok (.getstatic 38, 3) := by decide +kernel
theorem dJ0_coder_7d493_3 : decode cJ0_coder_7d493 3 = .ok (.ifCond .eq 10, 3) := by decide +kernel
theorem dJ0_coder_7d493_6 : decode cJ0_coder_7d493 6 = .ok (.aload_n 0, 1) := by decide +kernel
theorem dJ0_coder_7d493_7 : decode cJ0_coder_7d493 7 = .ok (.getfield 15, 3) := by decide +kernel
theorem dJ0_coder_7d493_10 : decode cJ0_coder_7d493 10 = .ok (.goto 4, 3) := by decide +kernel
theorem dJ0_coder_7d493_13 : decode cJ0_coder_7d493 13 = .ok (.iconst 1, 1) := by decide +kernel
theorem dJ0_coder_7d493_14 : decode cJ0_coder_7d493 14 = .ok (.ireturn, 1) := by decide +kernel
def T_J0_coder_7d493 (post : PO) : List (Nat × OP) := [(0, o_const 1 3), (3, o_if (fun x => x = 0) 13 6), (6, o_aload 0 7), (7, o_scoder 10), (10, o_goto 14), (13, o_const 1 14), (14, o_zret post)]
theorem k_J0_coder_7d493_0 (post : PO) : lk (T_J0_coder_7d493 post) 0 = o_const 1 3 := rfl
theorem k_J0_coder_7d493_3 (post : PO) : lk (T_J0_coder_7d493 post) 3 = o_if (fun x => x = 0) 13 6 := rfl
theorem k_J0_coder_7d493_6 (post : PO) : lk (T_J0_coder_7d493 post) 6 = o_aload 0 7 := rfl
theorem k_J0_coder_7d493_7 (post : PO) : lk (T_J0_coder_7d493 post) 7 = o_scoder 10 := rfl
theorem k_J0_coder_7d493_10 (post : PO) : lk (T_J0_coder_7d493 post) 10 = o_goto 14 := rfl
theorem k_J0_coder_7d493_13 (post : PO) : lk (T_J0_coder_7d493 post) 13 = o_const 1 14 := rfl
theorem k_J0_coder_7d493_14 (post : PO) : lk (T_J0_coder_7d493 post) 14 = o_zret post := rfl
set_option maxRecDepth 100000 in
theorem t_J0_coder_7d493 {p : Program} {l : Launch} {e : Env} {s : State} {m : MethodId} {args : Array Value} {below : List Frame} {meth : Method} {c : Code} {D : va_G} {dA : Nat → ClassId} {ad : Nat → Nat} (post : PO) (C : CX p s m args meth c cJ0_coder_7d493 1 yJ0_coder_7d493.cls D dA ad (AA ad s.heap.size)) (hr : meth.sig.returnType = (some .byte)) : SndL (WW p l e ({ frames := 0, cells := 0, slots := 0, locals := 0 } : Room) s m args below meth c 0 0 (MQ below (CQ D dA ad post (AA ad s.heap.size)) args s 0 0 (AA ad s.heap.size)) 1 D dA ad (AA ad s.heap.size)) (T_J0_coder_7d493 post) := by
  refine snd_c (s_compact C fl_RJ0_38 dJ0_coder_7d493_0) ?_
  refine snd_c (s_if_eq C dJ0_coder_7d493_3 (by decide)) ?_
  refine snd_c (s_aload_n C rfl dJ0_coder_7d493_6) ?_
  refine snd_c (s_scoder C fl_RJ0_15 dJ0_coder_7d493_7) ?_
  refine snd_c (s_goto C dJ0_coder_7d493_10 (by decide)) ?_
  refine snd_c (s_iconst C dJ0_coder_7d493_13 rfl) ?_
  refine snd_c (s_zret C hr ⟨rfl, rfl⟩ dJ0_coder_7d493_14) ?_
  exact trivial
theorem dJ0_isLatin1_aae02_0 : decode cJ0_isLatin1_aae02 0 = .ok (.getstatic 38, 3) := by decide +kernel
theorem dJ0_isLatin1_aae02_3 : decode cJ0_isLatin1_aae02 3 = .ok (.ifCond .eq 14, 3) := by decide +kernel
theorem dJ0_isLatin1_aae02_6 : decode cJ0_isLatin1_aae02 6 = .ok (.aload_n 0, 1) := by decide +kernel
theorem dJ0_isLatin1_aae02_7 : decode cJ0_isLatin1_aae02 7 = .ok (.getfield 15, 3) := by decide +kernel
theorem dJ0_isLatin1_aae02_10 : decode cJ0_isLatin1_aae02 10 = .ok (.ifCond .ne 7, 3) := by decide +kernel
theorem dJ0_isLatin1_aae02_13 : decode cJ0_isLatin1_aae02 13 = .ok (.iconst 1, 1) := by decide +kernel
theorem dJ0_isLatin1_aae02_14 : decode cJ0_isLatin1_aae02 14 = .ok (.goto 4, 3) := by decide +kernel
theorem dJ0_isLatin1_aae02_17 : decode cJ0_isLatin1_aae02 17 = .ok (.iconst 0, 1) := by decide +kernel
theorem dJ0_isLatin1_aae02_18 : decode cJ0_isLatin1_aae02 18 = .ok (.ireturn, 1) := by decide +kernel
def T_J0_isLatin1_aae02 (post : PO) : List (Nat × OP) := [(0, o_const 1 3), (3, o_if (fun x => x = 0) 17 6), (6, o_aload 0 7), (7, o_scoder 10), (10, o_if (fun x => x = 0) 13 17), (13, o_const 1 14), (14, o_goto 18), (17, o_const 0 18), (18, o_zret post)]
theorem k_J0_isLatin1_aae02_0 (post : PO) : lk (T_J0_isLatin1_aae02 post) 0 = o_const 1 3 := rfl
theorem k_J0_isLatin1_aae02_3 (post : PO) : lk (T_J0_isLatin1_aae02 post) 3 = o_if (fun x => x = 0) 17 6 := rfl
theorem k_J0_isLatin1_aae02_6 (post : PO) : lk (T_J0_isLatin1_aae02 post) 6 = o_aload 0 7 := rfl
theorem k_J0_isLatin1_aae02_7 (post : PO) : lk (T_J0_isLatin1_aae02 post) 7 = o_scoder 10 := rfl
theorem k_J0_isLatin1_aae02_10 (post : PO) : lk (T_J0_isLatin1_aae02 post) 10 = o_if (fun x => x = 0) 13 17 := rfl
theorem k_J0_isLatin1_aae02_13 (post : PO) : lk (T_J0_isLatin1_aae02 post) 13 = o_const 1 14 := rfl
theorem k_J0_isLatin1_aae02_14 (post : PO) : lk (T_J0_isLatin1_aae02 post) 14 = o_goto 18 := rfl
theorem k_J0_isLatin1_aae02_17 (post : PO) : lk (T_J0_isLatin1_aae02 post) 17 = o_const 0 18 := rfl
theorem k_J0_isLatin1_aae02_18 (post : PO) : lk (T_J0_isLatin1_aae02 post) 18 = o_zret post := rfl
set_option maxRecDepth 100000 in
theorem t_J0_isLatin1_aae02 {p : Program} {l : Launch} {e : Env} {s : State} {m : MethodId} {args : Array Value} {below : List Frame} {meth : Method} {c : Code} {D : va_G} {dA : Nat → ClassId} {ad : Nat → Nat} (post : PO) (C : CX p s m args meth c cJ0_isLatin1_aae02 1 yJ0_isLatin1_aae02.cls D dA ad (AA ad s.heap.size)) (hr : meth.sig.returnType = (some .boolean)) : SndL (WW p l e ({ frames := 0, cells := 0, slots := 0, locals := 0 } : Room) s m args below meth c 0 0 (MQ below (CQ D dA ad post (AA ad s.heap.size)) args s 0 0 (AA ad s.heap.size)) 1 D dA ad (AA ad s.heap.size)) (T_J0_isLatin1_aae02 post) := by
  refine snd_c (s_compact C fl_RJ0_38 dJ0_isLatin1_aae02_0) ?_
  refine snd_c (s_if_eq C dJ0_isLatin1_aae02_3 (by decide)) ?_
  refine snd_c (s_aload_n C rfl dJ0_isLatin1_aae02_6) ?_
  refine snd_c (s_scoder C fl_RJ0_15 dJ0_isLatin1_aae02_7) ?_
  refine snd_c (s_if_ne C dJ0_isLatin1_aae02_10 (by decide)) ?_
  refine snd_c (s_iconst C dJ0_isLatin1_aae02_13 rfl) ?_
  refine snd_c (s_goto C dJ0_isLatin1_aae02_14 (by decide)) ?_
  refine snd_c (s_iconst C dJ0_isLatin1_aae02_17 rfl) ?_
  refine snd_c (s_zret C hr ⟨rfl, rfl⟩ dJ0_isLatin1_aae02_18) ?_
  exact trivial
set_option maxRecDepth 100000 in
theorem v_J6_bitCount_0f7a4 : ∀ as M post, S_J6_bitCount_0f7a4 as M post → wsum as ≤ 1 ∧ RUN (T_J6_bitCount_0f7a4 post) 0 (entL 1 as) [] M := by
  rintro as M post ⟨n, rfl, hn, h⟩
  refine ⟨Nat.le_refl 1, run_wp 60 ?_⟩
  rw [← bc_ok n hn] at h
  dsimp only [k_J6_bitCount_0f7a4_0, k_J6_bitCount_0f7a4_1, k_J6_bitCount_0f7a4_2, k_J6_bitCount_0f7a4_3, k_J6_bitCount_0f7a4_4, k_J6_bitCount_0f7a4_7, k_J6_bitCount_0f7a4_8, k_J6_bitCount_0f7a4_9, k_J6_bitCount_0f7a4_10, k_J6_bitCount_0f7a4_11, k_J6_bitCount_0f7a4_14, k_J6_bitCount_0f7a4_15, k_J6_bitCount_0f7a4_16, k_J6_bitCount_0f7a4_17, k_J6_bitCount_0f7a4_18, k_J6_bitCount_0f7a4_21, k_J6_bitCount_0f7a4_22, k_J6_bitCount_0f7a4_23, k_J6_bitCount_0f7a4_24, k_J6_bitCount_0f7a4_25, k_J6_bitCount_0f7a4_26, k_J6_bitCount_0f7a4_27, k_J6_bitCount_0f7a4_28, k_J6_bitCount_0f7a4_29, k_J6_bitCount_0f7a4_32, k_J6_bitCount_0f7a4_33, k_J6_bitCount_0f7a4_34, k_J6_bitCount_0f7a4_35, k_J6_bitCount_0f7a4_36, k_J6_bitCount_0f7a4_38, k_J6_bitCount_0f7a4_39, k_J6_bitCount_0f7a4_40, k_J6_bitCount_0f7a4_41, k_J6_bitCount_0f7a4_42, k_J6_bitCount_0f7a4_43, k_J6_bitCount_0f7a4_45, k_J6_bitCount_0f7a4_46, k_J6_bitCount_0f7a4_47, k_J6_bitCount_0f7a4_48, k_J6_bitCount_0f7a4_49, k_J6_bitCount_0f7a4_51, k_J6_bitCount_0f7a4_52, wp1, wp_s, cutIn, kont, Nat.reduceSub, Nat.reduceAdd, nth, o_const, o_lconst, o_ref, o_iload, o_lload, o_aload, o_istore, o_lstore, o_astore, o_iinc, o_bin, o_div, o_un, o_lbin, o_lsh, o_lcmp, o_i2l, o_l2i, o_if, o_icmp, o_goto, o_dup, o_dup2, o_pop, fav, o_getf, o_putI, o_putZ, o_putL, o_ald, o_ast, o_alen, popn, rst, o_callV, o_callT, o_callS, swx, o_sw, o_ret, o_iret, o_zret, o_cret, o_lret, o_aret, lg, lput, lput2, ls1, isL, entL, wsum, rdI1, rdI2, rdA1, rdA21, rdA22, rdL1, rdL22, rdL21, upN_at, rep, sh_0, F_0_0, F_0_1, F_0_2, F_0_3, F_0_4, F_0_5, F_0_6, F_0_7, F_0_8, sh_1, F_1_0, F_1_1, F_1_2, F_1_3, F_1_4, F_1_5, sh_3, F_3_0, F_3_1, F_3_2, F_3_3, F_3_4, F_3_5, sh_5, F_5_0, F_5_1, F_5_2, F_5_3, F_5_4, F_5_5, F_5_6, F_5_7, F_5_8, sh_12, F_12_0, F_12_1, F_12_2, F_12_3, F_12_4, F_12_5, sh_14, F_14_0, F_14_1, F_14_2, F_14_3, F_14_4, F_14_5, F_14_6, F_14_7, F_14_8, sh_21, F_21_0, F_21_1, F_21_2, F_21_3, F_21_4, F_21_5, F_21_6, F_21_7, F_21_8, sh_28, F_28_0, F_28_1, F_28_2, F_28_3, F_28_4, F_28_5, F_28_6, F_28_7, F_28_8, sh_35, F_35_0, sh_39, F_39_0, F_39_1, F_39_2, F_39_3, F_39_4, F_39_5, F_39_6, F_39_7, F_39_8, F_39_9, F_39_10, F_39_11, F_39_12, F_39_13, A_2, A_4, A_6, A_7, A_8, A_9, A_10, A_11, A_13, A_15, A_16, A_17, A_18, A_19, A_20, A_22, A_23, A_24, A_25, A_26, A_27, A_29, A_30, A_31, A_32, A_33, A_34, A_36, A_37, A_38, A_40, A_41, A_42, A_43, A_44, A_45, A_46, A_47, o_svalue, o_scoder, o_slen, o_sbyte]
  exact h
set_option maxRecDepth 100000 in
theorem v_J0_coder_7d493 : ∀ as M post, S_J0_coder_7d493 as M post → wsum as ≤ 1 ∧ RUN (T_J0_coder_7d493 post) 0 (entL 1 as) [] M := by
  rintro as M post ⟨i, rfl, hi, h⟩
  refine ⟨Nat.le_refl 1, ?_⟩
  rcases (by omega : i = 0 ∨ i = 1 ∨ i = 2 ∨ i = 3) with rfl | rfl | rfl | rfl
  all_goals
    refine run_wp 60 ?_
    dsimp only [k_J0_coder_7d493_0, k_J0_coder_7d493_3, k_J0_coder_7d493_6, k_J0_coder_7d493_7, k_J0_coder_7d493_10, k_J0_coder_7d493_13, k_J0_coder_7d493_14, wp1, wp_s, cutIn, kont, Nat.reduceSub, Nat.reduceAdd, nth, o_const, o_lconst, o_ref, o_iload, o_lload, o_aload, o_istore, o_lstore, o_astore, o_iinc, o_bin, o_div, o_un, o_lbin, o_lsh, o_lcmp, o_i2l, o_l2i, o_if, o_icmp, o_goto, o_dup, o_dup2, o_pop, fav, o_getf, o_putI, o_putZ, o_putL, o_ald, o_ast, o_alen, popn, rst, o_callV, o_callT, o_callS, swx, o_sw, o_ret, o_iret, o_zret, o_cret, o_lret, o_aret, lg, lput, lput2, ls1, isL, entL, wsum, rdI1, rdI2, rdA1, rdA21, rdA22, rdL1, rdL22, rdL21, upN_at, rep, sh_0, F_0_0, F_0_1, F_0_2, F_0_3, F_0_4, F_0_5, F_0_6, F_0_7, F_0_8, sh_1, F_1_0, F_1_1, F_1_2, F_1_3, F_1_4, F_1_5, sh_3, F_3_0, F_3_1, F_3_2, F_3_3, F_3_4, F_3_5, sh_5, F_5_0, F_5_1, F_5_2, F_5_3, F_5_4, F_5_5, F_5_6, F_5_7, F_5_8, sh_12, F_12_0, F_12_1, F_12_2, F_12_3, F_12_4, F_12_5, sh_14, F_14_0, F_14_1, F_14_2, F_14_3, F_14_4, F_14_5, F_14_6, F_14_7, F_14_8, sh_21, F_21_0, F_21_1, F_21_2, F_21_3, F_21_4, F_21_5, F_21_6, F_21_7, F_21_8, sh_28, F_28_0, F_28_1, F_28_2, F_28_3, F_28_4, F_28_5, F_28_6, F_28_7, F_28_8, sh_35, F_35_0, sh_39, F_39_0, F_39_1, F_39_2, F_39_3, F_39_4, F_39_5, F_39_6, F_39_7, F_39_8, F_39_9, F_39_10, F_39_11, F_39_12, F_39_13, A_2, A_4, A_6, A_7, A_8, A_9, A_10, A_11, A_13, A_15, A_16, A_17, A_18, A_19, A_20, A_22, A_23, A_24, A_25, A_26, A_27, A_29, A_30, A_31, A_32, A_33, A_34, A_36, A_37, A_38, A_40, A_41, A_42, A_43, A_44, A_45, A_46, A_47, o_svalue, o_scoder, o_slen, o_sbyte]
    exact ⟨fun z => absurd z (by decide), fun _ => ⟨Or.inl rfl, h⟩⟩
set_option maxRecDepth 100000 in
theorem v_J0_isLatin1_aae02 : ∀ as M post, S_J0_isLatin1_aae02 as M post → wsum as ≤ 1 ∧ RUN (T_J0_isLatin1_aae02 post) 0 (entL 1 as) [] M := by
  rintro as M post ⟨i, rfl, hi, h⟩
  refine ⟨Nat.le_refl 1, ?_⟩
  rcases (by omega : i = 0 ∨ i = 1 ∨ i = 2 ∨ i = 3) with rfl | rfl | rfl | rfl
  all_goals
    refine run_wp 60 ?_
    dsimp only [k_J0_isLatin1_aae02_0, k_J0_isLatin1_aae02_3, k_J0_isLatin1_aae02_6, k_J0_isLatin1_aae02_7, k_J0_isLatin1_aae02_10, k_J0_isLatin1_aae02_13, k_J0_isLatin1_aae02_14, k_J0_isLatin1_aae02_17, k_J0_isLatin1_aae02_18, wp1, wp_s, cutIn, kont, Nat.reduceSub, Nat.reduceAdd, nth, o_const, o_lconst, o_ref, o_iload, o_lload, o_aload, o_istore, o_lstore, o_astore, o_iinc, o_bin, o_div, o_un, o_lbin, o_lsh, o_lcmp, o_i2l, o_l2i, o_if, o_icmp, o_goto, o_dup, o_dup2, o_pop, fav, o_getf, o_putI, o_putZ, o_putL, o_ald, o_ast, o_alen, popn, rst, o_callV, o_callT, o_callS, swx, o_sw, o_ret, o_iret, o_zret, o_cret, o_lret, o_aret, lg, lput, lput2, ls1, isL, entL, wsum, rdI1, rdI2, rdA1, rdA21, rdA22, rdL1, rdL22, rdL21, upN_at, rep, sh_0, F_0_0, F_0_1, F_0_2, F_0_3, F_0_4, F_0_5, F_0_6, F_0_7, F_0_8, sh_1, F_1_0, F_1_1, F_1_2, F_1_3, F_1_4, F_1_5, sh_3, F_3_0, F_3_1, F_3_2, F_3_3, F_3_4, F_3_5, sh_5, F_5_0, F_5_1, F_5_2, F_5_3, F_5_4, F_5_5, F_5_6, F_5_7, F_5_8, sh_12, F_12_0, F_12_1, F_12_2, F_12_3, F_12_4, F_12_5, sh_14, F_14_0, F_14_1, F_14_2, F_14_3, F_14_4, F_14_5, F_14_6, F_14_7, F_14_8, sh_21, F_21_0, F_21_1, F_21_2, F_21_3, F_21_4, F_21_5, F_21_6, F_21_7, F_21_8, sh_28, F_28_0, F_28_1, F_28_2, F_28_3, F_28_4, F_28_5, F_28_6, F_28_7, F_28_8, sh_35, F_35_0, sh_39, F_39_0, F_39_1, F_39_2, F_39_3, F_39_4, F_39_5, F_39_6, F_39_7, F_39_8, F_39_9, F_39_10, F_39_11, F_39_12, F_39_13, A_2, A_4, A_6, A_7, A_8, A_9, A_10, A_11, A_13, A_15, A_16, A_17, A_18, A_19, A_20, A_22, A_23, A_24, A_25, A_26, A_27, A_29, A_30, A_31, A_32, A_33, A_34, A_36, A_37, A_38, A_40, A_41, A_42, A_43, A_44, A_45, A_46, A_47, o_svalue, o_scoder, o_slen, o_sbyte]
    exact ⟨fun z => absurd z (by decide), fun _ => ⟨fun _ => ⟨Or.inr rfl, h⟩, fun z => absurd rfl z⟩⟩
theorem c_J6_bitCount_0f7a4 : Ctr yJ6_bitCount_0f7a4 cJ6_bitCount_0f7a4 1 (some .int) ({ frames := 0, cells := 0, slots := 0, locals := 0 } : Room) S_J6_bitCount_0f7a4 := ctr_of (T := T_J6_bitCount_0f7a4) (by decide +kernel) (fun post C hr => t_J6_bitCount_0f7a4 post C hr) v_J6_bitCount_0f7a4
theorem c_J0_coder_7d493 : Ctr yJ0_coder_7d493 cJ0_coder_7d493 1 (some .byte) ({ frames := 0, cells := 0, slots := 0, locals := 0 } : Room) S_J0_coder_7d493 := ctr_of (T := T_J0_coder_7d493) (by decide +kernel) (fun post C hr => t_J0_coder_7d493 post C hr) v_J0_coder_7d493
theorem c_J0_isLatin1_aae02 : Ctr yJ0_isLatin1_aae02 cJ0_isLatin1_aae02 1 (some .boolean) ({ frames := 0, cells := 0, slots := 0, locals := 0 } : Room) S_J0_isLatin1_aae02 := ctr_of (T := T_J0_isLatin1_aae02) (by decide +kernel) (fun post C hr => t_J0_isLatin1_aae02 post C hr) v_J0_isLatin1_aae02
theorem fl_RJ0_9 : Cond.fieldLink RJ0 9 "java/lang/String" "value" "[B" ∈ tb := tb_of 898 (by decide +kernel) (by decide +kernel)
theorem cw_RJ0_335 : ∀ w ∈ ([.methodLink RJ0 335 yJ0_coder_7d493, .instanceMethod yJ0_coder_7d493, .selects yJ0_coder_7d493.cls yJ0_coder_7d493 yJ0_coder_7d493, .initialized yJ0_coder_7d493.cls, .code yJ0_coder_7d493 cJ0_coder_7d493 1 (some .byte)] : List Cond), w ∈ tb := tb_all [273, 274, 275, 60, 276] (by decide +kernel) (by decide +kernel)
theorem dJ0_length_8abf5_0 : decode cJ0_length_8abf5 0 = .ok (.aload_n 0, 1) := by decide +kernel
theorem dJ0_length_8abf5_1 : decode cJ0_length_8abf5 1 = .ok (.getfield 9, 3) := by decide +kernel
theorem dJ0_length_8abf5_4 : decode cJ0_length_8abf5 4 = .ok (.arraylength, 1) := by decide +kernel
theorem dJ0_length_8abf5_5 : decode cJ0_length_8abf5 5 = .ok (.aload_n 0, 1) := by decide +kernel
theorem dJ0_length_8abf5_6 : decode cJ0_length_8abf5 6 = .ok (.invokevirtual 335, 3) := by decide +kernel
theorem dJ0_length_8abf5_9 : decode cJ0_length_8abf5 9 = .ok (.ishr, 1) := by decide +kernel
theorem dJ0_length_8abf5_10 : decode cJ0_length_8abf5 10 = .ok (.ireturn, 1) := by decide +kernel
def T_J0_length_8abf5 (post : PO) : List (Nat × OP) := [(0, o_aload 0 1), (1, o_svalue 4), (4, o_slen 5), (5, o_aload 0 6), (6, o_callT S_J0_coder_7d493 0 9), (9, o_bin (fun x y => x >>> (y &&& 31)) 10), (10, o_iret post)]
theorem k_J0_length_8abf5_0 (post : PO) : lk (T_J0_length_8abf5 post) 0 = o_aload 0 1 := rfl
theorem k_J0_length_8abf5_1 (post : PO) : lk (T_J0_length_8abf5 post) 1 = o_svalue 4 := rfl
theorem k_J0_length_8abf5_4 (post : PO) : lk (T_J0_length_8abf5 post) 4 = o_slen 5 := rfl
theorem k_J0_length_8abf5_5 (post : PO) : lk (T_J0_length_8abf5 post) 5 = o_aload 0 6 := rfl
theorem k_J0_length_8abf5_6 (post : PO) : lk (T_J0_length_8abf5 post) 6 = o_callT S_J0_coder_7d493 0 9 := rfl
theorem k_J0_length_8abf5_9 (post : PO) : lk (T_J0_length_8abf5 post) 9 = o_bin (fun x y => x >>> (y &&& 31)) 10 := rfl
theorem k_J0_length_8abf5_10 (post : PO) : lk (T_J0_length_8abf5 post) 10 = o_iret post := rfl
set_option maxRecDepth 100000 in
theorem t_J0_length_8abf5 {p : Program} {l : Launch} {e : Env} {s : State} {m : MethodId} {args : Array Value} {below : List Frame} {meth : Method} {c : Code} {D : va_G} {dA : Nat → ClassId} {ad : Nat → Nat} (post : PO) (C : CX p s m args meth c cJ0_length_8abf5 1 yJ0_length_8abf5.cls D dA ad (AA ad s.heap.size)) (hr : meth.sig.returnType = (some .int)) : SndL (WW p l e ({ frames := 1, cells := 0, slots := 0, locals := 20 } : Room) s m args below meth c 0 0 (MQ below (CQ D dA ad post (AA ad s.heap.size)) args s 0 0 (AA ad s.heap.size)) 1 D dA ad (AA ad s.heap.size)) (T_J0_length_8abf5 post) := by
  refine snd_c (s_aload_n C rfl dJ0_length_8abf5_0) ?_
  refine snd_c (s_svalue C fl_RJ0_9 dJ0_length_8abf5_1) ?_
  refine snd_c (s_slen C dJ0_length_8abf5_4) ?_
  refine snd_c (s_aload_n C rfl dJ0_length_8abf5_5) ?_
  refine snd_c (s_callT C c_J0_coder_7d493 rfl cw_RJ0_335 ⟨rfl, rfl⟩ ⟨by decide +kernel, by decide +kernel, by decide +kernel⟩ ⟨by decide, by decide⟩ ⟨Nat.zero_le _, Nat.zero_le _⟩ dJ0_length_8abf5_6) ?_
  refine snd_c (s_ishr C dJ0_length_8abf5_9) ?_
  refine snd_c (s_iret C hr dJ0_length_8abf5_10) ?_
  exact trivial
theorem dJ3_checkIndex_8e157_0 : decode cJ3_checkIndex_8e157 0 = .ok (.iload_n 0, 1) := by decide +kernel
theorem dJ3_checkIndex_8e157_1 : decode cJ3_checkIndex_8e157 1 = .ok (.ifCond .lt 8, 3) := by decide +kernel
theorem dJ3_checkIndex_8e157_4 : decode cJ3_checkIndex_8e157 4 = .ok (.iload_n 0, 1) := by decide +kernel
theorem dJ3_checkIndex_8e157_5 : decode cJ3_checkIndex_8e157 5 = .ok (.iload_n 1, 1) := by decide +kernel
theorem dJ3_checkIndex_8e157_6 : decode cJ3_checkIndex_8e157 6 = .ok (.if_icmp .lt 10, 3) := by decide +kernel
theorem dJ3_checkIndex_8e157_16 : decode cJ3_checkIndex_8e157 16 = .ok (.iload_n 0, 1) := by decide +kernel
theorem dJ3_checkIndex_8e157_17 : decode cJ3_checkIndex_8e157 17 = .ok (.ireturn, 1) := by decide +kernel
def T_J3_checkIndex_8e157 (post : PO) : List (Nat × OP) := [(0, o_iload 0 1), (1, o_if (fun x => x < 0) 9 4), (4, o_iload 0 5), (5, o_iload 1 6), (6, o_icmp (fun x y => x < y) 16 9), (16, o_iload 0 17), (17, o_iret post)]
theorem k_J3_checkIndex_8e157_0 (post : PO) : lk (T_J3_checkIndex_8e157 post) 0 = o_iload 0 1 := rfl
theorem k_J3_checkIndex_8e157_1 (post : PO) : lk (T_J3_checkIndex_8e157 post) 1 = o_if (fun x => x < 0) 9 4 := rfl
theorem k_J3_checkIndex_8e157_4 (post : PO) : lk (T_J3_checkIndex_8e157 post) 4 = o_iload 0 5 := rfl
theorem k_J3_checkIndex_8e157_5 (post : PO) : lk (T_J3_checkIndex_8e157 post) 5 = o_iload 1 6 := rfl
theorem k_J3_checkIndex_8e157_6 (post : PO) : lk (T_J3_checkIndex_8e157 post) 6 = o_icmp (fun x y => x < y) 16 9 := rfl
theorem k_J3_checkIndex_8e157_16 (post : PO) : lk (T_J3_checkIndex_8e157 post) 16 = o_iload 0 17 := rfl
theorem k_J3_checkIndex_8e157_17 (post : PO) : lk (T_J3_checkIndex_8e157 post) 17 = o_iret post := rfl
set_option maxRecDepth 100000 in
theorem t_J3_checkIndex_8e157 {p : Program} {l : Launch} {e : Env} {s : State} {m : MethodId} {args : Array Value} {below : List Frame} {meth : Method} {c : Code} {D : va_G} {dA : Nat → ClassId} {ad : Nat → Nat} (post : PO) (C : CX p s m args meth c cJ3_checkIndex_8e157 3 yJ3_checkIndex_8e157.cls D dA ad (AA ad s.heap.size)) (hr : meth.sig.returnType = (some .int)) : SndL (WW p l e ({ frames := 0, cells := 0, slots := 0, locals := 0 } : Room) s m args below meth c 0 0 (MQ below (CQ D dA ad post (AA ad s.heap.size)) args s 0 0 (AA ad s.heap.size)) 3 D dA ad (AA ad s.heap.size)) (T_J3_checkIndex_8e157 post) := by
  refine snd_c (s_iload_n C rfl dJ3_checkIndex_8e157_0) ?_
  refine snd_c (s_if_lt C dJ3_checkIndex_8e157_1 (by decide)) ?_
  refine snd_c (s_iload_n C rfl dJ3_checkIndex_8e157_4) ?_
  refine snd_c (s_iload_n C rfl dJ3_checkIndex_8e157_5) ?_
  refine snd_c (s_icmp_lt C dJ3_checkIndex_8e157_6 (by decide)) ?_
  refine snd_c (s_iload_n C rfl dJ3_checkIndex_8e157_16) ?_
  refine snd_c (s_iret C hr dJ3_checkIndex_8e157_17) ?_
  exact trivial
set_option maxRecDepth 100000 in
theorem v_J0_length_8abf5 : ∀ as M post, S_J0_length_8abf5 as M post → wsum as ≤ 1 ∧ RUN (T_J0_length_8abf5 post) 0 (entL 1 as) [] M := by
  rintro as M post ⟨i, rfl, hi, h⟩
  refine ⟨Nat.le_refl 1, ?_⟩
  rcases (by omega : i = 0 ∨ i = 1 ∨ i = 2 ∨ i = 3) with rfl | rfl | rfl | rfl
  all_goals
    refine run_wp 60 ?_
    dsimp only [k_J0_length_8abf5_0, k_J0_length_8abf5_1, k_J0_length_8abf5_4, k_J0_length_8abf5_5, k_J0_length_8abf5_6, k_J0_length_8abf5_9, k_J0_length_8abf5_10, wp1, wp_s, cutIn, kont, Nat.reduceSub, Nat.reduceAdd, nth, o_const, o_lconst, o_ref, o_iload, o_lload, o_aload, o_istore, o_lstore, o_astore, o_iinc, o_bin, o_div, o_un, o_lbin, o_lsh, o_lcmp, o_i2l, o_l2i, o_if, o_icmp, o_goto, o_dup, o_dup2, o_pop, fav, o_getf, o_putI, o_putZ, o_putL, o_ald, o_ast, o_alen, popn, rst, o_callV, o_callT, o_callS, swx, o_sw, o_ret, o_iret, o_zret, o_cret, o_lret, o_aret, lg, lput, lput2, ls1, isL, entL, wsum, rdI1, rdI2, rdA1, rdA21, rdA22, rdL1, rdL22, rdL21, upN_at, rep, sh_0, F_0_0, F_0_1, F_0_2, F_0_3, F_0_4, F_0_5, F_0_6, F_0_7, F_0_8, sh_1, F_1_0, F_1_1, F_1_2, F_1_3, F_1_4, F_1_5, sh_3, F_3_0, F_3_1, F_3_2, F_3_3, F_3_4, F_3_5, sh_5, F_5_0, F_5_1, F_5_2, F_5_3, F_5_4, F_5_5, F_5_6, F_5_7, F_5_8, sh_12, F_12_0, F_12_1, F_12_2, F_12_3, F_12_4, F_12_5, sh_14, F_14_0, F_14_1, F_14_2, F_14_3, F_14_4, F_14_5, F_14_6, F_14_7, F_14_8, sh_21, F_21_0, F_21_1, F_21_2, F_21_3, F_21_4, F_21_5, F_21_6, F_21_7, F_21_8, sh_28, F_28_0, F_28_1, F_28_2, F_28_3, F_28_4, F_28_5, F_28_6, F_28_7, F_28_8, sh_35, F_35_0, sh_39, F_39_0, F_39_1, F_39_2, F_39_3, F_39_4, F_39_5, F_39_6, F_39_7, F_39_8, F_39_9, F_39_10, F_39_11, F_39_12, F_39_13, A_2, A_4, A_6, A_7, A_8, A_9, A_10, A_11, A_13, A_15, A_16, A_17, A_18, A_19, A_20, A_22, A_23, A_24, A_25, A_26, A_27, A_29, A_30, A_31, A_32, A_33, A_34, A_36, A_37, A_38, A_40, A_41, A_42, A_43, A_44, A_45, A_46, A_47, o_svalue, o_scoder, o_slen, o_sbyte, S_J0_coder_7d493]
    first | exact ⟨0, rfl, by decide, h⟩ | exact ⟨1, rfl, by decide, h⟩ | exact ⟨2, rfl, by decide, h⟩ | exact ⟨3, rfl, by decide, h⟩
set_option maxRecDepth 100000 in
theorem v_J3_checkIndex_8e157 : ∀ as M post, S_J3_checkIndex_8e157 as M post → wsum as ≤ 3 ∧ RUN (T_J3_checkIndex_8e157 post) 0 (entL 3 as) [] M := by
  rintro as M post ⟨a, b, rfl, hab, hb, h⟩
  refine ⟨Nat.le_refl 3, run_wp 60 ?_⟩
  dsimp only [k_J3_checkIndex_8e157_0, k_J3_checkIndex_8e157_1, k_J3_checkIndex_8e157_4, k_J3_checkIndex_8e157_5, k_J3_checkIndex_8e157_6, k_J3_checkIndex_8e157_16, k_J3_checkIndex_8e157_17, wp1, wp_s, cutIn, kont, Nat.reduceSub, Nat.reduceAdd, nth, o_const, o_lconst, o_ref, o_iload, o_lload, o_aload, o_istore, o_lstore, o_astore, o_iinc, o_bin, o_div, o_un, o_lbin, o_lsh, o_lcmp, o_i2l, o_l2i, o_if, o_icmp, o_goto, o_dup, o_dup2, o_pop, fav, o_getf, o_putI, o_putZ, o_putL, o_ald, o_ast, o_alen, popn, rst, o_callV, o_callT, o_callS, swx, o_sw, o_ret, o_iret, o_zret, o_cret, o_lret, o_aret, lg, lput, lput2, ls1, isL, entL, wsum, rdI1, rdI2, rdA1, rdA21, rdA22, rdL1, rdL22, rdL21, upN_at, rep, sh_0, F_0_0, F_0_1, F_0_2, F_0_3, F_0_4, F_0_5, F_0_6, F_0_7, F_0_8, sh_1, F_1_0, F_1_1, F_1_2, F_1_3, F_1_4, F_1_5, sh_3, F_3_0, F_3_1, F_3_2, F_3_3, F_3_4, F_3_5, sh_5, F_5_0, F_5_1, F_5_2, F_5_3, F_5_4, F_5_5, F_5_6, F_5_7, F_5_8, sh_12, F_12_0, F_12_1, F_12_2, F_12_3, F_12_4, F_12_5, sh_14, F_14_0, F_14_1, F_14_2, F_14_3, F_14_4, F_14_5, F_14_6, F_14_7, F_14_8, sh_21, F_21_0, F_21_1, F_21_2, F_21_3, F_21_4, F_21_5, F_21_6, F_21_7, F_21_8, sh_28, F_28_0, F_28_1, F_28_2, F_28_3, F_28_4, F_28_5, F_28_6, F_28_7, F_28_8, sh_35, F_35_0, sh_39, F_39_0, F_39_1, F_39_2, F_39_3, F_39_4, F_39_5, F_39_6, F_39_7, F_39_8, F_39_9, F_39_10, F_39_11, F_39_12, F_39_13, A_2, A_4, A_6, A_7, A_8, A_9, A_10, A_11, A_13, A_15, A_16, A_17, A_18, A_19, A_20, A_22, A_23, A_24, A_25, A_26, A_27, A_29, A_30, A_31, A_32, A_33, A_34, A_36, A_37, A_38, A_40, A_41, A_42, A_43, A_44, A_45, A_46, A_47, o_svalue, o_scoder, o_slen, o_sbyte]
  exact ⟨fun z => absurd z (nI_pos (by omega)), fun _ => ⟨fun _ => h, fun z => absurd (nI_lt hab hb) z⟩⟩
theorem c_J0_length_8abf5 : Ctr yJ0_length_8abf5 cJ0_length_8abf5 1 (some .int) ({ frames := 1, cells := 0, slots := 0, locals := 20 } : Room) S_J0_length_8abf5 := ctr_of (T := T_J0_length_8abf5) (by decide +kernel) (fun post C hr => t_J0_length_8abf5 post C hr) v_J0_length_8abf5
theorem c_J3_checkIndex_8e157 : Ctr yJ3_checkIndex_8e157 cJ3_checkIndex_8e157 3 (some .int) ({ frames := 0, cells := 0, slots := 0, locals := 0 } : Room) S_J3_checkIndex_8e157 := ctr_of (T := T_J3_checkIndex_8e157) (by decide +kernel) (fun post C hr => t_J3_checkIndex_8e157 post C hr) v_J3_checkIndex_8e157
theorem fl_RJ0_1053 : Cond.fieldLink RJ0 1053 "jdk/internal/util/Preconditions" "SIOOBE_FORMATTER" "Ljava/util/function/BiFunction;" ∈ tb := tb_of 293 (by decide +kernel) (by decide +kernel)
theorem cw_RJ0_1059 : ∀ w ∈ ([.methodLink RJ0 1059 yJ3_checkIndex_8e157, .static yJ3_checkIndex_8e157, .initialized yJ3_checkIndex_8e157.cls, .code yJ3_checkIndex_8e157 cJ3_checkIndex_8e157 3 (some .int)] : List Cond), w ∈ tb := tb_all [295, 296, 62, 297] (by decide +kernel) (by decide +kernel)
theorem dJ0_checkIndex_df160_0 : decode cJ0_checkIndex_df160 0 = .ok (.iload_n 0, 1) := by decide +kernel
theorem dJ0_checkIndex_df160_1 : decode cJ0_checkIndex_df160 1 = .ok (.iload_n 1, 1) := by decide +kernel
theorem dJ0_checkIndex_df160_2 : decode cJ0_checkIndex_df160 2 = .ok (.getstatic 1053, 3) := by decide +kernel
theorem dJ0_checkIndex_df160_5 : decode cJ0_checkIndex_df160 5 = .ok (.invokestatic 1059, 3) := by decide +kernel
theorem dJ0_checkIndex_df160_8 : decode cJ0_checkIndex_df160 8 = .ok (.pop, 1) := by decide +kernel
theorem dJ0_checkIndex_df160_9 : decode cJ0_checkIndex_df160 9 = .ok (.return_, 1) := by decide +kernel
def T_J0_checkIndex_df160 (post : PO) : List (Nat × OP) := [(0, o_iload 0 1), (1, o_iload 1 2), (2, o_ref 120 5), (5, o_callS S_J3_checkIndex_8e157 3 8), (8, o_pop 9), (9, o_ret post)]
theorem k_J0_checkIndex_df160_0 (post : PO) : lk (T_J0_checkIndex_df160 post) 0 = o_iload 0 1 := rfl
theorem k_J0_checkIndex_df160_1 (post : PO) : lk (T_J0_checkIndex_df160 post) 1 = o_iload 1 2 := rfl
theorem k_J0_checkIndex_df160_2 (post : PO) : lk (T_J0_checkIndex_df160 post) 2 = o_ref 120 5 := rfl
theorem k_J0_checkIndex_df160_5 (post : PO) : lk (T_J0_checkIndex_df160 post) 5 = o_callS S_J3_checkIndex_8e157 3 8 := rfl
theorem k_J0_checkIndex_df160_8 (post : PO) : lk (T_J0_checkIndex_df160 post) 8 = o_pop 9 := rfl
theorem k_J0_checkIndex_df160_9 (post : PO) : lk (T_J0_checkIndex_df160 post) 9 = o_ret post := rfl
set_option maxRecDepth 100000 in
theorem t_J0_checkIndex_df160 {p : Program} {l : Launch} {e : Env} {s : State} {m : MethodId} {args : Array Value} {below : List Frame} {meth : Method} {c : Code} {D : va_G} {dA : Nat → ClassId} {ad : Nat → Nat} (post : PO) (C : CX p s m args meth c cJ0_checkIndex_df160 2 yJ0_checkIndex_df160.cls D dA ad (AA ad s.heap.size)) (hr : meth.sig.returnType = none) : SndL (WW p l e ({ frames := 1, cells := 0, slots := 0, locals := 22 } : Room) s m args below meth c 0 0 (MQ below (CQ D dA ad post (AA ad s.heap.size)) args s 0 0 (AA ad s.heap.size)) 2 D dA ad (AA ad s.heap.size)) (T_J0_checkIndex_df160 post) := by
  refine snd_c (s_iload_n C rfl dJ0_checkIndex_df160_0) ?_
  refine snd_c (s_iload_n C rfl dJ0_checkIndex_df160_1) ?_
  refine snd_c (s_sioobe C fl_RJ0_1053 dJ0_checkIndex_df160_2) ?_
  refine snd_c (s_callS C c_J3_checkIndex_8e157 cw_RJ0_1059 ⟨rfl, rfl⟩ ⟨by decide +kernel, by decide +kernel, by decide +kernel⟩ ⟨by decide, by decide⟩ ⟨Nat.zero_le _, Nat.zero_le _⟩ dJ0_checkIndex_df160_5) ?_
  refine snd_c (s_pop C dJ0_checkIndex_df160_8) ?_
  refine snd_c (s_ret C hr dJ0_checkIndex_df160_9) ?_
  exact trivial
set_option maxRecDepth 100000 in
theorem v_J0_checkIndex_df160 : ∀ as M post, S_J0_checkIndex_df160 as M post → wsum as ≤ 2 ∧ RUN (T_J0_checkIndex_df160 post) 0 (entL 2 as) [] M := by
  rintro as M post ⟨a, b, rfl, hab, hb, h⟩
  refine ⟨Nat.le_refl 2, run_wp 60 ?_⟩
  dsimp only [k_J0_checkIndex_df160_0, k_J0_checkIndex_df160_1, k_J0_checkIndex_df160_2, k_J0_checkIndex_df160_5, k_J0_checkIndex_df160_8, k_J0_checkIndex_df160_9, wp1, wp_s, cutIn, kont, Nat.reduceSub, Nat.reduceAdd, nth, o_const, o_lconst, o_ref, o_iload, o_lload, o_aload, o_istore, o_lstore, o_astore, o_iinc, o_bin, o_div, o_un, o_lbin, o_lsh, o_lcmp, o_i2l, o_l2i, o_if, o_icmp, o_goto, o_dup, o_dup2, o_pop, fav, o_getf, o_putI, o_putZ, o_putL, o_ald, o_ast, o_alen, popn, rst, o_callV, o_callT, o_callS, swx, o_sw, o_ret, o_iret, o_zret, o_cret, o_lret, o_aret, lg, lput, lput2, ls1, isL, entL, wsum, rdI1, rdI2, rdA1, rdA21, rdA22, rdL1, rdL22, rdL21, upN_at, rep, sh_0, F_0_0, F_0_1, F_0_2, F_0_3, F_0_4, F_0_5, F_0_6, F_0_7, F_0_8, sh_1, F_1_0, F_1_1, F_1_2, F_1_3, F_1_4, F_1_5, sh_3, F_3_0, F_3_1, F_3_2, F_3_3, F_3_4, F_3_5, sh_5, F_5_0, F_5_1, F_5_2, F_5_3, F_5_4, F_5_5, F_5_6, F_5_7, F_5_8, sh_12, F_12_0, F_12_1, F_12_2, F_12_3, F_12_4, F_12_5, sh_14, F_14_0, F_14_1, F_14_2, F_14_3, F_14_4, F_14_5, F_14_6, F_14_7, F_14_8, sh_21, F_21_0, F_21_1, F_21_2, F_21_3, F_21_4, F_21_5, F_21_6, F_21_7, F_21_8, sh_28, F_28_0, F_28_1, F_28_2, F_28_3, F_28_4, F_28_5, F_28_6, F_28_7, F_28_8, sh_35, F_35_0, sh_39, F_39_0, F_39_1, F_39_2, F_39_3, F_39_4, F_39_5, F_39_6, F_39_7, F_39_8, F_39_9, F_39_10, F_39_11, F_39_12, F_39_13, A_2, A_4, A_6, A_7, A_8, A_9, A_10, A_11, A_13, A_15, A_16, A_17, A_18, A_19, A_20, A_22, A_23, A_24, A_25, A_26, A_27, A_29, A_30, A_31, A_32, A_33, A_34, A_36, A_37, A_38, A_40, A_41, A_42, A_43, A_44, A_45, A_46, A_47, o_svalue, o_scoder, o_slen, o_sbyte, S_J3_checkIndex_8e157]
  exact ⟨a, b, rfl, hab, hb, h⟩
theorem c_J0_checkIndex_df160 : Ctr yJ0_checkIndex_df160 cJ0_checkIndex_df160 2 none ({ frames := 1, cells := 0, slots := 0, locals := 22 } : Room) S_J0_checkIndex_df160 := ctr_of (T := T_J0_checkIndex_df160) (by decide +kernel) (fun post C hr => t_J0_checkIndex_df160 post C hr) v_J0_checkIndex_df160
theorem cw_RJ1_9 : ∀ w ∈ ([.methodLink RJ1 9 yJ0_checkIndex_df160, .static yJ0_checkIndex_df160, .initialized yJ0_checkIndex_df160.cls, .code yJ0_checkIndex_df160 cJ0_checkIndex_df160 2 none] : List Cond), w ∈ tb := tb_all [290, 291, 60, 292] (by decide +kernel) (by decide +kernel)
theorem dJ1_charAt_3b067_0 : decode cJ1_charAt_3b067 0 = .ok (.iload_n 1, 1) := by decide +kernel
theorem dJ1_charAt_3b067_1 : decode cJ1_charAt_3b067 1 = .ok (.aload_n 0, 1) := by decide +kernel
theorem dJ1_charAt_3b067_2 : decode cJ1_charAt_3b067 2 = .ok (.arraylength, 1) := by decide +kernel
theorem dJ1_charAt_3b067_3 : decode cJ1_charAt_3b067 3 = .ok (.invokestatic 9, 3) := by decide +kernel
theorem dJ1_charAt_3b067_6 : decode cJ1_charAt_3b067 6 = .ok (.aload_n 0, 1) := by decide +kernel
theorem dJ1_charAt_3b067_7 : decode cJ1_charAt_3b067 7 = .ok (.iload_n 1, 1) := by decide +kernel
theorem dJ1_charAt_3b067_8 : decode cJ1_charAt_3b067 8 = .ok (.baload, 1) := by decide +kernel
theorem dJ1_charAt_3b067_9 : decode cJ1_charAt_3b067 9 = .ok (.sipush 255, 3) := by decide +kernel
theorem dJ1_charAt_3b067_12 : decode cJ1_charAt_3b067 12 = .ok (.iand, 1) := by decide +kernel
theorem dJ1_charAt_3b067_13 : decode cJ1_charAt_3b067 13 = .ok (.i2c, 1) := by decide +kernel
theorem dJ1_charAt_3b067_14 : decode cJ1_charAt_3b067 14 = .ok (.ireturn, 1) := by decide +kernel
def T_J1_charAt_3b067 (post : PO) : List (Nat × OP) := [(0, o_iload 1 1), (1, o_aload 0 2), (2, o_slen 3), (3, o_callS S_J0_checkIndex_df160 2 6), (6, o_aload 0 7), (7, o_iload 1 8), (8, o_sbyte 9), (9, o_const 255 12), (12, o_bin (fun x y => x &&& y) 13), (13, o_un (fun x => (x.toUInt32 % 65536).toInt32) 14), (14, o_cret post)]
theorem k_J1_charAt_3b067_0 (post : PO) : lk (T_J1_charAt_3b067 post) 0 = o_iload 1 1 := rfl
theorem k_J1_charAt_3b067_1 (post : PO) : lk (T_J1_charAt_3b067 post) 1 = o_aload 0 2 := rfl
theorem k_J1_charAt_3b067_2 (post : PO) : lk (T_J1_charAt_3b067 post) 2 = o_slen 3 := rfl
theorem k_J1_charAt_3b067_3 (post : PO) : lk (T_J1_charAt_3b067 post) 3 = o_callS S_J0_checkIndex_df160 2 6 := rfl
theorem k_J1_charAt_3b067_6 (post : PO) : lk (T_J1_charAt_3b067 post) 6 = o_aload 0 7 := rfl
theorem k_J1_charAt_3b067_7 (post : PO) : lk (T_J1_charAt_3b067 post) 7 = o_iload 1 8 := rfl
theorem k_J1_charAt_3b067_8 (post : PO) : lk (T_J1_charAt_3b067 post) 8 = o_sbyte 9 := rfl
theorem k_J1_charAt_3b067_9 (post : PO) : lk (T_J1_charAt_3b067 post) 9 = o_const 255 12 := rfl
theorem k_J1_charAt_3b067_12 (post : PO) : lk (T_J1_charAt_3b067 post) 12 = o_bin (fun x y => x &&& y) 13 := rfl
theorem k_J1_charAt_3b067_13 (post : PO) : lk (T_J1_charAt_3b067 post) 13 = o_un (fun x => (x.toUInt32 % 65536).toInt32) 14 := rfl
theorem k_J1_charAt_3b067_14 (post : PO) : lk (T_J1_charAt_3b067 post) 14 = o_cret post := rfl
set_option maxRecDepth 100000 in
theorem t_J1_charAt_3b067 {p : Program} {l : Launch} {e : Env} {s : State} {m : MethodId} {args : Array Value} {below : List Frame} {meth : Method} {c : Code} {D : va_G} {dA : Nat → ClassId} {ad : Nat → Nat} (post : PO) (C : CX p s m args meth c cJ1_charAt_3b067 2 yJ1_charAt_3b067.cls D dA ad (AA ad s.heap.size)) (hr : meth.sig.returnType = (some .char)) : SndL (WW p l e ({ frames := 2, cells := 0, slots := 0, locals := 43 } : Room) s m args below meth c 0 0 (MQ below (CQ D dA ad post (AA ad s.heap.size)) args s 0 0 (AA ad s.heap.size)) 2 D dA ad (AA ad s.heap.size)) (T_J1_charAt_3b067 post) := by
  refine snd_c (s_iload_n C rfl dJ1_charAt_3b067_0) ?_
  refine snd_c (s_aload_n C rfl dJ1_charAt_3b067_1) ?_
  refine snd_c (s_slen C dJ1_charAt_3b067_2) ?_
  refine snd_c (s_callS C c_J0_checkIndex_df160 cw_RJ1_9 ⟨rfl, rfl⟩ ⟨by decide +kernel, by decide +kernel, by decide +kernel⟩ ⟨by decide, by decide⟩ ⟨Nat.zero_le _, Nat.zero_le _⟩ dJ1_charAt_3b067_3) ?_
  refine snd_c (s_aload_n C rfl dJ1_charAt_3b067_6) ?_
  refine snd_c (s_iload_n C rfl dJ1_charAt_3b067_7) ?_
  refine snd_c (s_sbyte C dJ1_charAt_3b067_8) ?_
  refine snd_c (s_sipush C dJ1_charAt_3b067_9 rfl) ?_
  refine snd_c (s_iand C dJ1_charAt_3b067_12) ?_
  refine snd_c (s_i2c C dJ1_charAt_3b067_13) ?_
  refine snd_c (s_cret C hr dJ1_charAt_3b067_14) ?_
  exact trivial
theorem ch_ok : ∀ i, i < 4 → ∀ j, j < lenS.getD i 0 → (((bytS.getD i []).getD j 0 &&& 255).toUInt32 % 65536).toInt32 = (bytS.getD i []).getD j 0 ∧ (bytS.getD i []).getD j 0 = nI ((bytS.getD i []).getD j 0).toNatClampNeg ∧ ((bytS.getD i []).getD j 0).toNatClampNeg < 128 := by decide +kernel
set_option maxRecDepth 100000 in
theorem v_J1_charAt_3b067 : ∀ as M post, S_J1_charAt_3b067 as M post → wsum as ≤ 2 ∧ RUN (T_J1_charAt_3b067 post) 0 (entL 2 as) [] M := by
  rintro as M post ⟨i, j, rfl, hi, hj, h⟩
  refine ⟨Nat.le_refl 2, ?_⟩
  rcases (by omega : i = 0 ∨ i = 1 ∨ i = 2 ∨ i = 3) with rfl | rfl | rfl | rfl
  all_goals
    refine run_wp 60 ?_
    dsimp only [k_J1_charAt_3b067_0, k_J1_charAt_3b067_1, k_J1_charAt_3b067_2, k_J1_charAt_3b067_3, k_J1_charAt_3b067_6, k_J1_charAt_3b067_7, k_J1_charAt_3b067_8, k_J1_charAt_3b067_9, k_J1_charAt_3b067_12, k_J1_charAt_3b067_13, k_J1_charAt_3b067_14, wp1, wp_s, cutIn, kont, Nat.reduceSub, Nat.reduceAdd, nth, o_const, o_lconst, o_ref, o_iload, o_lload, o_aload, o_istore, o_lstore, o_astore, o_iinc, o_bin, o_div, o_un, o_lbin, o_lsh, o_lcmp, o_i2l, o_l2i, o_if, o_icmp, o_goto, o_dup, o_dup2, o_pop, fav, o_getf, o_putI, o_putZ, o_putL, o_ald, o_ast, o_alen, popn, rst, o_callV, o_callT, o_callS, swx, o_sw, o_ret, o_iret, o_zret, o_cret, o_lret, o_aret, lg, lput, lput2, ls1, isL, entL, wsum, rdI1, rdI2, rdA1, rdA21, rdA22, rdL1, rdL22, rdL21, upN_at, rep, sh_0, F_0_0, F_0_1, F_0_2, F_0_3, F_0_4, F_0_5, F_0_6, F_0_7, F_0_8, sh_1, F_1_0, F_1_1, F_1_2, F_1_3, F_1_4, F_1_5, sh_3, F_3_0, F_3_1, F_3_2, F_3_3, F_3_4, F_3_5, sh_5, F_5_0, F_5_1, F_5_2, F_5_3, F_5_4, F_5_5, F_5_6, F_5_7, F_5_8, sh_12, F_12_0, F_12_1, F_12_2, F_12_3, F_12_4, F_12_5, sh_14, F_14_0, F_14_1, F_14_2, F_14_3, F_14_4, F_14_5, F_14_6, F_14_7, F_14_8, sh_21, F_21_0, F_21_1, F_21_2, F_21_3, F_21_4, F_21_5, F_21_6, F_21_7, F_21_8, sh_28, F_28_0, F_28_1, F_28_2, F_28_3, F_28_4, F_28_5, F_28_6, F_28_7, F_28_8, sh_35, F_35_0, sh_39, F_39_0, F_39_1, F_39_2, F_39_3, F_39_4, F_39_5, F_39_6, F_39_7, F_39_8, F_39_9, F_39_10, F_39_11, F_39_12, F_39_13, A_2, A_4, A_6, A_7, A_8, A_9, A_10, A_11, A_13, A_15, A_16, A_17, A_18, A_19, A_20, A_22, A_23, A_24, A_25, A_26, A_27, A_29, A_30, A_31, A_32, A_33, A_34, A_36, A_37, A_38, A_40, A_41, A_42, A_43, A_44, A_45, A_46, A_47, o_svalue, o_scoder, o_slen, o_sbyte, S_J0_checkIndex_df160]
    refine ⟨j, _, rfl, hj, by decide, ?_⟩
    refine ⟨j, hj, rfl, ⟨_, ?_, (ch_ok _ (by decide) j hj).1.trans (ch_ok _ (by decide) j hj).2.1⟩, ?_⟩
    · exact Nat.lt_trans (ch_ok _ (by decide) j hj).2.2 (by decide)
    · have e := (ch_ok _ (by decide) j hj).1
      exact Eq.mpr (congrArg (fun z => post (some (VI z)) M) e) h
theorem c_J1_charAt_3b067 : Ctr yJ1_charAt_3b067 cJ1_charAt_3b067 2 (some .char) ({ frames := 2, cells := 0, slots := 0, locals := 43 } : Room) S_J1_charAt_3b067 := ctr_of (T := T_J1_charAt_3b067) (by decide +kernel) (fun post C hr => t_J1_charAt_3b067 post C hr) v_J1_charAt_3b067
theorem cw_RJ0_492 : ∀ w ∈ ([.methodLink RJ0 492 yJ0_isLatin1_aae02, .instanceMethod yJ0_isLatin1_aae02, .selects yJ0_isLatin1_aae02.cls yJ0_isLatin1_aae02 yJ0_isLatin1_aae02, .initialized yJ0_isLatin1_aae02.cls, .code yJ0_isLatin1_aae02 cJ0_isLatin1_aae02 1 (some .boolean)] : List Cond), w ∈ tb := tb_all [283, 284, 285, 60, 286] (by decide +kernel) (by decide +kernel)
theorem cw_RJ0_495 : ∀ w ∈ ([.methodLink RJ0 495 yJ1_charAt_3b067, .static yJ1_charAt_3b067, .initialized yJ1_charAt_3b067.cls, .code yJ1_charAt_3b067 cJ1_charAt_3b067 2 (some .char)] : List Cond), w ∈ tb := tb_all [287, 288, 61, 289] (by decide +kernel) (by decide +kernel)
theorem dJ0_charAt_5068e_0 : decode cJ0_charAt_5068e 0 = .ok (.aload_n 0, 1) := by decide +kernel
theorem dJ0_charAt_5068e_1 : decode cJ0_charAt_5068e 1 = .ok (.invokevirtual 492, 3) := by decide +kernel
theorem dJ0_charAt_5068e_4 : decode cJ0_charAt_5068e 4 = .ok (.ifCond .eq 12, 3) := by decide +kernel
theorem dJ0_charAt_5068e_7 : decode cJ0_charAt_5068e 7 = .ok (.aload_n 0, 1) := by decide +kernel
theorem dJ0_charAt_5068e_8 : decode cJ0_charAt_5068e 8 = .ok (.getfield 9, 3) := by decide +kernel
theorem dJ0_charAt_5068e_11 : decode cJ0_charAt_5068e 11 = .ok (.iload_n 1, 1) := by decide +kernel
theorem dJ0_charAt_5068e_12 : decode cJ0_charAt_5068e 12 = .ok (.invokestatic 495, 3) := by decide +kernel
theorem dJ0_charAt_5068e_15 : decode cJ0_charAt_5068e 15 = .ok (.ireturn, 1) := by decide +kernel
def T_J0_charAt_5068e (post : PO) : List (Nat × OP) := [(0, o_aload 0 1), (1, o_callT S_J0_isLatin1_aae02 0 4), (4, o_if (fun x => x = 0) 16 7), (7, o_aload 0 8), (8, o_svalue 11), (11, o_iload 1 12), (12, o_callS S_J1_charAt_3b067 2 15), (15, o_cret post)]
theorem k_J0_charAt_5068e_0 (post : PO) : lk (T_J0_charAt_5068e post) 0 = o_aload 0 1 := rfl
theorem k_J0_charAt_5068e_1 (post : PO) : lk (T_J0_charAt_5068e post) 1 = o_callT S_J0_isLatin1_aae02 0 4 := rfl
theorem k_J0_charAt_5068e_4 (post : PO) : lk (T_J0_charAt_5068e post) 4 = o_if (fun x => x = 0) 16 7 := rfl
theorem k_J0_charAt_5068e_7 (post : PO) : lk (T_J0_charAt_5068e post) 7 = o_aload 0 8 := rfl
theorem k_J0_charAt_5068e_8 (post : PO) : lk (T_J0_charAt_5068e post) 8 = o_svalue 11 := rfl
theorem k_J0_charAt_5068e_11 (post : PO) : lk (T_J0_charAt_5068e post) 11 = o_iload 1 12 := rfl
theorem k_J0_charAt_5068e_12 (post : PO) : lk (T_J0_charAt_5068e post) 12 = o_callS S_J1_charAt_3b067 2 15 := rfl
theorem k_J0_charAt_5068e_15 (post : PO) : lk (T_J0_charAt_5068e post) 15 = o_cret post := rfl
set_option maxRecDepth 100000 in
theorem t_J0_charAt_5068e {p : Program} {l : Launch} {e : Env} {s : State} {m : MethodId} {args : Array Value} {below : List Frame} {meth : Method} {c : Code} {D : va_G} {dA : Nat → ClassId} {ad : Nat → Nat} (post : PO) (C : CX p s m args meth c cJ0_charAt_5068e 2 yJ0_charAt_5068e.cls D dA ad (AA ad s.heap.size)) (hr : meth.sig.returnType = (some .char)) : SndL (WW p l e ({ frames := 3, cells := 0, slots := 0, locals := 64 } : Room) s m args below meth c 0 0 (MQ below (CQ D dA ad post (AA ad s.heap.size)) args s 0 0 (AA ad s.heap.size)) 2 D dA ad (AA ad s.heap.size)) (T_J0_charAt_5068e post) := by
  refine snd_c (s_aload_n C rfl dJ0_charAt_5068e_0) ?_
  refine snd_c (s_callT C c_J0_isLatin1_aae02 rfl cw_RJ0_492 ⟨rfl, rfl⟩ ⟨by decide +kernel, by decide +kernel, by decide +kernel⟩ ⟨by decide, by decide⟩ ⟨Nat.zero_le _, Nat.zero_le _⟩ dJ0_charAt_5068e_1) ?_
  refine snd_c (s_if_eq C dJ0_charAt_5068e_4 (by decide)) ?_
  refine snd_c (s_aload_n C rfl dJ0_charAt_5068e_7) ?_
  refine snd_c (s_svalue C fl_RJ0_9 dJ0_charAt_5068e_8) ?_
  refine snd_c (s_iload_n C rfl dJ0_charAt_5068e_11) ?_
  refine snd_c (s_callS C c_J1_charAt_3b067 cw_RJ0_495 ⟨rfl, rfl⟩ ⟨by decide +kernel, by decide +kernel, by decide +kernel⟩ ⟨by decide, by decide⟩ ⟨Nat.zero_le _, Nat.zero_le _⟩ dJ0_charAt_5068e_12) ?_
  refine snd_c (s_cret C hr dJ0_charAt_5068e_15) ?_
  exact trivial
set_option maxRecDepth 100000 in
theorem v_J0_charAt_5068e : ∀ as M post, S_J0_charAt_5068e as M post → wsum as ≤ 2 ∧ RUN (T_J0_charAt_5068e post) 0 (entL 2 as) [] M := by
  rintro as M post ⟨i, j, rfl, hi, hj, h⟩
  refine ⟨Nat.le_refl 2, ?_⟩
  rcases (by omega : i = 0 ∨ i = 1 ∨ i = 2 ∨ i = 3) with rfl | rfl | rfl | rfl
  all_goals
    refine run_wp 60 ?_
    dsimp only [k_J0_charAt_5068e_0, k_J0_charAt_5068e_1, k_J0_charAt_5068e_4, k_J0_charAt_5068e_7, k_J0_charAt_5068e_8, k_J0_charAt_5068e_11, k_J0_charAt_5068e_12, k_J0_charAt_5068e_15, wp1, wp_s, cutIn, kont, Nat.reduceSub, Nat.reduceAdd, nth, o_const, o_lconst, o_ref, o_iload, o_lload, o_aload, o_istore, o_lstore, o_astore, o_iinc, o_bin, o_div, o_un, o_lbin, o_lsh, o_lcmp, o_i2l, o_l2i, o_if, o_icmp, o_goto, o_dup, o_dup2, o_pop, fav, o_getf, o_putI, o_putZ, o_putL, o_ald, o_ast, o_alen, popn, rst, o_callV, o_callT, o_callS, swx, o_sw, o_ret, o_iret, o_zret, o_cret, o_lret, o_aret, lg, lput, lput2, ls1, isL, entL, wsum, rdI1, rdI2, rdA1, rdA21, rdA22, rdL1, rdL22, rdL21, upN_at, rep, sh_0, F_0_0, F_0_1, F_0_2, F_0_3, F_0_4, F_0_5, F_0_6, F_0_7, F_0_8, sh_1, F_1_0, F_1_1, F_1_2, F_1_3, F_1_4, F_1_5, sh_3, F_3_0, F_3_1, F_3_2, F_3_3, F_3_4, F_3_5, sh_5, F_5_0, F_5_1, F_5_2, F_5_3, F_5_4, F_5_5, F_5_6, F_5_7, F_5_8, sh_12, F_12_0, F_12_1, F_12_2, F_12_3, F_12_4, F_12_5, sh_14, F_14_0, F_14_1, F_14_2, F_14_3, F_14_4, F_14_5, F_14_6, F_14_7, F_14_8, sh_21, F_21_0, F_21_1, F_21_2, F_21_3, F_21_4, F_21_5, F_21_6, F_21_7, F_21_8, sh_28, F_28_0, F_28_1, F_28_2, F_28_3, F_28_4, F_28_5, F_28_6, F_28_7, F_28_8, sh_35, F_35_0, sh_39, F_39_0, F_39_1, F_39_2, F_39_3, F_39_4, F_39_5, F_39_6, F_39_7, F_39_8, F_39_9, F_39_10, F_39_11, F_39_12, F_39_13, A_2, A_4, A_6, A_7, A_8, A_9, A_10, A_11, A_13, A_15, A_16, A_17, A_18, A_19, A_20, A_22, A_23, A_24, A_25, A_26, A_27, A_29, A_30, A_31, A_32, A_33, A_34, A_36, A_37, A_38, A_40, A_41, A_42, A_43, A_44, A_45, A_46, A_47, o_svalue, o_scoder, o_slen, o_sbyte, S_J0_isLatin1_aae02, S_J1_charAt_3b067]
    first | exact ⟨0, rfl, by decide, fun z => absurd z (by decide), fun _ => ⟨0, j, rfl, by decide, hj, ⟨_, Nat.lt_trans (ch_ok 0 (by decide) j hj).2.2 (by decide), (ch_ok 0 (by decide) j hj).2.1⟩, h⟩⟩ | exact ⟨1, rfl, by decide, fun z => absurd z (by decide), fun _ => ⟨1, j, rfl, by decide, hj, ⟨_, Nat.lt_trans (ch_ok 1 (by decide) j hj).2.2 (by decide), (ch_ok 1 (by decide) j hj).2.1⟩, h⟩⟩ | exact ⟨2, rfl, by decide, fun z => absurd z (by decide), fun _ => ⟨2, j, rfl, by decide, hj, ⟨_, Nat.lt_trans (ch_ok 2 (by decide) j hj).2.2 (by decide), (ch_ok 2 (by decide) j hj).2.1⟩, h⟩⟩ | exact ⟨3, rfl, by decide, fun z => absurd z (by decide), fun _ => ⟨3, j, rfl, by decide, hj, ⟨_, Nat.lt_trans (ch_ok 3 (by decide) j hj).2.2 (by decide), (ch_ok 3 (by decide) j hj).2.1⟩, h⟩⟩
theorem c_J0_charAt_5068e : Ctr yJ0_charAt_5068e cJ0_charAt_5068e 2 (some .char) ({ frames := 3, cells := 0, slots := 0, locals := 64 } : Room) S_J0_charAt_5068e := ctr_of (T := T_J0_charAt_5068e) (by decide +kernel) (fun post C hr => t_J0_charAt_5068e post C hr) v_J0_charAt_5068e
