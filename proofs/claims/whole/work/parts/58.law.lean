/-! THE CLAIM OUT OF ONE WALK OF THE LAW'S BODY. Your part is whole_start (and what it stands on); all else here is the same for every law, but numbers. -/
def R_law : String := "NotchKeysLaw"
def lw_P (b : Addr) (xs : List Int32) (args : Array Value) (s : State) : Prop := args = #[.ref b] ∧ s.IntsAt b xs ∧ xs.length ≤ 2048 ∧ (Jvm.Cond.and given_1 narrow_1).before args s = true
def lw_Q (_ : Array Value) (s : State) (o : Outcome) (t : State) : Prop := o = .returned (some (.int 1)) ∧ Framed s o t [] 48 10347
def lw_Z (below : List Frame) (a : Array Value) (s : State) : State → Prop := fun t => ∃ o, t.status = .running ∧ Ended t below o ∧ lw_Q a s o t
/-- the law's own end, with 1 on the stack, nothing written that was there before, its room as the claim has it -/
theorem lw_ret {p : Program} {l : Launch} {e : Env} {s : State} {m : MethodId} {below : List Frame} {meth : Method} {c : Code} {b : Nat} (hx : p.tables.exec = Jvm.exec) (hb : c.code = code) (hr : meth.sig.returnType = ret) (hlocks : meth.locks = false) {pc : Nat} {H : Heap} {ls : Array Slot} (hdg : decode code pc = .ok (.ireturn, 1)) : W p l e room_1 s m #[Value.ref b] below meth c H [] 48 10347 (lw_Z below #[Value.ref b] s) (F0 m pc ls [.int 1]) := by
  intro T hT X
  obtain ⟨fs, hret, hrun, hended, hW, hframe⟩ := X.leave (v := some (.int 1)) (hlocks := hlocks) (fun h => by rw [hr] at h; cases h)
  have hmeth' : T.vm.method? m = some meth := X.method'
  refine ⟨T.setFrames fs, ?_, .returned (some (.int 1)), hrun, hended, rfl, ⟨_, rfl⟩, hW, hframe⟩
  jvm_step X.here [X.here.top, hx, hb, hdg, hmeth', hr, ret, narrow_b1]
  (try refine ⟨rfl, ?_⟩); (try refine ⟨rfl, ?_⟩)
  first | (intro acts; rw [hret _ acts rfl rfl rfl]) | rw [hret _ _ rfl rfl rfl]
  exact Steps.refl _
/-- what holds at the law's entry: the machine, the code, the tables' words (any of lw_tbl by 'hts w (by decide +kernel)'), the script of L ints xs at the cell b, what the Statement gives of the start (any of its parts by flat_of_before) -/
def lw_At (p : Program) (s : State) (m : MethodId) (meth : Method) (c : Code) (b L : Nat) (xs : Nat → Int32) : Prop :=
  p.tables.exec = Jvm.exec ∧ c.code = code ∧ meth.sig.returnType = ret ∧ c.maxLocals = 4 ∧ s.vm.findClass R_law = some m.cls ∧ (∀ w ∈ lw_tbl, w.before #[Value.ref b] s = true) ∧ va_X b L xs s s.heap ∧ b < s.heap.size ∧ meth.locks = false ∧ (Jvm.Cond.and given_1 narrow_1).before #[Value.ref b] s = true

/-- the script's length, its ints; the law's end -/
def o_xlen (L n : Nat) : OP := fun K lv st M => match st with
  | .inr (.inr k) :: st => match Nat.beq k 130 with | true => K n lv (VI (nI L) :: st) M | false => False
  | _ => False
def o_xld (L : Nat) (xs : Nat → Int32) (n : Nat) : OP := fun K lv st M => match st with
  | .inl i :: .inr (.inr k) :: st => match Nat.beq k 130 with | true => ∃ j : Nat, j < L ∧ i = nI j ∧ K n lv (VI (xs j) :: st) M | false => False
  | _ => False
def o_fin : OP := fun _ _ st _ => match st with
  | [.inl x] => x = 1
  | _ => False
/-- what is new since the law's start -/
abbrev LA (s : State) : Nat → Prop := fun q => s.heap.size ≤ q
section LAW
variable {p : Program} {l : Launch} {e : Env} {R : Room} {s : State} {m : MethodId} {args : Array Value} {below : List Frame} {meth : Method} {c : Code} {cells slots : Nat} {Q : State → Prop} {nL : Nat} {D : va_G} {dA : Nat → ClassId} {ad : Nat → Nat} {A : Nat → Prop} {cc : ByteArray} {own : String} {pc : Nat} {b L : Nat} {xs : Nat → Int32}
theorem s_xlen (C : CX p s m args meth c cc nL own D dA ad A) (hX : va_X b L xs s s.heap) (hbl : b < s.heap.size) (hbA : ¬ A b) (hab : ad 130 = b) (hd : decode cc pc = .ok (.arraylength, 1)) : Snd (WW p l e R s m args below meth c cells slots Q nL D dA ad A) pc (o_xlen L (pc + 1)) := by
  intro K hK lv st M h H locs ls hP hS hL
  unfold o_xlen at h
  split at h
  · rename_i k st'
    split at h
    · rename_i hk
      have e1 : k = 130 := Nat.eq_of_beq_eq_true hk
      subst e1
      have h1 := hK _ _ _ _ h H locs ls hP hS hL
      show W p l e R s m args below meth c H locs cells slots Q (F0 m pc ls (kv ad (VR 130) :: st'.map (kv ad)))
      rw [kv_ref (by decide), hab]
      exact va_slen C.1 C.2.1 hX hbl hbA hS hd h1
    · exact h.elim
  · exact h.elim
theorem s_xld (C : CX p s m args meth c cc nL own D dA ad A) (hX : va_X b L xs s s.heap) (hL8 : L ≤ 2048) (hbl : b < s.heap.size) (hbA : ¬ A b) (hab : ad 130 = b) (hd : decode cc pc = .ok (.iaload, 1)) : Snd (WW p l e R s m args below meth c cells slots Q nL D dA ad A) pc (o_xld L xs (pc + 1)) := by
  intro K hK lv st M h H locs ls hP hS hL
  unfold o_xld at h
  split at h
  · rename_i i k st'
    split at h
    · rename_i hk
      have e1 : k = 130 := Nat.eq_of_beq_eq_true hk
      subst e1
      obtain ⟨j, hj, rfl, h⟩ := h
      have h1 := hK _ _ _ _ h H locs ls hP hS hL
      show W p l e R s m args below meth c H locs cells slots Q (F0 m pc ls (.int (nI j) :: kv ad (VR 130) :: st'.map (kv ad)))
      rw [kv_ref (by decide), hab]
      refine va_sld C.1 C.2.1 hX hbl hbA hS (vp_in_nI hj (by omega)) hd ?_
      rw [nI_clamp (by omega)]
      exact h1
    · exact h.elim
  · exact h.elim
theorem s_fin (C : CX p s m #[Value.ref b] meth c code nL own D dA ad (LA s)) (hr : meth.sig.returnType = ret) (hd : decode code pc = .ok (.ireturn, 1)) : Snd (WW p l e room_1 s m #[Value.ref b] below meth c 48 10347 (lw_Z below #[Value.ref b] s) nL D dA ad (LA s)) pc o_fin := by
  intro K hK lv st M h H locs ls hP hS hL
  unfold o_fin at h
  split at h
  · rename_i x
    subst h
    exact va_forget (fun q hq => hS.2.2 q hq) (lw_ret C.1 C.2.1 hr C.2.2.2.2.2.2.2.2.2 hd)
  · exact h.elim
end LAW

theorem ctL_RL_13 : Cond.constantLong RL 13 (4294967295) ∈ tb := tb_of 897 (by decide +kernel) (by decide +kernel)
theorem cw_RL_15 : ∀ w ∈ ([.methodLink RL 15 yX4_type, .instanceMethod yX4_type, .selects yX4_type.cls yX4_type yX4_type, .initialized yX4_type.cls, .code yX4_type cX4_type 5 (some .int)] : List Cond), w ∈ tb := tb_all [214, 215, 216, 54, 217] (by decide +kernel) (by decide +kernel)
theorem cw_RL_19 : ∀ w ∈ ([.methodLink RL 19 yX5_type, .instanceMethod yX5_type, .selects yX5_type.cls yX5_type yX5_type, .initialized yX5_type.cls, .code yX5_type cX5_type 5 (some .int)] : List Cond), w ∈ tb := tb_all [676, 677, 678, 59, 679] (by decide +kernel) (by decide +kernel)
theorem cw_RL_20 : ∀ w ∈ ([.methodLink RL 20 yX4_clear, .instanceMethod yX4_clear, .selects yX4_clear.cls yX4_clear yX4_clear, .initialized yX4_clear.cls, .code yX4_clear cX4_clear 2 (some .int)] : List Cond), w ∈ tb := tb_all [222, 223, 224, 54, 225] (by decide +kernel) (by decide +kernel)
theorem cw_RL_24 : ∀ w ∈ ([.methodLink RL 24 yX5_clear, .instanceMethod yX5_clear, .selects yX5_clear.cls yX5_clear yX5_clear, .initialized yX5_clear.cls, .code yX5_clear cX5_clear 2 (some .int)] : List Cond), w ∈ tb := tb_all [684, 685, 686, 59, 687] (by decide +kernel) (by decide +kernel)
theorem cw_RL_25 : ∀ w ∈ ([.methodLink RL 25 yX4_house, .instanceMethod yX4_house, .selects yX4_house.cls yX4_house yX4_house, .initialized yX4_house.cls, .code yX4_house cX4_house 2 (some .int)] : List Cond), w ∈ tb := tb_all [226, 227, 228, 54, 229] (by decide +kernel) (by decide +kernel)
theorem cw_RL_28 : ∀ w ∈ ([.methodLink RL 28 yX5_house, .instanceMethod yX5_house, .selects yX5_house.cls yX5_house yX5_house, .initialized yX5_house.cls, .code yX5_house cX5_house 2 (some .int)] : List Cond), w ∈ tb := tb_all [688, 689, 690, 59, 691] (by decide +kernel) (by decide +kernel)
theorem cw_RL_29 : ∀ w ∈ ([.methodLink RL 29 yX4_key, .instanceMethod yX4_key, .selects yX4_key.cls yX4_key yX4_key, .initialized yX4_key.cls, .code yX4_key cX4_key 3 (some .int)] : List Cond), w ∈ tb := tb_all [377, 378, 379, 54, 380] (by decide +kernel) (by decide +kernel)
theorem cw_RL_33 : ∀ w ∈ ([.methodLink RL 33 yX5_key, .instanceMethod yX5_key, .selects yX5_key.cls yX5_key yX5_key, .initialized yX5_key.cls, .code yX5_key cX5_key 3 (some .int)] : List Cond), w ∈ tb := tb_all [732, 733, 734, 59, 735] (by decide +kernel) (by decide +kernel)
theorem cw_RL_34 : ∀ w ∈ ([.methodLink RL 34 yX4_lock, .instanceMethod yX4_lock, .selects yX4_lock.cls yX4_lock yX4_lock, .initialized yX4_lock.cls, .code yX4_lock cX4_lock 2 (some .int)] : List Cond), w ∈ tb := tb_all [385, 386, 387, 54, 388] (by decide +kernel) (by decide +kernel)
theorem cw_RL_38 : ∀ w ∈ ([.methodLink RL 38 yX5_lock, .instanceMethod yX5_lock, .selects yX5_lock.cls yX5_lock yX5_lock, .initialized yX5_lock.cls, .code yX5_lock cX5_lock 2 (some .int)] : List Cond), w ∈ tb := tb_all [740, 741, 742, 59, 743] (by decide +kernel) (by decide +kernel)
theorem cw_RL_39 : ∀ w ∈ ([.methodLink RL 39 yX4_laid, .instanceMethod yX4_laid, .selects yX4_laid.cls yX4_laid yX4_laid, .initialized yX4_laid.cls, .code yX4_laid cX4_laid 2 (some .int)] : List Cond), w ∈ tb := tb_all [393, 394, 395, 54, 396] (by decide +kernel) (by decide +kernel)
theorem cw_RL_42 : ∀ w ∈ ([.methodLink RL 42 yX5_laid, .instanceMethod yX5_laid, .selects yX5_laid.cls yX5_laid yX5_laid, .initialized yX5_laid.cls, .code yX5_laid cX5_laid 2 (some .int)] : List Cond), w ∈ tb := tb_all [748, 749, 750, 59, 751] (by decide +kernel) (by decide +kernel)
theorem cw_RL_43 : ∀ w ∈ ([.methodLink RL 43 yX4_cut, .instanceMethod yX4_cut, .selects yX4_cut.cls yX4_cut yX4_cut, .initialized yX4_cut.cls, .code yX4_cut cX4_cut 3 (some .int)] : List Cond), w ∈ tb := tb_all [412, 413, 414, 54, 415] (by decide +kernel) (by decide +kernel)
theorem cw_RL_46 : ∀ w ∈ ([.methodLink RL 46 yX5_cut, .instanceMethod yX5_cut, .selects yX5_cut.cls yX5_cut yX5_cut, .initialized yX5_cut.cls, .code yX5_cut cX5_cut 3 (some .int)] : List Cond), w ∈ tb := tb_all [764, 765, 766, 59, 767] (by decide +kernel) (by decide +kernel)
theorem cw_RL_47 : ∀ w ∈ ([.methodLink RL 47 yX4_give, .instanceMethod yX4_give, .selects yX4_give.cls yX4_give yX4_give, .initialized yX4_give.cls, .code yX4_give cX4_give 4 (some .int)] : List Cond), w ∈ tb := tb_all [428, 429, 430, 54, 431] (by decide +kernel) (by decide +kernel)
theorem cw_RL_50 : ∀ w ∈ ([.methodLink RL 50 yX5_give, .instanceMethod yX5_give, .selects yX5_give.cls yX5_give yX5_give, .initialized yX5_give.cls, .code yX5_give cX5_give 3 (some .int)] : List Cond), w ∈ tb := tb_all [772, 773, 774, 59, 775] (by decide +kernel) (by decide +kernel)
theorem cw_RL_51 : ∀ w ∈ ([.methodLink RL 51 yX4_lose, .instanceMethod yX4_lose, .selects yX4_lose.cls yX4_lose yX4_lose, .initialized yX4_lose.cls, .code yX4_lose cX4_lose 3 (some .int)] : List Cond), w ∈ tb := tb_all [433, 434, 435, 54, 436] (by decide +kernel) (by decide +kernel)
theorem cw_RL_54 : ∀ w ∈ ([.methodLink RL 54 yX5_lose, .instanceMethod yX5_lose, .selects yX5_lose.cls yX5_lose yX5_lose, .initialized yX5_lose.cls, .code yX5_lose cX5_lose 2 (some .int)] : List Cond), w ∈ tb := tb_all [784, 785, 786, 59, 787] (by decide +kernel) (by decide +kernel)
theorem cw_RL_55 : ∀ w ∈ ([.methodLink RL 55 yX4_forge, .instanceMethod yX4_forge, .selects yX4_forge.cls yX4_forge yX4_forge, .initialized yX4_forge.cls, .code yX4_forge cX4_forge 3 (some .int)] : List Cond), w ∈ tb := tb_all [437, 438, 439, 54, 440] (by decide +kernel) (by decide +kernel)
theorem cw_RL_58 : ∀ w ∈ ([.methodLink RL 58 yX5_forge, .instanceMethod yX5_forge, .selects yX5_forge.cls yX5_forge yX5_forge, .initialized yX5_forge.cls, .code yX5_forge cX5_forge 3 (some .int)] : List Cond), w ∈ tb := tb_all [788, 789, 790, 59, 791] (by decide +kernel) (by decide +kernel)
theorem cw_RL_59 : ∀ w ∈ ([.methodLink RL 59 yX4_undo, .instanceMethod yX4_undo, .selects yX4_undo.cls yX4_undo yX4_undo, .initialized yX4_undo.cls, .code yX4_undo cX4_undo 1 (some .int)] : List Cond), w ∈ tb := tb_all [441, 442, 443, 54, 444] (by decide +kernel) (by decide +kernel)
theorem cw_RL_62 : ∀ w ∈ ([.methodLink RL 62 yX5_undo, .instanceMethod yX5_undo, .selects yX5_undo.cls yX5_undo yX5_undo, .initialized yX5_undo.cls, .code yX5_undo cX5_undo 3 (some .int)] : List Cond), w ∈ tb := tb_all [792, 793, 794, 59, 795] (by decide +kernel) (by decide +kernel)
theorem cw_RL_63 : ∀ w ∈ ([.methodLink RL 63 yX4_alone, .instanceMethod yX4_alone, .selects yX4_alone.cls yX4_alone yX4_alone, .initialized yX4_alone.cls, .code yX4_alone cX4_alone 4 (some .int)] : List Cond), w ∈ tb := tb_all [449, 450, 451, 54, 452] (by decide +kernel) (by decide +kernel)
theorem cw_RL_66 : ∀ w ∈ ([.methodLink RL 66 yX5_alone, .instanceMethod yX5_alone, .selects yX5_alone.cls yX5_alone yX5_alone, .initialized yX5_alone.cls, .code yX5_alone cX5_alone 3 (some .int)] : List Cond), w ∈ tb := tb_all [796, 797, 798, 59, 799] (by decide +kernel) (by decide +kernel)
theorem cw_RL_67 : ∀ w ∈ ([.methodLink RL 67 yX4_fewest, .instanceMethod yX4_fewest, .selects yX4_fewest.cls yX4_fewest yX4_fewest, .initialized yX4_fewest.cls, .code yX4_fewest cX4_fewest 8 (some .int)] : List Cond), w ∈ tb := tb_all [465, 466, 467, 54, 468] (by decide +kernel) (by decide +kernel)
theorem cw_RL_71 : ∀ w ∈ ([.methodLink RL 71 yX5_fewest, .instanceMethod yX5_fewest, .selects yX5_fewest.cls yX5_fewest yX5_fewest, .initialized yX5_fewest.cls, .code yX5_fewest cX5_fewest 7 (some .int)] : List Cond), w ∈ tb := tb_all [804, 805, 806, 59, 807] (by decide +kernel) (by decide +kernel)
theorem cw_RL_72 : ∀ w ∈ ([.methodLink RL 72 yX4_opens, .instanceMethod yX4_opens, .selects yX4_opens.cls yX4_opens yX4_opens, .initialized yX4_opens.cls, .code yX4_opens cX4_opens 2 (some .int)] : List Cond), w ∈ tb := tb_all [475, 476, 477, 54, 478] (by decide +kernel) (by decide +kernel)
theorem cw_RL_75 : ∀ w ∈ ([.methodLink RL 75 yX5_opens, .instanceMethod yX5_opens, .selects yX5_opens.cls yX5_opens yX5_opens, .initialized yX5_opens.cls, .code yX5_opens cX5_opens 2 (some .int)] : List Cond), w ∈ tb := tb_all [811, 812, 813, 59, 814] (by decide +kernel) (by decide +kernel)
theorem cw_RL_76 : ∀ w ∈ ([.methodLink RL 76 yX4_groups, .instanceMethod yX4_groups, .selects yX4_groups.cls yX4_groups yX4_groups, .initialized yX4_groups.cls, .code yX4_groups cX4_groups 5 (some .int)] : List Cond), w ∈ tb := tb_all [500, 501, 502, 54, 503] (by decide +kernel) (by decide +kernel)
theorem cw_RL_79 : ∀ w ∈ ([.methodLink RL 79 yX5_groups, .instanceMethod yX5_groups, .selects yX5_groups.cls yX5_groups yX5_groups, .initialized yX5_groups.cls, .code yX5_groups cX5_groups 8 (some .int)] : List Cond), w ∈ tb := tb_all [831, 832, 833, 59, 834] (by decide +kernel) (by decide +kernel)
theorem cw_RL_80 : ∀ w ∈ ([.methodLink RL 80 yX4_wish, .instanceMethod yX4_wish, .selects yX4_wish.cls yX4_wish yX4_wish, .initialized yX4_wish.cls, .code yX4_wish cX4_wish 4 (some .int)] : List Cond), w ∈ tb := tb_all [512, 513, 514, 54, 515] (by decide +kernel) (by decide +kernel)
theorem cw_RL_83 : ∀ w ∈ ([.methodLink RL 83 yX5_wish, .instanceMethod yX5_wish, .selects yX5_wish.cls yX5_wish yX5_wish, .initialized yX5_wish.cls, .code yX5_wish cX5_wish 6 (some .int)] : List Cond), w ∈ tb := tb_all [835, 836, 837, 59, 838] (by decide +kernel) (by decide +kernel)
theorem cw_RL_84 : ∀ w ∈ ([.methodLink RL 84 yX4_shut, .instanceMethod yX4_shut, .selects yX4_shut.cls yX4_shut yX4_shut, .initialized yX4_shut.cls, .code yX4_shut cX4_shut 3 (some .int)] : List Cond), w ∈ tb := tb_all [529, 530, 531, 54, 532] (by decide +kernel) (by decide +kernel)
theorem cw_RL_87 : ∀ w ∈ ([.methodLink RL 87 yX5_shut, .instanceMethod yX5_shut, .selects yX5_shut.cls yX5_shut yX5_shut, .initialized yX5_shut.cls, .code yX5_shut cX5_shut 2 (some .int)] : List Cond), w ∈ tb := tb_all [843, 844, 845, 59, 846] (by decide +kernel) (by decide +kernel)
theorem cw_RL_88 : ∀ w ∈ ([.methodLink RL 88 yX4_brings, .instanceMethod yX4_brings, .selects yX4_brings.cls yX4_brings yX4_brings, .initialized yX4_brings.cls, .code yX4_brings cX4_brings 6 (some .int)] : List Cond), w ∈ tb := tb_all [533, 534, 535, 54, 536] (by decide +kernel) (by decide +kernel)
theorem cw_RL_91 : ∀ w ∈ ([.methodLink RL 91 yX5_brings, .instanceMethod yX5_brings, .selects yX5_brings.cls yX5_brings yX5_brings, .initialized yX5_brings.cls, .code yX5_brings cX5_brings 7 (some .int)] : List Cond), w ∈ tb := tb_all [847, 848, 849, 59, 850] (by decide +kernel) (by decide +kernel)
theorem cw_RL_92 : ∀ w ∈ ([.methodLink RL 92 yX4_rob, .instanceMethod yX4_rob, .selects yX4_rob.cls yX4_rob yX4_rob, .initialized yX4_rob.cls, .code yX4_rob cX4_rob 6 (some .int)] : List Cond), w ∈ tb := tb_all [545, 546, 547, 54, 548] (by decide +kernel) (by decide +kernel)
theorem cw_RL_95 : ∀ w ∈ ([.methodLink RL 95 yX5_rob, .instanceMethod yX5_rob, .selects yX5_rob.cls yX5_rob yX5_rob, .initialized yX5_rob.cls, .code yX5_rob cX5_rob 5 (some .int)] : List Cond), w ∈ tb := tb_all [851, 852, 853, 59, 854] (by decide +kernel) (by decide +kernel)
theorem cw_RL_96 : ∀ w ∈ ([.methodLink RL 96 yX4_apart, .instanceMethod yX4_apart, .selects yX4_apart.cls yX4_apart yX4_apart, .initialized yX4_apart.cls, .code yX4_apart cX4_apart 3 (some .int)] : List Cond), w ∈ tb := tb_all [554, 555, 556, 54, 557] (by decide +kernel) (by decide +kernel)
theorem cw_RL_99 : ∀ w ∈ ([.methodLink RL 99 yX5_apart, .instanceMethod yX5_apart, .selects yX5_apart.cls yX5_apart yX5_apart, .initialized yX5_apart.cls, .code yX5_apart cX5_apart 3 (some .int)] : List Cond), w ∈ tb := tb_all [859, 860, 861, 59, 862] (by decide +kernel) (by decide +kernel)
theorem cw_RL_100 : ∀ w ∈ ([.methodLink RL 100 yX4_slips, .instanceMethod yX4_slips, .selects yX4_slips.cls yX4_slips yX4_slips, .initialized yX4_slips.cls, .code yX4_slips cX4_slips 6 (some .int)] : List Cond), w ∈ tb := tb_all [558, 559, 560, 54, 561] (by decide +kernel) (by decide +kernel)
theorem cw_RL_103 : ∀ w ∈ ([.methodLink RL 103 yX5_slips, .instanceMethod yX5_slips, .selects yX5_slips.cls yX5_slips yX5_slips, .initialized yX5_slips.cls, .code yX5_slips cX5_slips 10 (some .int)] : List Cond), w ∈ tb := tb_all [863, 864, 865, 59, 866] (by decide +kernel) (by decide +kernel)
theorem cw_RL_104 : ∀ w ∈ ([.methodLink RL 104 yX4_odds, .instanceMethod yX4_odds, .selects yX4_odds.cls yX4_odds yX4_odds, .initialized yX4_odds.cls, .code yX4_odds cX4_odds 8 (some .int)] : List Cond), w ∈ tb := tb_all [565, 566, 567, 54, 568] (by decide +kernel) (by decide +kernel)
theorem cw_RL_107 : ∀ w ∈ ([.methodLink RL 107 yX5_odds, .instanceMethod yX5_odds, .selects yX5_odds.cls yX5_odds yX5_odds, .initialized yX5_odds.cls, .code yX5_odds cX5_odds 9 (some .int)] : List Cond), w ∈ tb := tb_all [867, 868, 869, 59, 870] (by decide +kernel) (by decide +kernel)
theorem cw_RL_108 : ∀ w ∈ ([.methodLink RL 108 yX4_rate, .instanceMethod yX4_rate, .selects yX4_rate.cls yX4_rate yX4_rate, .initialized yX4_rate.cls, .code yX4_rate cX4_rate 3 (some .int)] : List Cond), w ∈ tb := tb_all [572, 573, 574, 54, 575] (by decide +kernel) (by decide +kernel)
theorem cw_RL_111 : ∀ w ∈ ([.methodLink RL 111 yX5_rate, .instanceMethod yX5_rate, .selects yX5_rate.cls yX5_rate yX5_rate, .initialized yX5_rate.cls, .code yX5_rate cX5_rate 7 (some .int)] : List Cond), w ∈ tb := tb_all [871, 872, 873, 59, 874] (by decide +kernel) (by decide +kernel)
theorem cw_RL_112 : ∀ w ∈ ([.methodLink RL 112 yX4_keep, .instanceMethod yX4_keep, .selects yX4_keep.cls yX4_keep yX4_keep, .initialized yX4_keep.cls, .code yX4_keep cX4_keep 3 (some .int)] : List Cond), w ∈ tb := tb_all [606, 607, 608, 54, 609] (by decide +kernel) (by decide +kernel)
theorem cw_RL_115 : ∀ w ∈ ([.methodLink RL 115 yX5_keep, .instanceMethod yX5_keep, .selects yX5_keep.cls yX5_keep yX5_keep, .initialized yX5_keep.cls, .code yX5_keep cX5_keep 3 (some .int)] : List Cond), w ∈ tb := tb_all [881, 882, 883, 59, 884] (by decide +kernel) (by decide +kernel)
theorem cw_RL_116 : ∀ w ∈ ([.methodLink RL 116 yX4_back, .instanceMethod yX4_back, .selects yX4_back.cls yX4_back yX4_back, .initialized yX4_back.cls, .code yX4_back cX4_back 3 (some .int)] : List Cond), w ∈ tb := tb_all [615, 616, 617, 54, 618] (by decide +kernel) (by decide +kernel)
theorem cw_RL_119 : ∀ w ∈ ([.methodLink RL 119 yX5_back, .instanceMethod yX5_back, .selects yX5_back.cls yX5_back yX5_back, .initialized yX5_back.cls, .code yX5_back cX5_back 3 (some .int)] : List Cond), w ∈ tb := tb_all [885, 886, 887, 59, 888] (by decide +kernel) (by decide +kernel)
theorem cw_RL_120 : ∀ w ∈ ([.methodLink RL 120 yX4_count, .instanceMethod yX4_count, .selects yX4_count.cls yX4_count yX4_count, .initialized yX4_count.cls, .code yX4_count cX4_count 2 (some .int)] : List Cond), w ∈ tb := tb_all [619, 620, 621, 54, 622] (by decide +kernel) (by decide +kernel)
theorem cw_RL_123 : ∀ w ∈ ([.methodLink RL 123 yX5_count, .instanceMethod yX5_count, .selects yX5_count.cls yX5_count yX5_count, .initialized yX5_count.cls, .code yX5_count cX5_count 3 (some .int)] : List Cond), w ∈ tb := tb_all [889, 890, 891, 59, 892] (by decide +kernel) (by decide +kernel)
theorem cw_RL_124 : ∀ w ∈ ([.methodLink RL 124 yX4_trace, .instanceMethod yX4_trace, .selects yX4_trace.cls yX4_trace yX4_trace, .initialized yX4_trace.cls, .code yX4_trace cX4_trace 1 (some .long)] : List Cond), w ∈ tb := tb_all [623, 624, 625, 54, 626] (by decide +kernel) (by decide +kernel)
theorem cw_RL_128 : ∀ w ∈ ([.methodLink RL 128 yX5_trace, .instanceMethod yX5_trace, .selects yX5_trace.cls yX5_trace yX5_trace, .initialized yX5_trace.cls, .code yX5_trace cX5_trace 1 (some .long)] : List Cond), w ∈ tb := tb_all [893, 894, 895, 59, 896] (by decide +kernel) (by decide +kernel)
theorem dL_0 : decode code 0 = .ok (.new 7, 3) := by decide +kernel
theorem dL_3 : decode code 3 = .ok (.dup, 1) := by decide +kernel
theorem dL_4 : decode code 4 = .ok (.invokespecial 9, 3) := by decide +kernel
theorem dL_7 : decode code 7 = .ok (.astore_n 1, 1) := by decide +kernel
theorem dL_8 : decode code 8 = .ok (.new 10, 3) := by decide +kernel
theorem dL_11 : decode code 11 = .ok (.dup, 1) := by decide +kernel
theorem dL_12 : decode code 12 = .ok (.invokespecial 12, 3) := by decide +kernel
theorem dL_15 : decode code 15 = .ok (.astore_n 2, 1) := by decide +kernel
theorem dL_16 : decode code 16 = .ok (.iconst 0, 1) := by decide +kernel
theorem dL_17 : decode code 17 = .ok (.istore_n 3, 1) := by decide +kernel
theorem dL_18 : decode code 18 = .ok (.iload_n 3, 1) := by decide +kernel
theorem dL_19 : decode code 19 = .ok (.aload_n 0, 1) := by decide +kernel
theorem dL_20 : decode code 20 = .ok (.arraylength, 1) := by decide +kernel
theorem dL_21 : decode code 21 = .ok (.iconst 4, 1) := by decide +kernel
theorem dL_22 : decode code 22 = .ok (.isub, 1) := by decide +kernel
theorem dL_23 : decode code 23 = .ok (.if_icmp .gt 871, 3) := by decide +kernel
theorem dL_26 : decode code 26 = .ok (.aload_n 0, 1) := by decide +kernel
theorem dL_27 : decode code 27 = .ok (.iload_n 3, 1) := by decide +kernel
theorem dL_28 : decode code 28 = .ok (.iaload, 1) := by decide +kernel
theorem dL_29 : decode code 29 = .ok (.bipush 31, 2) := by decide +kernel
theorem dL_31 : decode code 31 = .ok (.iand, 1) := by decide +kernel
theorem dL_32 : decode code 32 = .ok (.tableswitch 856 0 26 #[124, 187, 200, 213, 246, 269, 292, 315, 348, 371, 404, 417, 430, 473, 496, 529, 572, 595, 618, 641, 654, 697, 740, 773, 796, 819, 842], 124) := by decide +kernel
theorem dL_156 : decode code 156 = .ok (.aload_n 1, 1) := by decide +kernel
theorem dL_157 : decode code 157 = .ok (.aload_n 0, 1) := by decide +kernel
theorem dL_158 : decode code 158 = .ok (.iload_n 3, 1) := by decide +kernel
theorem dL_159 : decode code 159 = .ok (.iconst 1, 1) := by decide +kernel
theorem dL_160 : decode code 160 = .ok (.iadd, 1) := by decide +kernel
theorem dL_161 : decode code 161 = .ok (.iaload, 1) := by decide +kernel
theorem dL_162 : decode code 162 = .ok (.i2l, 1) := by decide +kernel
theorem dL_163 : decode code 163 = .ok (.bipush 32, 2) := by decide +kernel
theorem dL_165 : decode code 165 = .ok (.lshl, 1) := by decide +kernel
theorem dL_166 : decode code 166 = .ok (.aload_n 0, 1) := by decide +kernel
theorem dL_167 : decode code 167 = .ok (.iload_n 3, 1) := by decide +kernel
theorem dL_168 : decode code 168 = .ok (.iconst 2, 1) := by decide +kernel
theorem dL_169 : decode code 169 = .ok (.iadd, 1) := by decide +kernel
theorem dL_170 : decode code 170 = .ok (.iaload, 1) := by decide +kernel
theorem dL_171 : decode code 171 = .ok (.i2l, 1) := by decide +kernel
theorem dL_172 : decode code 172 = .ok (.ldc2_w 13, 3) := by decide +kernel
theorem dL_175 : decode code 175 = .ok (.land, 1) := by decide +kernel
theorem dL_176 : decode code 176 = .ok (.lor, 1) := by decide +kernel
theorem dL_177 : decode code 177 = .ok (.aload_n 0, 1) := by decide +kernel
theorem dL_178 : decode code 178 = .ok (.iload_n 3, 1) := by decide +kernel
theorem dL_179 : decode code 179 = .ok (.iconst 3, 1) := by decide +kernel
theorem dL_180 : decode code 180 = .ok (.iadd, 1) := by decide +kernel
theorem dL_181 : decode code 181 = .ok (.iaload, 1) := by decide +kernel
theorem dL_182 : decode code 182 = .ok (.invokevirtual 15, 3) := by decide +kernel
theorem dL_185 : decode code 185 = .ok (.aload_n 2, 1) := by decide +kernel
theorem dL_186 : decode code 186 = .ok (.aload_n 0, 1) := by decide +kernel
theorem dL_187 : decode code 187 = .ok (.iload_n 3, 1) := by decide +kernel
theorem dL_188 : decode code 188 = .ok (.iconst 1, 1) := by decide +kernel
theorem dL_189 : decode code 189 = .ok (.iadd, 1) := by decide +kernel
theorem dL_190 : decode code 190 = .ok (.iaload, 1) := by decide +kernel
theorem dL_191 : decode code 191 = .ok (.i2l, 1) := by decide +kernel
theorem dL_192 : decode code 192 = .ok (.bipush 32, 2) := by decide +kernel
theorem dL_194 : decode code 194 = .ok (.lshl, 1) := by decide +kernel
theorem dL_195 : decode code 195 = .ok (.aload_n 0, 1) := by decide +kernel
theorem dL_196 : decode code 196 = .ok (.iload_n 3, 1) := by decide +kernel
theorem dL_197 : decode code 197 = .ok (.iconst 2, 1) := by decide +kernel
theorem dL_198 : decode code 198 = .ok (.iadd, 1) := by decide +kernel
theorem dL_199 : decode code 199 = .ok (.iaload, 1) := by decide +kernel
theorem dL_200 : decode code 200 = .ok (.i2l, 1) := by decide +kernel
theorem dL_201 : decode code 201 = .ok (.ldc2_w 13, 3) := by decide +kernel
theorem dL_204 : decode code 204 = .ok (.land, 1) := by decide +kernel
theorem dL_205 : decode code 205 = .ok (.lor, 1) := by decide +kernel
theorem dL_206 : decode code 206 = .ok (.aload_n 0, 1) := by decide +kernel
theorem dL_207 : decode code 207 = .ok (.iload_n 3, 1) := by decide +kernel
theorem dL_208 : decode code 208 = .ok (.iconst 3, 1) := by decide +kernel
theorem dL_209 : decode code 209 = .ok (.iadd, 1) := by decide +kernel
theorem dL_210 : decode code 210 = .ok (.iaload, 1) := by decide +kernel
theorem dL_211 : decode code 211 = .ok (.invokevirtual 19, 3) := by decide +kernel
theorem dL_214 : decode code 214 = .ok (.if_icmp .eq 674, 3) := by decide +kernel
theorem dL_217 : decode code 217 = .ok (.iconst 0, 1) := by decide +kernel
theorem dL_218 : decode code 218 = .ok (.ireturn, 1) := by decide +kernel
theorem dL_219 : decode code 219 = .ok (.aload_n 1, 1) := by decide +kernel
theorem dL_220 : decode code 220 = .ok (.invokevirtual 20, 3) := by decide +kernel
theorem dL_223 : decode code 223 = .ok (.aload_n 2, 1) := by decide +kernel
theorem dL_224 : decode code 224 = .ok (.invokevirtual 24, 3) := by decide +kernel
theorem dL_227 : decode code 227 = .ok (.if_icmp .eq 661, 3) := by decide +kernel
theorem dL_230 : decode code 230 = .ok (.iconst 0, 1) := by decide +kernel
theorem dL_231 : decode code 231 = .ok (.ireturn, 1) := by decide +kernel
theorem dL_232 : decode code 232 = .ok (.aload_n 1, 1) := by decide +kernel
theorem dL_233 : decode code 233 = .ok (.invokevirtual 25, 3) := by decide +kernel
theorem dL_236 : decode code 236 = .ok (.aload_n 2, 1) := by decide +kernel
theorem dL_237 : decode code 237 = .ok (.invokevirtual 28, 3) := by decide +kernel
theorem dL_240 : decode code 240 = .ok (.if_icmp .eq 648, 3) := by decide +kernel
theorem dL_243 : decode code 243 = .ok (.iconst 0, 1) := by decide +kernel
theorem dL_244 : decode code 244 = .ok (.ireturn, 1) := by decide +kernel
theorem dL_245 : decode code 245 = .ok (.aload_n 1, 1) := by decide +kernel
theorem dL_246 : decode code 246 = .ok (.aload_n 0, 1) := by decide +kernel
theorem dL_247 : decode code 247 = .ok (.iload_n 3, 1) := by decide +kernel
theorem dL_248 : decode code 248 = .ok (.iconst 1, 1) := by decide +kernel
theorem dL_249 : decode code 249 = .ok (.iadd, 1) := by decide +kernel
theorem dL_250 : decode code 250 = .ok (.iaload, 1) := by decide +kernel
theorem dL_251 : decode code 251 = .ok (.aload_n 0, 1) := by decide +kernel
theorem dL_252 : decode code 252 = .ok (.iload_n 3, 1) := by decide +kernel
theorem dL_253 : decode code 253 = .ok (.iconst 2, 1) := by decide +kernel
theorem dL_254 : decode code 254 = .ok (.iadd, 1) := by decide +kernel
theorem dL_255 : decode code 255 = .ok (.iaload, 1) := by decide +kernel
theorem dL_256 : decode code 256 = .ok (.invokevirtual 29, 3) := by decide +kernel
theorem dL_259 : decode code 259 = .ok (.aload_n 2, 1) := by decide +kernel
theorem dL_260 : decode code 260 = .ok (.aload_n 0, 1) := by decide +kernel
theorem dL_261 : decode code 261 = .ok (.iload_n 3, 1) := by decide +kernel
theorem dL_262 : decode code 262 = .ok (.iconst 1, 1) := by decide +kernel
theorem dL_263 : decode code 263 = .ok (.iadd, 1) := by decide +kernel
theorem dL_264 : decode code 264 = .ok (.iaload, 1) := by decide +kernel
theorem dL_265 : decode code 265 = .ok (.aload_n 0, 1) := by decide +kernel
theorem dL_266 : decode code 266 = .ok (.iload_n 3, 1) := by decide +kernel
theorem dL_267 : decode code 267 = .ok (.iconst 2, 1) := by decide +kernel
theorem dL_268 : decode code 268 = .ok (.iadd, 1) := by decide +kernel
theorem dL_269 : decode code 269 = .ok (.iaload, 1) := by decide +kernel
theorem dL_270 : decode code 270 = .ok (.invokevirtual 33, 3) := by decide +kernel
theorem dL_273 : decode code 273 = .ok (.if_icmp .eq 615, 3) := by decide +kernel
theorem dL_276 : decode code 276 = .ok (.iconst 0, 1) := by decide +kernel
theorem dL_277 : decode code 277 = .ok (.ireturn, 1) := by decide +kernel
theorem dL_278 : decode code 278 = .ok (.aload_n 1, 1) := by decide +kernel
theorem dL_279 : decode code 279 = .ok (.aload_n 0, 1) := by decide +kernel
theorem dL_280 : decode code 280 = .ok (.iload_n 3, 1) := by decide +kernel
theorem dL_281 : decode code 281 = .ok (.iconst 1, 1) := by decide +kernel
theorem dL_282 : decode code 282 = .ok (.iadd, 1) := by decide +kernel
theorem dL_283 : decode code 283 = .ok (.iaload, 1) := by decide +kernel
theorem dL_284 : decode code 284 = .ok (.invokevirtual 34, 3) := by decide +kernel
theorem dL_287 : decode code 287 = .ok (.aload_n 2, 1) := by decide +kernel
theorem dL_288 : decode code 288 = .ok (.aload_n 0, 1) := by decide +kernel
theorem dL_289 : decode code 289 = .ok (.iload_n 3, 1) := by decide +kernel
theorem dL_290 : decode code 290 = .ok (.iconst 1, 1) := by decide +kernel
theorem dL_291 : decode code 291 = .ok (.iadd, 1) := by decide +kernel
theorem dL_292 : decode code 292 = .ok (.iaload, 1) := by decide +kernel
theorem dL_293 : decode code 293 = .ok (.invokevirtual 38, 3) := by decide +kernel
theorem dL_296 : decode code 296 = .ok (.if_icmp .eq 592, 3) := by decide +kernel
theorem dL_299 : decode code 299 = .ok (.iconst 0, 1) := by decide +kernel
theorem dL_300 : decode code 300 = .ok (.ireturn, 1) := by decide +kernel
theorem dL_301 : decode code 301 = .ok (.aload_n 1, 1) := by decide +kernel
theorem dL_302 : decode code 302 = .ok (.aload_n 0, 1) := by decide +kernel
theorem dL_303 : decode code 303 = .ok (.iload_n 3, 1) := by decide +kernel
theorem dL_304 : decode code 304 = .ok (.iconst 1, 1) := by decide +kernel
theorem dL_305 : decode code 305 = .ok (.iadd, 1) := by decide +kernel
theorem dL_306 : decode code 306 = .ok (.iaload, 1) := by decide +kernel
theorem dL_307 : decode code 307 = .ok (.invokevirtual 39, 3) := by decide +kernel
theorem dL_310 : decode code 310 = .ok (.aload_n 2, 1) := by decide +kernel
theorem dL_311 : decode code 311 = .ok (.aload_n 0, 1) := by decide +kernel
theorem dL_312 : decode code 312 = .ok (.iload_n 3, 1) := by decide +kernel
theorem dL_313 : decode code 313 = .ok (.iconst 1, 1) := by decide +kernel
theorem dL_314 : decode code 314 = .ok (.iadd, 1) := by decide +kernel
theorem dL_315 : decode code 315 = .ok (.iaload, 1) := by decide +kernel
theorem dL_316 : decode code 316 = .ok (.invokevirtual 42, 3) := by decide +kernel
theorem dL_319 : decode code 319 = .ok (.if_icmp .eq 569, 3) := by decide +kernel
theorem dL_322 : decode code 322 = .ok (.iconst 0, 1) := by decide +kernel
theorem dL_323 : decode code 323 = .ok (.ireturn, 1) := by decide +kernel
theorem dL_324 : decode code 324 = .ok (.aload_n 1, 1) := by decide +kernel
theorem dL_325 : decode code 325 = .ok (.aload_n 0, 1) := by decide +kernel
theorem dL_326 : decode code 326 = .ok (.iload_n 3, 1) := by decide +kernel
theorem dL_327 : decode code 327 = .ok (.iconst 1, 1) := by decide +kernel
theorem dL_328 : decode code 328 = .ok (.iadd, 1) := by decide +kernel
theorem dL_329 : decode code 329 = .ok (.iaload, 1) := by decide +kernel
theorem dL_330 : decode code 330 = .ok (.invokevirtual 43, 3) := by decide +kernel
theorem dL_333 : decode code 333 = .ok (.aload_n 2, 1) := by decide +kernel
theorem dL_334 : decode code 334 = .ok (.aload_n 0, 1) := by decide +kernel
theorem dL_335 : decode code 335 = .ok (.iload_n 3, 1) := by decide +kernel
theorem dL_336 : decode code 336 = .ok (.iconst 1, 1) := by decide +kernel
theorem dL_337 : decode code 337 = .ok (.iadd, 1) := by decide +kernel
theorem dL_338 : decode code 338 = .ok (.iaload, 1) := by decide +kernel
theorem dL_339 : decode code 339 = .ok (.invokevirtual 46, 3) := by decide +kernel
theorem dL_342 : decode code 342 = .ok (.if_icmp .eq 546, 3) := by decide +kernel
theorem dL_345 : decode code 345 = .ok (.iconst 0, 1) := by decide +kernel
theorem dL_346 : decode code 346 = .ok (.ireturn, 1) := by decide +kernel
theorem dL_347 : decode code 347 = .ok (.aload_n 1, 1) := by decide +kernel
theorem dL_348 : decode code 348 = .ok (.aload_n 0, 1) := by decide +kernel
theorem dL_349 : decode code 349 = .ok (.iload_n 3, 1) := by decide +kernel
theorem dL_350 : decode code 350 = .ok (.iconst 1, 1) := by decide +kernel
theorem dL_351 : decode code 351 = .ok (.iadd, 1) := by decide +kernel
theorem dL_352 : decode code 352 = .ok (.iaload, 1) := by decide +kernel
theorem dL_353 : decode code 353 = .ok (.aload_n 0, 1) := by decide +kernel
theorem dL_354 : decode code 354 = .ok (.iload_n 3, 1) := by decide +kernel
theorem dL_355 : decode code 355 = .ok (.iconst 2, 1) := by decide +kernel
theorem dL_356 : decode code 356 = .ok (.iadd, 1) := by decide +kernel
theorem dL_357 : decode code 357 = .ok (.iaload, 1) := by decide +kernel
theorem dL_358 : decode code 358 = .ok (.invokevirtual 47, 3) := by decide +kernel
theorem dL_361 : decode code 361 = .ok (.aload_n 2, 1) := by decide +kernel
theorem dL_362 : decode code 362 = .ok (.aload_n 0, 1) := by decide +kernel
theorem dL_363 : decode code 363 = .ok (.iload_n 3, 1) := by decide +kernel
theorem dL_364 : decode code 364 = .ok (.iconst 1, 1) := by decide +kernel
theorem dL_365 : decode code 365 = .ok (.iadd, 1) := by decide +kernel
theorem dL_366 : decode code 366 = .ok (.iaload, 1) := by decide +kernel
theorem dL_367 : decode code 367 = .ok (.aload_n 0, 1) := by decide +kernel
theorem dL_368 : decode code 368 = .ok (.iload_n 3, 1) := by decide +kernel
theorem dL_369 : decode code 369 = .ok (.iconst 2, 1) := by decide +kernel
theorem dL_370 : decode code 370 = .ok (.iadd, 1) := by decide +kernel
theorem dL_371 : decode code 371 = .ok (.iaload, 1) := by decide +kernel
theorem dL_372 : decode code 372 = .ok (.invokevirtual 50, 3) := by decide +kernel
theorem dL_375 : decode code 375 = .ok (.if_icmp .eq 513, 3) := by decide +kernel
theorem dL_378 : decode code 378 = .ok (.iconst 0, 1) := by decide +kernel
theorem dL_379 : decode code 379 = .ok (.ireturn, 1) := by decide +kernel
theorem dL_380 : decode code 380 = .ok (.aload_n 1, 1) := by decide +kernel
theorem dL_381 : decode code 381 = .ok (.aload_n 0, 1) := by decide +kernel
theorem dL_382 : decode code 382 = .ok (.iload_n 3, 1) := by decide +kernel
theorem dL_383 : decode code 383 = .ok (.iconst 1, 1) := by decide +kernel
theorem dL_384 : decode code 384 = .ok (.iadd, 1) := by decide +kernel
theorem dL_385 : decode code 385 = .ok (.iaload, 1) := by decide +kernel
theorem dL_386 : decode code 386 = .ok (.invokevirtual 51, 3) := by decide +kernel
theorem dL_389 : decode code 389 = .ok (.aload_n 2, 1) := by decide +kernel
theorem dL_390 : decode code 390 = .ok (.aload_n 0, 1) := by decide +kernel
theorem dL_391 : decode code 391 = .ok (.iload_n 3, 1) := by decide +kernel
theorem dL_392 : decode code 392 = .ok (.iconst 1, 1) := by decide +kernel
theorem dL_393 : decode code 393 = .ok (.iadd, 1) := by decide +kernel
theorem dL_394 : decode code 394 = .ok (.iaload, 1) := by decide +kernel
theorem dL_395 : decode code 395 = .ok (.invokevirtual 54, 3) := by decide +kernel
theorem dL_398 : decode code 398 = .ok (.if_icmp .eq 490, 3) := by decide +kernel
theorem dL_401 : decode code 401 = .ok (.iconst 0, 1) := by decide +kernel
theorem dL_402 : decode code 402 = .ok (.ireturn, 1) := by decide +kernel
theorem dL_403 : decode code 403 = .ok (.aload_n 1, 1) := by decide +kernel
theorem dL_404 : decode code 404 = .ok (.aload_n 0, 1) := by decide +kernel
theorem dL_405 : decode code 405 = .ok (.iload_n 3, 1) := by decide +kernel
theorem dL_406 : decode code 406 = .ok (.iconst 1, 1) := by decide +kernel
theorem dL_407 : decode code 407 = .ok (.iadd, 1) := by decide +kernel
theorem dL_408 : decode code 408 = .ok (.iaload, 1) := by decide +kernel
theorem dL_409 : decode code 409 = .ok (.aload_n 0, 1) := by decide +kernel
theorem dL_410 : decode code 410 = .ok (.iload_n 3, 1) := by decide +kernel
theorem dL_411 : decode code 411 = .ok (.iconst 2, 1) := by decide +kernel
theorem dL_412 : decode code 412 = .ok (.iadd, 1) := by decide +kernel
theorem dL_413 : decode code 413 = .ok (.iaload, 1) := by decide +kernel
theorem dL_414 : decode code 414 = .ok (.invokevirtual 55, 3) := by decide +kernel
theorem dL_417 : decode code 417 = .ok (.aload_n 2, 1) := by decide +kernel
theorem dL_418 : decode code 418 = .ok (.aload_n 0, 1) := by decide +kernel
theorem dL_419 : decode code 419 = .ok (.iload_n 3, 1) := by decide +kernel
theorem dL_420 : decode code 420 = .ok (.iconst 1, 1) := by decide +kernel
theorem dL_421 : decode code 421 = .ok (.iadd, 1) := by decide +kernel
theorem dL_422 : decode code 422 = .ok (.iaload, 1) := by decide +kernel
theorem dL_423 : decode code 423 = .ok (.aload_n 0, 1) := by decide +kernel
theorem dL_424 : decode code 424 = .ok (.iload_n 3, 1) := by decide +kernel
theorem dL_425 : decode code 425 = .ok (.iconst 2, 1) := by decide +kernel
theorem dL_426 : decode code 426 = .ok (.iadd, 1) := by decide +kernel
theorem dL_427 : decode code 427 = .ok (.iaload, 1) := by decide +kernel
theorem dL_428 : decode code 428 = .ok (.invokevirtual 58, 3) := by decide +kernel
theorem dL_431 : decode code 431 = .ok (.if_icmp .eq 457, 3) := by decide +kernel
theorem dL_434 : decode code 434 = .ok (.iconst 0, 1) := by decide +kernel
theorem dL_435 : decode code 435 = .ok (.ireturn, 1) := by decide +kernel
theorem dL_436 : decode code 436 = .ok (.aload_n 1, 1) := by decide +kernel
theorem dL_437 : decode code 437 = .ok (.invokevirtual 59, 3) := by decide +kernel
theorem dL_440 : decode code 440 = .ok (.aload_n 2, 1) := by decide +kernel
theorem dL_441 : decode code 441 = .ok (.invokevirtual 62, 3) := by decide +kernel
theorem dL_444 : decode code 444 = .ok (.if_icmp .eq 444, 3) := by decide +kernel
theorem dL_447 : decode code 447 = .ok (.iconst 0, 1) := by decide +kernel
theorem dL_448 : decode code 448 = .ok (.ireturn, 1) := by decide +kernel
theorem dL_449 : decode code 449 = .ok (.aload_n 1, 1) := by decide +kernel
theorem dL_450 : decode code 450 = .ok (.invokevirtual 63, 3) := by decide +kernel
theorem dL_453 : decode code 453 = .ok (.aload_n 2, 1) := by decide +kernel
theorem dL_454 : decode code 454 = .ok (.invokevirtual 66, 3) := by decide +kernel
theorem dL_457 : decode code 457 = .ok (.if_icmp .eq 431, 3) := by decide +kernel
theorem dL_460 : decode code 460 = .ok (.iconst 0, 1) := by decide +kernel
theorem dL_461 : decode code 461 = .ok (.ireturn, 1) := by decide +kernel
theorem dL_462 : decode code 462 = .ok (.aload_n 1, 1) := by decide +kernel
theorem dL_463 : decode code 463 = .ok (.aload_n 0, 1) := by decide +kernel
theorem dL_464 : decode code 464 = .ok (.iload_n 3, 1) := by decide +kernel
theorem dL_465 : decode code 465 = .ok (.iconst 1, 1) := by decide +kernel
theorem dL_466 : decode code 466 = .ok (.iadd, 1) := by decide +kernel
theorem dL_467 : decode code 467 = .ok (.iaload, 1) := by decide +kernel
theorem dL_468 : decode code 468 = .ok (.aload_n 0, 1) := by decide +kernel
theorem dL_469 : decode code 469 = .ok (.iload_n 3, 1) := by decide +kernel
theorem dL_470 : decode code 470 = .ok (.iconst 2, 1) := by decide +kernel
theorem dL_471 : decode code 471 = .ok (.iadd, 1) := by decide +kernel
theorem dL_472 : decode code 472 = .ok (.iaload, 1) := by decide +kernel
theorem dL_473 : decode code 473 = .ok (.aload_n 0, 1) := by decide +kernel
theorem dL_474 : decode code 474 = .ok (.iload_n 3, 1) := by decide +kernel
theorem dL_475 : decode code 475 = .ok (.iconst 3, 1) := by decide +kernel
theorem dL_476 : decode code 476 = .ok (.iadd, 1) := by decide +kernel
theorem dL_477 : decode code 477 = .ok (.iaload, 1) := by decide +kernel
theorem dL_478 : decode code 478 = .ok (.invokevirtual 67, 3) := by decide +kernel
theorem dL_481 : decode code 481 = .ok (.aload_n 2, 1) := by decide +kernel
theorem dL_482 : decode code 482 = .ok (.aload_n 0, 1) := by decide +kernel
theorem dL_483 : decode code 483 = .ok (.iload_n 3, 1) := by decide +kernel
theorem dL_484 : decode code 484 = .ok (.iconst 1, 1) := by decide +kernel
theorem dL_485 : decode code 485 = .ok (.iadd, 1) := by decide +kernel
theorem dL_486 : decode code 486 = .ok (.iaload, 1) := by decide +kernel
theorem dL_487 : decode code 487 = .ok (.aload_n 0, 1) := by decide +kernel
theorem dL_488 : decode code 488 = .ok (.iload_n 3, 1) := by decide +kernel
theorem dL_489 : decode code 489 = .ok (.iconst 2, 1) := by decide +kernel
theorem dL_490 : decode code 490 = .ok (.iadd, 1) := by decide +kernel
theorem dL_491 : decode code 491 = .ok (.iaload, 1) := by decide +kernel
theorem dL_492 : decode code 492 = .ok (.aload_n 0, 1) := by decide +kernel
theorem dL_493 : decode code 493 = .ok (.iload_n 3, 1) := by decide +kernel
theorem dL_494 : decode code 494 = .ok (.iconst 3, 1) := by decide +kernel
theorem dL_495 : decode code 495 = .ok (.iadd, 1) := by decide +kernel
theorem dL_496 : decode code 496 = .ok (.iaload, 1) := by decide +kernel
theorem dL_497 : decode code 497 = .ok (.invokevirtual 71, 3) := by decide +kernel
theorem dL_500 : decode code 500 = .ok (.if_icmp .eq 388, 3) := by decide +kernel
theorem dL_503 : decode code 503 = .ok (.iconst 0, 1) := by decide +kernel
theorem dL_504 : decode code 504 = .ok (.ireturn, 1) := by decide +kernel
theorem dL_505 : decode code 505 = .ok (.aload_n 1, 1) := by decide +kernel
theorem dL_506 : decode code 506 = .ok (.aload_n 0, 1) := by decide +kernel
theorem dL_507 : decode code 507 = .ok (.iload_n 3, 1) := by decide +kernel
theorem dL_508 : decode code 508 = .ok (.iconst 1, 1) := by decide +kernel
theorem dL_509 : decode code 509 = .ok (.iadd, 1) := by decide +kernel
theorem dL_510 : decode code 510 = .ok (.iaload, 1) := by decide +kernel
theorem dL_511 : decode code 511 = .ok (.invokevirtual 72, 3) := by decide +kernel
theorem dL_514 : decode code 514 = .ok (.aload_n 2, 1) := by decide +kernel
theorem dL_515 : decode code 515 = .ok (.aload_n 0, 1) := by decide +kernel
theorem dL_516 : decode code 516 = .ok (.iload_n 3, 1) := by decide +kernel
theorem dL_517 : decode code 517 = .ok (.iconst 1, 1) := by decide +kernel
theorem dL_518 : decode code 518 = .ok (.iadd, 1) := by decide +kernel
theorem dL_519 : decode code 519 = .ok (.iaload, 1) := by decide +kernel
theorem dL_520 : decode code 520 = .ok (.invokevirtual 75, 3) := by decide +kernel
theorem dL_523 : decode code 523 = .ok (.if_icmp .eq 365, 3) := by decide +kernel
theorem dL_526 : decode code 526 = .ok (.iconst 0, 1) := by decide +kernel
theorem dL_527 : decode code 527 = .ok (.ireturn, 1) := by decide +kernel
theorem dL_528 : decode code 528 = .ok (.aload_n 1, 1) := by decide +kernel
theorem dL_529 : decode code 529 = .ok (.aload_n 0, 1) := by decide +kernel
theorem dL_530 : decode code 530 = .ok (.iload_n 3, 1) := by decide +kernel
theorem dL_531 : decode code 531 = .ok (.iconst 1, 1) := by decide +kernel
theorem dL_532 : decode code 532 = .ok (.iadd, 1) := by decide +kernel
theorem dL_533 : decode code 533 = .ok (.iaload, 1) := by decide +kernel
theorem dL_534 : decode code 534 = .ok (.aload_n 0, 1) := by decide +kernel
theorem dL_535 : decode code 535 = .ok (.iload_n 3, 1) := by decide +kernel
theorem dL_536 : decode code 536 = .ok (.iconst 2, 1) := by decide +kernel
theorem dL_537 : decode code 537 = .ok (.iadd, 1) := by decide +kernel
theorem dL_538 : decode code 538 = .ok (.iaload, 1) := by decide +kernel
theorem dL_539 : decode code 539 = .ok (.invokevirtual 76, 3) := by decide +kernel
theorem dL_542 : decode code 542 = .ok (.aload_n 2, 1) := by decide +kernel
theorem dL_543 : decode code 543 = .ok (.aload_n 0, 1) := by decide +kernel
theorem dL_544 : decode code 544 = .ok (.iload_n 3, 1) := by decide +kernel
theorem dL_545 : decode code 545 = .ok (.iconst 1, 1) := by decide +kernel
theorem dL_546 : decode code 546 = .ok (.iadd, 1) := by decide +kernel
theorem dL_547 : decode code 547 = .ok (.iaload, 1) := by decide +kernel
theorem dL_548 : decode code 548 = .ok (.aload_n 0, 1) := by decide +kernel
theorem dL_549 : decode code 549 = .ok (.iload_n 3, 1) := by decide +kernel
theorem dL_550 : decode code 550 = .ok (.iconst 2, 1) := by decide +kernel
theorem dL_551 : decode code 551 = .ok (.iadd, 1) := by decide +kernel
theorem dL_552 : decode code 552 = .ok (.iaload, 1) := by decide +kernel
theorem dL_553 : decode code 553 = .ok (.invokevirtual 79, 3) := by decide +kernel
theorem dL_556 : decode code 556 = .ok (.if_icmp .eq 332, 3) := by decide +kernel
theorem dL_559 : decode code 559 = .ok (.iconst 0, 1) := by decide +kernel
theorem dL_560 : decode code 560 = .ok (.ireturn, 1) := by decide +kernel
theorem dL_561 : decode code 561 = .ok (.aload_n 1, 1) := by decide +kernel
theorem dL_562 : decode code 562 = .ok (.aload_n 0, 1) := by decide +kernel
theorem dL_563 : decode code 563 = .ok (.iload_n 3, 1) := by decide +kernel
theorem dL_564 : decode code 564 = .ok (.iconst 1, 1) := by decide +kernel
theorem dL_565 : decode code 565 = .ok (.iadd, 1) := by decide +kernel
theorem dL_566 : decode code 566 = .ok (.iaload, 1) := by decide +kernel
theorem dL_567 : decode code 567 = .ok (.aload_n 0, 1) := by decide +kernel
theorem dL_568 : decode code 568 = .ok (.iload_n 3, 1) := by decide +kernel
theorem dL_569 : decode code 569 = .ok (.iconst 2, 1) := by decide +kernel
theorem dL_570 : decode code 570 = .ok (.iadd, 1) := by decide +kernel
theorem dL_571 : decode code 571 = .ok (.iaload, 1) := by decide +kernel
theorem dL_572 : decode code 572 = .ok (.aload_n 0, 1) := by decide +kernel
theorem dL_573 : decode code 573 = .ok (.iload_n 3, 1) := by decide +kernel
theorem dL_574 : decode code 574 = .ok (.iconst 3, 1) := by decide +kernel
theorem dL_575 : decode code 575 = .ok (.iadd, 1) := by decide +kernel
theorem dL_576 : decode code 576 = .ok (.iaload, 1) := by decide +kernel
theorem dL_577 : decode code 577 = .ok (.invokevirtual 80, 3) := by decide +kernel
theorem dL_580 : decode code 580 = .ok (.aload_n 2, 1) := by decide +kernel
theorem dL_581 : decode code 581 = .ok (.aload_n 0, 1) := by decide +kernel
theorem dL_582 : decode code 582 = .ok (.iload_n 3, 1) := by decide +kernel
theorem dL_583 : decode code 583 = .ok (.iconst 1, 1) := by decide +kernel
theorem dL_584 : decode code 584 = .ok (.iadd, 1) := by decide +kernel
theorem dL_585 : decode code 585 = .ok (.iaload, 1) := by decide +kernel
theorem dL_586 : decode code 586 = .ok (.aload_n 0, 1) := by decide +kernel
theorem dL_587 : decode code 587 = .ok (.iload_n 3, 1) := by decide +kernel
theorem dL_588 : decode code 588 = .ok (.iconst 2, 1) := by decide +kernel
theorem dL_589 : decode code 589 = .ok (.iadd, 1) := by decide +kernel
theorem dL_590 : decode code 590 = .ok (.iaload, 1) := by decide +kernel
theorem dL_591 : decode code 591 = .ok (.aload_n 0, 1) := by decide +kernel
theorem dL_592 : decode code 592 = .ok (.iload_n 3, 1) := by decide +kernel
theorem dL_593 : decode code 593 = .ok (.iconst 3, 1) := by decide +kernel
theorem dL_594 : decode code 594 = .ok (.iadd, 1) := by decide +kernel
theorem dL_595 : decode code 595 = .ok (.iaload, 1) := by decide +kernel
theorem dL_596 : decode code 596 = .ok (.invokevirtual 83, 3) := by decide +kernel
theorem dL_599 : decode code 599 = .ok (.if_icmp .eq 289, 3) := by decide +kernel
theorem dL_602 : decode code 602 = .ok (.iconst 0, 1) := by decide +kernel
theorem dL_603 : decode code 603 = .ok (.ireturn, 1) := by decide +kernel
theorem dL_604 : decode code 604 = .ok (.aload_n 1, 1) := by decide +kernel
theorem dL_605 : decode code 605 = .ok (.aload_n 0, 1) := by decide +kernel
theorem dL_606 : decode code 606 = .ok (.iload_n 3, 1) := by decide +kernel
theorem dL_607 : decode code 607 = .ok (.iconst 1, 1) := by decide +kernel
theorem dL_608 : decode code 608 = .ok (.iadd, 1) := by decide +kernel
theorem dL_609 : decode code 609 = .ok (.iaload, 1) := by decide +kernel
theorem dL_610 : decode code 610 = .ok (.invokevirtual 84, 3) := by decide +kernel
theorem dL_613 : decode code 613 = .ok (.aload_n 2, 1) := by decide +kernel
theorem dL_614 : decode code 614 = .ok (.aload_n 0, 1) := by decide +kernel
theorem dL_615 : decode code 615 = .ok (.iload_n 3, 1) := by decide +kernel
theorem dL_616 : decode code 616 = .ok (.iconst 1, 1) := by decide +kernel
theorem dL_617 : decode code 617 = .ok (.iadd, 1) := by decide +kernel
theorem dL_618 : decode code 618 = .ok (.iaload, 1) := by decide +kernel
theorem dL_619 : decode code 619 = .ok (.invokevirtual 87, 3) := by decide +kernel
theorem dL_622 : decode code 622 = .ok (.if_icmp .eq 266, 3) := by decide +kernel
theorem dL_625 : decode code 625 = .ok (.iconst 0, 1) := by decide +kernel
theorem dL_626 : decode code 626 = .ok (.ireturn, 1) := by decide +kernel
theorem dL_627 : decode code 627 = .ok (.aload_n 1, 1) := by decide +kernel
theorem dL_628 : decode code 628 = .ok (.aload_n 0, 1) := by decide +kernel
theorem dL_629 : decode code 629 = .ok (.iload_n 3, 1) := by decide +kernel
theorem dL_630 : decode code 630 = .ok (.iconst 1, 1) := by decide +kernel
theorem dL_631 : decode code 631 = .ok (.iadd, 1) := by decide +kernel
theorem dL_632 : decode code 632 = .ok (.iaload, 1) := by decide +kernel
theorem dL_633 : decode code 633 = .ok (.invokevirtual 88, 3) := by decide +kernel
theorem dL_636 : decode code 636 = .ok (.aload_n 2, 1) := by decide +kernel
theorem dL_637 : decode code 637 = .ok (.aload_n 0, 1) := by decide +kernel
theorem dL_638 : decode code 638 = .ok (.iload_n 3, 1) := by decide +kernel
theorem dL_639 : decode code 639 = .ok (.iconst 1, 1) := by decide +kernel
theorem dL_640 : decode code 640 = .ok (.iadd, 1) := by decide +kernel
theorem dL_641 : decode code 641 = .ok (.iaload, 1) := by decide +kernel
theorem dL_642 : decode code 642 = .ok (.invokevirtual 91, 3) := by decide +kernel
theorem dL_645 : decode code 645 = .ok (.if_icmp .eq 243, 3) := by decide +kernel
theorem dL_648 : decode code 648 = .ok (.iconst 0, 1) := by decide +kernel
theorem dL_649 : decode code 649 = .ok (.ireturn, 1) := by decide +kernel
theorem dL_650 : decode code 650 = .ok (.aload_n 1, 1) := by decide +kernel
theorem dL_651 : decode code 651 = .ok (.aload_n 0, 1) := by decide +kernel
theorem dL_652 : decode code 652 = .ok (.iload_n 3, 1) := by decide +kernel
theorem dL_653 : decode code 653 = .ok (.iconst 1, 1) := by decide +kernel
theorem dL_654 : decode code 654 = .ok (.iadd, 1) := by decide +kernel
theorem dL_655 : decode code 655 = .ok (.iaload, 1) := by decide +kernel
theorem dL_656 : decode code 656 = .ok (.invokevirtual 92, 3) := by decide +kernel
theorem dL_659 : decode code 659 = .ok (.aload_n 2, 1) := by decide +kernel
theorem dL_660 : decode code 660 = .ok (.aload_n 0, 1) := by decide +kernel
theorem dL_661 : decode code 661 = .ok (.iload_n 3, 1) := by decide +kernel
theorem dL_662 : decode code 662 = .ok (.iconst 1, 1) := by decide +kernel
theorem dL_663 : decode code 663 = .ok (.iadd, 1) := by decide +kernel
theorem dL_664 : decode code 664 = .ok (.iaload, 1) := by decide +kernel
theorem dL_665 : decode code 665 = .ok (.invokevirtual 95, 3) := by decide +kernel
theorem dL_668 : decode code 668 = .ok (.if_icmp .eq 220, 3) := by decide +kernel
theorem dL_671 : decode code 671 = .ok (.iconst 0, 1) := by decide +kernel
theorem dL_672 : decode code 672 = .ok (.ireturn, 1) := by decide +kernel
theorem dL_673 : decode code 673 = .ok (.aload_n 1, 1) := by decide +kernel
theorem dL_674 : decode code 674 = .ok (.invokevirtual 96, 3) := by decide +kernel
theorem dL_677 : decode code 677 = .ok (.aload_n 2, 1) := by decide +kernel
theorem dL_678 : decode code 678 = .ok (.invokevirtual 99, 3) := by decide +kernel
theorem dL_681 : decode code 681 = .ok (.if_icmp .eq 207, 3) := by decide +kernel
theorem dL_684 : decode code 684 = .ok (.iconst 0, 1) := by decide +kernel
theorem dL_685 : decode code 685 = .ok (.ireturn, 1) := by decide +kernel
theorem dL_686 : decode code 686 = .ok (.aload_n 1, 1) := by decide +kernel
theorem dL_687 : decode code 687 = .ok (.aload_n 0, 1) := by decide +kernel
theorem dL_688 : decode code 688 = .ok (.iload_n 3, 1) := by decide +kernel
theorem dL_689 : decode code 689 = .ok (.iconst 1, 1) := by decide +kernel
theorem dL_690 : decode code 690 = .ok (.iadd, 1) := by decide +kernel
theorem dL_691 : decode code 691 = .ok (.iaload, 1) := by decide +kernel
theorem dL_692 : decode code 692 = .ok (.aload_n 0, 1) := by decide +kernel
theorem dL_693 : decode code 693 = .ok (.iload_n 3, 1) := by decide +kernel
theorem dL_694 : decode code 694 = .ok (.iconst 2, 1) := by decide +kernel
theorem dL_695 : decode code 695 = .ok (.iadd, 1) := by decide +kernel
theorem dL_696 : decode code 696 = .ok (.iaload, 1) := by decide +kernel
theorem dL_697 : decode code 697 = .ok (.aload_n 0, 1) := by decide +kernel
theorem dL_698 : decode code 698 = .ok (.iload_n 3, 1) := by decide +kernel
theorem dL_699 : decode code 699 = .ok (.iconst 3, 1) := by decide +kernel
theorem dL_700 : decode code 700 = .ok (.iadd, 1) := by decide +kernel
theorem dL_701 : decode code 701 = .ok (.iaload, 1) := by decide +kernel
theorem dL_702 : decode code 702 = .ok (.invokevirtual 100, 3) := by decide +kernel
theorem dL_705 : decode code 705 = .ok (.aload_n 2, 1) := by decide +kernel
theorem dL_706 : decode code 706 = .ok (.aload_n 0, 1) := by decide +kernel
theorem dL_707 : decode code 707 = .ok (.iload_n 3, 1) := by decide +kernel
theorem dL_708 : decode code 708 = .ok (.iconst 1, 1) := by decide +kernel
theorem dL_709 : decode code 709 = .ok (.iadd, 1) := by decide +kernel
theorem dL_710 : decode code 710 = .ok (.iaload, 1) := by decide +kernel
theorem dL_711 : decode code 711 = .ok (.aload_n 0, 1) := by decide +kernel
theorem dL_712 : decode code 712 = .ok (.iload_n 3, 1) := by decide +kernel
theorem dL_713 : decode code 713 = .ok (.iconst 2, 1) := by decide +kernel
theorem dL_714 : decode code 714 = .ok (.iadd, 1) := by decide +kernel
theorem dL_715 : decode code 715 = .ok (.iaload, 1) := by decide +kernel
theorem dL_716 : decode code 716 = .ok (.aload_n 0, 1) := by decide +kernel
theorem dL_717 : decode code 717 = .ok (.iload_n 3, 1) := by decide +kernel
theorem dL_718 : decode code 718 = .ok (.iconst 3, 1) := by decide +kernel
theorem dL_719 : decode code 719 = .ok (.iadd, 1) := by decide +kernel
theorem dL_720 : decode code 720 = .ok (.iaload, 1) := by decide +kernel
theorem dL_721 : decode code 721 = .ok (.invokevirtual 103, 3) := by decide +kernel
theorem dL_724 : decode code 724 = .ok (.if_icmp .eq 164, 3) := by decide +kernel
theorem dL_727 : decode code 727 = .ok (.iconst 0, 1) := by decide +kernel
theorem dL_728 : decode code 728 = .ok (.ireturn, 1) := by decide +kernel
theorem dL_729 : decode code 729 = .ok (.aload_n 1, 1) := by decide +kernel
theorem dL_730 : decode code 730 = .ok (.aload_n 0, 1) := by decide +kernel
theorem dL_731 : decode code 731 = .ok (.iload_n 3, 1) := by decide +kernel
theorem dL_732 : decode code 732 = .ok (.iconst 1, 1) := by decide +kernel
theorem dL_733 : decode code 733 = .ok (.iadd, 1) := by decide +kernel
theorem dL_734 : decode code 734 = .ok (.iaload, 1) := by decide +kernel
theorem dL_735 : decode code 735 = .ok (.aload_n 0, 1) := by decide +kernel
theorem dL_736 : decode code 736 = .ok (.iload_n 3, 1) := by decide +kernel
theorem dL_737 : decode code 737 = .ok (.iconst 2, 1) := by decide +kernel
theorem dL_738 : decode code 738 = .ok (.iadd, 1) := by decide +kernel
theorem dL_739 : decode code 739 = .ok (.iaload, 1) := by decide +kernel
theorem dL_740 : decode code 740 = .ok (.aload_n 0, 1) := by decide +kernel
theorem dL_741 : decode code 741 = .ok (.iload_n 3, 1) := by decide +kernel
theorem dL_742 : decode code 742 = .ok (.iconst 3, 1) := by decide +kernel
theorem dL_743 : decode code 743 = .ok (.iadd, 1) := by decide +kernel
theorem dL_744 : decode code 744 = .ok (.iaload, 1) := by decide +kernel
theorem dL_745 : decode code 745 = .ok (.invokevirtual 104, 3) := by decide +kernel
theorem dL_748 : decode code 748 = .ok (.aload_n 2, 1) := by decide +kernel
theorem dL_749 : decode code 749 = .ok (.aload_n 0, 1) := by decide +kernel
theorem dL_750 : decode code 750 = .ok (.iload_n 3, 1) := by decide +kernel
theorem dL_751 : decode code 751 = .ok (.iconst 1, 1) := by decide +kernel
theorem dL_752 : decode code 752 = .ok (.iadd, 1) := by decide +kernel
theorem dL_753 : decode code 753 = .ok (.iaload, 1) := by decide +kernel
theorem dL_754 : decode code 754 = .ok (.aload_n 0, 1) := by decide +kernel
theorem dL_755 : decode code 755 = .ok (.iload_n 3, 1) := by decide +kernel
theorem dL_756 : decode code 756 = .ok (.iconst 2, 1) := by decide +kernel
theorem dL_757 : decode code 757 = .ok (.iadd, 1) := by decide +kernel
theorem dL_758 : decode code 758 = .ok (.iaload, 1) := by decide +kernel
theorem dL_759 : decode code 759 = .ok (.aload_n 0, 1) := by decide +kernel
theorem dL_760 : decode code 760 = .ok (.iload_n 3, 1) := by decide +kernel
theorem dL_761 : decode code 761 = .ok (.iconst 3, 1) := by decide +kernel
theorem dL_762 : decode code 762 = .ok (.iadd, 1) := by decide +kernel
theorem dL_763 : decode code 763 = .ok (.iaload, 1) := by decide +kernel
theorem dL_764 : decode code 764 = .ok (.invokevirtual 107, 3) := by decide +kernel
theorem dL_767 : decode code 767 = .ok (.if_icmp .eq 121, 3) := by decide +kernel
theorem dL_770 : decode code 770 = .ok (.iconst 0, 1) := by decide +kernel
theorem dL_771 : decode code 771 = .ok (.ireturn, 1) := by decide +kernel
theorem dL_772 : decode code 772 = .ok (.aload_n 1, 1) := by decide +kernel
theorem dL_773 : decode code 773 = .ok (.aload_n 0, 1) := by decide +kernel
theorem dL_774 : decode code 774 = .ok (.iload_n 3, 1) := by decide +kernel
theorem dL_775 : decode code 775 = .ok (.iconst 1, 1) := by decide +kernel
theorem dL_776 : decode code 776 = .ok (.iadd, 1) := by decide +kernel
theorem dL_777 : decode code 777 = .ok (.iaload, 1) := by decide +kernel
theorem dL_778 : decode code 778 = .ok (.aload_n 0, 1) := by decide +kernel
theorem dL_779 : decode code 779 = .ok (.iload_n 3, 1) := by decide +kernel
theorem dL_780 : decode code 780 = .ok (.iconst 2, 1) := by decide +kernel
theorem dL_781 : decode code 781 = .ok (.iadd, 1) := by decide +kernel
theorem dL_782 : decode code 782 = .ok (.iaload, 1) := by decide +kernel
theorem dL_783 : decode code 783 = .ok (.invokevirtual 108, 3) := by decide +kernel
theorem dL_786 : decode code 786 = .ok (.aload_n 2, 1) := by decide +kernel
theorem dL_787 : decode code 787 = .ok (.aload_n 0, 1) := by decide +kernel
theorem dL_788 : decode code 788 = .ok (.iload_n 3, 1) := by decide +kernel
theorem dL_789 : decode code 789 = .ok (.iconst 1, 1) := by decide +kernel
theorem dL_790 : decode code 790 = .ok (.iadd, 1) := by decide +kernel
theorem dL_791 : decode code 791 = .ok (.iaload, 1) := by decide +kernel
theorem dL_792 : decode code 792 = .ok (.aload_n 0, 1) := by decide +kernel
theorem dL_793 : decode code 793 = .ok (.iload_n 3, 1) := by decide +kernel
theorem dL_794 : decode code 794 = .ok (.iconst 2, 1) := by decide +kernel
theorem dL_795 : decode code 795 = .ok (.iadd, 1) := by decide +kernel
theorem dL_796 : decode code 796 = .ok (.iaload, 1) := by decide +kernel
theorem dL_797 : decode code 797 = .ok (.invokevirtual 111, 3) := by decide +kernel
theorem dL_800 : decode code 800 = .ok (.if_icmp .eq 88, 3) := by decide +kernel
theorem dL_803 : decode code 803 = .ok (.iconst 0, 1) := by decide +kernel
theorem dL_804 : decode code 804 = .ok (.ireturn, 1) := by decide +kernel
theorem dL_805 : decode code 805 = .ok (.aload_n 1, 1) := by decide +kernel
theorem dL_806 : decode code 806 = .ok (.aload_n 0, 1) := by decide +kernel
theorem dL_807 : decode code 807 = .ok (.iload_n 3, 1) := by decide +kernel
theorem dL_808 : decode code 808 = .ok (.iconst 1, 1) := by decide +kernel
theorem dL_809 : decode code 809 = .ok (.iadd, 1) := by decide +kernel
theorem dL_810 : decode code 810 = .ok (.iaload, 1) := by decide +kernel
theorem dL_811 : decode code 811 = .ok (.invokevirtual 112, 3) := by decide +kernel
theorem dL_814 : decode code 814 = .ok (.aload_n 2, 1) := by decide +kernel
theorem dL_815 : decode code 815 = .ok (.aload_n 0, 1) := by decide +kernel
theorem dL_816 : decode code 816 = .ok (.iload_n 3, 1) := by decide +kernel
theorem dL_817 : decode code 817 = .ok (.iconst 1, 1) := by decide +kernel
theorem dL_818 : decode code 818 = .ok (.iadd, 1) := by decide +kernel
theorem dL_819 : decode code 819 = .ok (.iaload, 1) := by decide +kernel
theorem dL_820 : decode code 820 = .ok (.invokevirtual 115, 3) := by decide +kernel
theorem dL_823 : decode code 823 = .ok (.if_icmp .eq 65, 3) := by decide +kernel
theorem dL_826 : decode code 826 = .ok (.iconst 0, 1) := by decide +kernel
theorem dL_827 : decode code 827 = .ok (.ireturn, 1) := by decide +kernel
theorem dL_828 : decode code 828 = .ok (.aload_n 1, 1) := by decide +kernel
theorem dL_829 : decode code 829 = .ok (.aload_n 0, 1) := by decide +kernel
theorem dL_830 : decode code 830 = .ok (.iload_n 3, 1) := by decide +kernel
theorem dL_831 : decode code 831 = .ok (.iconst 1, 1) := by decide +kernel
theorem dL_832 : decode code 832 = .ok (.iadd, 1) := by decide +kernel
theorem dL_833 : decode code 833 = .ok (.iaload, 1) := by decide +kernel
theorem dL_834 : decode code 834 = .ok (.invokevirtual 116, 3) := by decide +kernel
theorem dL_837 : decode code 837 = .ok (.aload_n 2, 1) := by decide +kernel
theorem dL_838 : decode code 838 = .ok (.aload_n 0, 1) := by decide +kernel
theorem dL_839 : decode code 839 = .ok (.iload_n 3, 1) := by decide +kernel
theorem dL_840 : decode code 840 = .ok (.iconst 1, 1) := by decide +kernel
theorem dL_841 : decode code 841 = .ok (.iadd, 1) := by decide +kernel
theorem dL_842 : decode code 842 = .ok (.iaload, 1) := by decide +kernel
theorem dL_843 : decode code 843 = .ok (.invokevirtual 119, 3) := by decide +kernel
theorem dL_846 : decode code 846 = .ok (.if_icmp .eq 42, 3) := by decide +kernel
theorem dL_849 : decode code 849 = .ok (.iconst 0, 1) := by decide +kernel
theorem dL_850 : decode code 850 = .ok (.ireturn, 1) := by decide +kernel
theorem dL_851 : decode code 851 = .ok (.aload_n 1, 1) := by decide +kernel
theorem dL_852 : decode code 852 = .ok (.aload_n 0, 1) := by decide +kernel
theorem dL_853 : decode code 853 = .ok (.iload_n 3, 1) := by decide +kernel
theorem dL_854 : decode code 854 = .ok (.iconst 1, 1) := by decide +kernel
theorem dL_855 : decode code 855 = .ok (.iadd, 1) := by decide +kernel
theorem dL_856 : decode code 856 = .ok (.iaload, 1) := by decide +kernel
theorem dL_857 : decode code 857 = .ok (.invokevirtual 120, 3) := by decide +kernel
theorem dL_860 : decode code 860 = .ok (.aload_n 2, 1) := by decide +kernel
theorem dL_861 : decode code 861 = .ok (.aload_n 0, 1) := by decide +kernel
theorem dL_862 : decode code 862 = .ok (.iload_n 3, 1) := by decide +kernel
theorem dL_863 : decode code 863 = .ok (.iconst 1, 1) := by decide +kernel
theorem dL_864 : decode code 864 = .ok (.iadd, 1) := by decide +kernel
theorem dL_865 : decode code 865 = .ok (.iaload, 1) := by decide +kernel
theorem dL_866 : decode code 866 = .ok (.invokevirtual 123, 3) := by decide +kernel
theorem dL_869 : decode code 869 = .ok (.if_icmp .eq 19, 3) := by decide +kernel
theorem dL_872 : decode code 872 = .ok (.iconst 0, 1) := by decide +kernel
theorem dL_873 : decode code 873 = .ok (.ireturn, 1) := by decide +kernel
theorem dL_874 : decode code 874 = .ok (.aload_n 1, 1) := by decide +kernel
theorem dL_875 : decode code 875 = .ok (.invokevirtual 124, 3) := by decide +kernel
theorem dL_878 : decode code 878 = .ok (.aload_n 2, 1) := by decide +kernel
theorem dL_879 : decode code 879 = .ok (.invokevirtual 128, 3) := by decide +kernel
theorem dL_882 : decode code 882 = .ok (.lcmp, 1) := by decide +kernel
theorem dL_883 : decode code 883 = .ok (.ifCond .eq 5, 3) := by decide +kernel
theorem dL_886 : decode code 886 = .ok (.iconst 0, 1) := by decide +kernel
theorem dL_887 : decode code 887 = .ok (.ireturn, 1) := by decide +kernel
theorem dL_888 : decode code 888 = .ok (.iinc 3 4, 3) := by decide +kernel
theorem dL_891 : decode code 891 = .ok (.goto (-873), 3) := by decide +kernel
theorem dL_894 : decode code 894 = .ok (.iconst 1, 1) := by decide +kernel
theorem dL_895 : decode code 895 = .ok (.ireturn, 1) := by decide +kernel
def S_24 (L : Nat) (xs : Nat → Int32) : List (Nat × OP) := (888, o_iinc 3 4 891) :: (891, o_goto 18) :: (894, o_const 1 895) :: (895, o_fin) :: []
def S_23 (L : Nat) (xs : Nat → Int32) : List (Nat × OP) := (852, o_aload 0 853) :: (853, o_iload 3 854) :: (854, o_const 1 855) :: (855, o_bin (fun x y => x + y) 856) :: (856, o_xld L xs 857) :: (857, o_callV 4 S_X4_count 1 860) :: (860, o_aload 2 861) :: (861, o_aload 0 862) :: (862, o_iload 3 863) :: (863, o_const 1 864) :: (864, o_bin (fun x y => x + y) 865) :: (865, o_xld L xs 866) :: (866, o_callV 5 S_X5_count 1 869) :: (869, o_icmp (fun x y => x = y) 888 872) :: (872, o_const 0 873) :: (873, o_fin) :: (874, o_aload 1 875) :: (875, o_callV 4 S_X4_trace 0 878) :: (878, o_aload 2 879) :: (879, o_callV 5 S_X5_trace 0 882) :: (882, o_lcmp 883) :: (883, o_if (fun x => x = 0) 888 886) :: (886, o_const 0 887) :: (887, o_fin) :: S_24 L xs
def S_22 (L : Nat) (xs : Nat → Int32) : List (Nat × OP) := (818, o_bin (fun x y => x + y) 819) :: (819, o_xld L xs 820) :: (820, o_callV 5 S_X5_keep 1 823) :: (823, o_icmp (fun x y => x = y) 888 826) :: (826, o_const 0 827) :: (827, o_fin) :: (828, o_aload 1 829) :: (829, o_aload 0 830) :: (830, o_iload 3 831) :: (831, o_const 1 832) :: (832, o_bin (fun x y => x + y) 833) :: (833, o_xld L xs 834) :: (834, o_callV 4 S_X4_back 1 837) :: (837, o_aload 2 838) :: (838, o_aload 0 839) :: (839, o_iload 3 840) :: (840, o_const 1 841) :: (841, o_bin (fun x y => x + y) 842) :: (842, o_xld L xs 843) :: (843, o_callV 5 S_X5_back 1 846) :: (846, o_icmp (fun x y => x = y) 888 849) :: (849, o_const 0 850) :: (850, o_fin) :: (851, o_aload 1 852) :: S_23 L xs
def S_21 (L : Nat) (xs : Nat → Int32) : List (Nat × OP) := (788, o_iload 3 789) :: (789, o_const 1 790) :: (790, o_bin (fun x y => x + y) 791) :: (791, o_xld L xs 792) :: (792, o_aload 0 793) :: (793, o_iload 3 794) :: (794, o_const 2 795) :: (795, o_bin (fun x y => x + y) 796) :: (796, o_xld L xs 797) :: (797, o_callV 5 S_X5_rate 2 800) :: (800, o_icmp (fun x y => x = y) 888 803) :: (803, o_const 0 804) :: (804, o_fin) :: (805, o_aload 1 806) :: (806, o_aload 0 807) :: (807, o_iload 3 808) :: (808, o_const 1 809) :: (809, o_bin (fun x y => x + y) 810) :: (810, o_xld L xs 811) :: (811, o_callV 4 S_X4_keep 1 814) :: (814, o_aload 2 815) :: (815, o_aload 0 816) :: (816, o_iload 3 817) :: (817, o_const 1 818) :: S_22 L xs
def S_20 (L : Nat) (xs : Nat → Int32) : List (Nat × OP) := (758, o_xld L xs 759) :: (759, o_aload 0 760) :: (760, o_iload 3 761) :: (761, o_const 3 762) :: (762, o_bin (fun x y => x + y) 763) :: (763, o_xld L xs 764) :: (764, o_callV 5 S_X5_odds 3 767) :: (767, o_icmp (fun x y => x = y) 888 770) :: (770, o_const 0 771) :: (771, o_fin) :: (772, o_aload 1 773) :: (773, o_aload 0 774) :: (774, o_iload 3 775) :: (775, o_const 1 776) :: (776, o_bin (fun x y => x + y) 777) :: (777, o_xld L xs 778) :: (778, o_aload 0 779) :: (779, o_iload 3 780) :: (780, o_const 2 781) :: (781, o_bin (fun x y => x + y) 782) :: (782, o_xld L xs 783) :: (783, o_callV 4 S_X4_rate 2 786) :: (786, o_aload 2 787) :: (787, o_aload 0 788) :: S_21 L xs
def S_19 (L : Nat) (xs : Nat → Int32) : List (Nat × OP) := (732, o_const 1 733) :: (733, o_bin (fun x y => x + y) 734) :: (734, o_xld L xs 735) :: (735, o_aload 0 736) :: (736, o_iload 3 737) :: (737, o_const 2 738) :: (738, o_bin (fun x y => x + y) 739) :: (739, o_xld L xs 740) :: (740, o_aload 0 741) :: (741, o_iload 3 742) :: (742, o_const 3 743) :: (743, o_bin (fun x y => x + y) 744) :: (744, o_xld L xs 745) :: (745, o_callV 4 S_X4_odds 3 748) :: (748, o_aload 2 749) :: (749, o_aload 0 750) :: (750, o_iload 3 751) :: (751, o_const 1 752) :: (752, o_bin (fun x y => x + y) 753) :: (753, o_xld L xs 754) :: (754, o_aload 0 755) :: (755, o_iload 3 756) :: (756, o_const 2 757) :: (757, o_bin (fun x y => x + y) 758) :: S_20 L xs
def S_18 (L : Nat) (xs : Nat → Int32) : List (Nat × OP) := (702, o_callV 4 S_X4_slips 3 705) :: (705, o_aload 2 706) :: (706, o_aload 0 707) :: (707, o_iload 3 708) :: (708, o_const 1 709) :: (709, o_bin (fun x y => x + y) 710) :: (710, o_xld L xs 711) :: (711, o_aload 0 712) :: (712, o_iload 3 713) :: (713, o_const 2 714) :: (714, o_bin (fun x y => x + y) 715) :: (715, o_xld L xs 716) :: (716, o_aload 0 717) :: (717, o_iload 3 718) :: (718, o_const 3 719) :: (719, o_bin (fun x y => x + y) 720) :: (720, o_xld L xs 721) :: (721, o_callV 5 S_X5_slips 3 724) :: (724, o_icmp (fun x y => x = y) 888 727) :: (727, o_const 0 728) :: (728, o_fin) :: (729, o_aload 1 730) :: (730, o_aload 0 731) :: (731, o_iload 3 732) :: S_19 L xs
def S_17 (L : Nat) (xs : Nat → Int32) : List (Nat × OP) := (672, o_fin) :: (673, o_aload 1 674) :: (674, o_callV 4 S_X4_apart 0 677) :: (677, o_aload 2 678) :: (678, o_callV 5 S_X5_apart 0 681) :: (681, o_icmp (fun x y => x = y) 888 684) :: (684, o_const 0 685) :: (685, o_fin) :: (686, o_aload 1 687) :: (687, o_aload 0 688) :: (688, o_iload 3 689) :: (689, o_const 1 690) :: (690, o_bin (fun x y => x + y) 691) :: (691, o_xld L xs 692) :: (692, o_aload 0 693) :: (693, o_iload 3 694) :: (694, o_const 2 695) :: (695, o_bin (fun x y => x + y) 696) :: (696, o_xld L xs 697) :: (697, o_aload 0 698) :: (698, o_iload 3 699) :: (699, o_const 3 700) :: (700, o_bin (fun x y => x + y) 701) :: (701, o_xld L xs 702) :: S_18 L xs
def S_16 (L : Nat) (xs : Nat → Int32) : List (Nat × OP) := (638, o_iload 3 639) :: (639, o_const 1 640) :: (640, o_bin (fun x y => x + y) 641) :: (641, o_xld L xs 642) :: (642, o_callV 5 S_X5_brings 1 645) :: (645, o_icmp (fun x y => x = y) 888 648) :: (648, o_const 0 649) :: (649, o_fin) :: (650, o_aload 1 651) :: (651, o_aload 0 652) :: (652, o_iload 3 653) :: (653, o_const 1 654) :: (654, o_bin (fun x y => x + y) 655) :: (655, o_xld L xs 656) :: (656, o_callV 4 S_X4_rob 1 659) :: (659, o_aload 2 660) :: (660, o_aload 0 661) :: (661, o_iload 3 662) :: (662, o_const 1 663) :: (663, o_bin (fun x y => x + y) 664) :: (664, o_xld L xs 665) :: (665, o_callV 5 S_X5_rob 1 668) :: (668, o_icmp (fun x y => x = y) 888 671) :: (671, o_const 0 672) :: S_17 L xs
def S_15 (L : Nat) (xs : Nat → Int32) : List (Nat × OP) := (606, o_iload 3 607) :: (607, o_const 1 608) :: (608, o_bin (fun x y => x + y) 609) :: (609, o_xld L xs 610) :: (610, o_callV 4 S_X4_shut 1 613) :: (613, o_aload 2 614) :: (614, o_aload 0 615) :: (615, o_iload 3 616) :: (616, o_const 1 617) :: (617, o_bin (fun x y => x + y) 618) :: (618, o_xld L xs 619) :: (619, o_callV 5 S_X5_shut 1 622) :: (622, o_icmp (fun x y => x = y) 888 625) :: (625, o_const 0 626) :: (626, o_fin) :: (627, o_aload 1 628) :: (628, o_aload 0 629) :: (629, o_iload 3 630) :: (630, o_const 1 631) :: (631, o_bin (fun x y => x + y) 632) :: (632, o_xld L xs 633) :: (633, o_callV 4 S_X4_brings 1 636) :: (636, o_aload 2 637) :: (637, o_aload 0 638) :: S_16 L xs
def S_14 (L : Nat) (xs : Nat → Int32) : List (Nat × OP) := (576, o_xld L xs 577) :: (577, o_callV 4 S_X4_wish 3 580) :: (580, o_aload 2 581) :: (581, o_aload 0 582) :: (582, o_iload 3 583) :: (583, o_const 1 584) :: (584, o_bin (fun x y => x + y) 585) :: (585, o_xld L xs 586) :: (586, o_aload 0 587) :: (587, o_iload 3 588) :: (588, o_const 2 589) :: (589, o_bin (fun x y => x + y) 590) :: (590, o_xld L xs 591) :: (591, o_aload 0 592) :: (592, o_iload 3 593) :: (593, o_const 3 594) :: (594, o_bin (fun x y => x + y) 595) :: (595, o_xld L xs 596) :: (596, o_callV 5 S_X5_wish 3 599) :: (599, o_icmp (fun x y => x = y) 888 602) :: (602, o_const 0 603) :: (603, o_fin) :: (604, o_aload 1 605) :: (605, o_aload 0 606) :: S_15 L xs
def S_13 (L : Nat) (xs : Nat → Int32) : List (Nat × OP) := (548, o_aload 0 549) :: (549, o_iload 3 550) :: (550, o_const 2 551) :: (551, o_bin (fun x y => x + y) 552) :: (552, o_xld L xs 553) :: (553, o_callV 5 S_X5_groups 2 556) :: (556, o_icmp (fun x y => x = y) 888 559) :: (559, o_const 0 560) :: (560, o_fin) :: (561, o_aload 1 562) :: (562, o_aload 0 563) :: (563, o_iload 3 564) :: (564, o_const 1 565) :: (565, o_bin (fun x y => x + y) 566) :: (566, o_xld L xs 567) :: (567, o_aload 0 568) :: (568, o_iload 3 569) :: (569, o_const 2 570) :: (570, o_bin (fun x y => x + y) 571) :: (571, o_xld L xs 572) :: (572, o_aload 0 573) :: (573, o_iload 3 574) :: (574, o_const 3 575) :: (575, o_bin (fun x y => x + y) 576) :: S_14 L xs
def S_12 (L : Nat) (xs : Nat → Int32) : List (Nat × OP) := (518, o_bin (fun x y => x + y) 519) :: (519, o_xld L xs 520) :: (520, o_callV 5 S_X5_opens 1 523) :: (523, o_icmp (fun x y => x = y) 888 526) :: (526, o_const 0 527) :: (527, o_fin) :: (528, o_aload 1 529) :: (529, o_aload 0 530) :: (530, o_iload 3 531) :: (531, o_const 1 532) :: (532, o_bin (fun x y => x + y) 533) :: (533, o_xld L xs 534) :: (534, o_aload 0 535) :: (535, o_iload 3 536) :: (536, o_const 2 537) :: (537, o_bin (fun x y => x + y) 538) :: (538, o_xld L xs 539) :: (539, o_callV 4 S_X4_groups 2 542) :: (542, o_aload 2 543) :: (543, o_aload 0 544) :: (544, o_iload 3 545) :: (545, o_const 1 546) :: (546, o_bin (fun x y => x + y) 547) :: (547, o_xld L xs 548) :: S_13 L xs
def S_11 (L : Nat) (xs : Nat → Int32) : List (Nat × OP) := (488, o_iload 3 489) :: (489, o_const 2 490) :: (490, o_bin (fun x y => x + y) 491) :: (491, o_xld L xs 492) :: (492, o_aload 0 493) :: (493, o_iload 3 494) :: (494, o_const 3 495) :: (495, o_bin (fun x y => x + y) 496) :: (496, o_xld L xs 497) :: (497, o_callV 5 S_X5_fewest 3 500) :: (500, o_icmp (fun x y => x = y) 888 503) :: (503, o_const 0 504) :: (504, o_fin) :: (505, o_aload 1 506) :: (506, o_aload 0 507) :: (507, o_iload 3 508) :: (508, o_const 1 509) :: (509, o_bin (fun x y => x + y) 510) :: (510, o_xld L xs 511) :: (511, o_callV 4 S_X4_opens 1 514) :: (514, o_aload 2 515) :: (515, o_aload 0 516) :: (516, o_iload 3 517) :: (517, o_const 1 518) :: S_12 L xs
def S_10 (L : Nat) (xs : Nat → Int32) : List (Nat × OP) := (462, o_aload 1 463) :: (463, o_aload 0 464) :: (464, o_iload 3 465) :: (465, o_const 1 466) :: (466, o_bin (fun x y => x + y) 467) :: (467, o_xld L xs 468) :: (468, o_aload 0 469) :: (469, o_iload 3 470) :: (470, o_const 2 471) :: (471, o_bin (fun x y => x + y) 472) :: (472, o_xld L xs 473) :: (473, o_aload 0 474) :: (474, o_iload 3 475) :: (475, o_const 3 476) :: (476, o_bin (fun x y => x + y) 477) :: (477, o_xld L xs 478) :: (478, o_callV 4 S_X4_fewest 3 481) :: (481, o_aload 2 482) :: (482, o_aload 0 483) :: (483, o_iload 3 484) :: (484, o_const 1 485) :: (485, o_bin (fun x y => x + y) 486) :: (486, o_xld L xs 487) :: (487, o_aload 0 488) :: S_11 L xs
def S_9 (L : Nat) (xs : Nat → Int32) : List (Nat × OP) := (422, o_xld L xs 423) :: (423, o_aload 0 424) :: (424, o_iload 3 425) :: (425, o_const 2 426) :: (426, o_bin (fun x y => x + y) 427) :: (427, o_xld L xs 428) :: (428, o_callV 5 S_X5_forge 2 431) :: (431, o_icmp (fun x y => x = y) 888 434) :: (434, o_const 0 435) :: (435, o_fin) :: (436, o_aload 1 437) :: (437, o_callV 4 S_X4_undo 0 440) :: (440, o_aload 2 441) :: (441, o_callV 5 S_X5_undo 0 444) :: (444, o_icmp (fun x y => x = y) 888 447) :: (447, o_const 0 448) :: (448, o_fin) :: (449, o_aload 1 450) :: (450, o_callV 4 S_X4_alone 0 453) :: (453, o_aload 2 454) :: (454, o_callV 5 S_X5_alone 0 457) :: (457, o_icmp (fun x y => x = y) 888 460) :: (460, o_const 0 461) :: (461, o_fin) :: S_10 L xs
def S_8 (L : Nat) (xs : Nat → Int32) : List (Nat × OP) := (392, o_const 1 393) :: (393, o_bin (fun x y => x + y) 394) :: (394, o_xld L xs 395) :: (395, o_callV 5 S_X5_lose 1 398) :: (398, o_icmp (fun x y => x = y) 888 401) :: (401, o_const 0 402) :: (402, o_fin) :: (403, o_aload 1 404) :: (404, o_aload 0 405) :: (405, o_iload 3 406) :: (406, o_const 1 407) :: (407, o_bin (fun x y => x + y) 408) :: (408, o_xld L xs 409) :: (409, o_aload 0 410) :: (410, o_iload 3 411) :: (411, o_const 2 412) :: (412, o_bin (fun x y => x + y) 413) :: (413, o_xld L xs 414) :: (414, o_callV 4 S_X4_forge 2 417) :: (417, o_aload 2 418) :: (418, o_aload 0 419) :: (419, o_iload 3 420) :: (420, o_const 1 421) :: (421, o_bin (fun x y => x + y) 422) :: S_9 L xs
def S_7 (L : Nat) (xs : Nat → Int32) : List (Nat × OP) := (362, o_aload 0 363) :: (363, o_iload 3 364) :: (364, o_const 1 365) :: (365, o_bin (fun x y => x + y) 366) :: (366, o_xld L xs 367) :: (367, o_aload 0 368) :: (368, o_iload 3 369) :: (369, o_const 2 370) :: (370, o_bin (fun x y => x + y) 371) :: (371, o_xld L xs 372) :: (372, o_callV 5 S_X5_give 2 375) :: (375, o_icmp (fun x y => x = y) 888 378) :: (378, o_const 0 379) :: (379, o_fin) :: (380, o_aload 1 381) :: (381, o_aload 0 382) :: (382, o_iload 3 383) :: (383, o_const 1 384) :: (384, o_bin (fun x y => x + y) 385) :: (385, o_xld L xs 386) :: (386, o_callV 4 S_X4_lose 1 389) :: (389, o_aload 2 390) :: (390, o_aload 0 391) :: (391, o_iload 3 392) :: S_8 L xs
def S_6 (L : Nat) (xs : Nat → Int32) : List (Nat × OP) := (330, o_callV 4 S_X4_cut 1 333) :: (333, o_aload 2 334) :: (334, o_aload 0 335) :: (335, o_iload 3 336) :: (336, o_const 1 337) :: (337, o_bin (fun x y => x + y) 338) :: (338, o_xld L xs 339) :: (339, o_callV 5 S_X5_cut 1 342) :: (342, o_icmp (fun x y => x = y) 888 345) :: (345, o_const 0 346) :: (346, o_fin) :: (347, o_aload 1 348) :: (348, o_aload 0 349) :: (349, o_iload 3 350) :: (350, o_const 1 351) :: (351, o_bin (fun x y => x + y) 352) :: (352, o_xld L xs 353) :: (353, o_aload 0 354) :: (354, o_iload 3 355) :: (355, o_const 2 356) :: (356, o_bin (fun x y => x + y) 357) :: (357, o_xld L xs 358) :: (358, o_callV 4 S_X4_give 2 361) :: (361, o_aload 2 362) :: S_7 L xs
def S_5 (L : Nat) (xs : Nat → Int32) : List (Nat × OP) := (300, o_fin) :: (301, o_aload 1 302) :: (302, o_aload 0 303) :: (303, o_iload 3 304) :: (304, o_const 1 305) :: (305, o_bin (fun x y => x + y) 306) :: (306, o_xld L xs 307) :: (307, o_callV 4 S_X4_laid 1 310) :: (310, o_aload 2 311) :: (311, o_aload 0 312) :: (312, o_iload 3 313) :: (313, o_const 1 314) :: (314, o_bin (fun x y => x + y) 315) :: (315, o_xld L xs 316) :: (316, o_callV 5 S_X5_laid 1 319) :: (319, o_icmp (fun x y => x = y) 888 322) :: (322, o_const 0 323) :: (323, o_fin) :: (324, o_aload 1 325) :: (325, o_aload 0 326) :: (326, o_iload 3 327) :: (327, o_const 1 328) :: (328, o_bin (fun x y => x + y) 329) :: (329, o_xld L xs 330) :: S_6 L xs
def S_4 (L : Nat) (xs : Nat → Int32) : List (Nat × OP) := (266, o_iload 3 267) :: (267, o_const 2 268) :: (268, o_bin (fun x y => x + y) 269) :: (269, o_xld L xs 270) :: (270, o_callV 5 S_X5_key 2 273) :: (273, o_icmp (fun x y => x = y) 888 276) :: (276, o_const 0 277) :: (277, o_fin) :: (278, o_aload 1 279) :: (279, o_aload 0 280) :: (280, o_iload 3 281) :: (281, o_const 1 282) :: (282, o_bin (fun x y => x + y) 283) :: (283, o_xld L xs 284) :: (284, o_callV 4 S_X4_lock 1 287) :: (287, o_aload 2 288) :: (288, o_aload 0 289) :: (289, o_iload 3 290) :: (290, o_const 1 291) :: (291, o_bin (fun x y => x + y) 292) :: (292, o_xld L xs 293) :: (293, o_callV 5 S_X5_lock 1 296) :: (296, o_icmp (fun x y => x = y) 888 299) :: (299, o_const 0 300) :: S_5 L xs
def S_3 (L : Nat) (xs : Nat → Int32) : List (Nat × OP) := (236, o_aload 2 237) :: (237, o_callV 5 S_X5_house 0 240) :: (240, o_icmp (fun x y => x = y) 888 243) :: (243, o_const 0 244) :: (244, o_fin) :: (245, o_aload 1 246) :: (246, o_aload 0 247) :: (247, o_iload 3 248) :: (248, o_const 1 249) :: (249, o_bin (fun x y => x + y) 250) :: (250, o_xld L xs 251) :: (251, o_aload 0 252) :: (252, o_iload 3 253) :: (253, o_const 2 254) :: (254, o_bin (fun x y => x + y) 255) :: (255, o_xld L xs 256) :: (256, o_callV 4 S_X4_key 2 259) :: (259, o_aload 2 260) :: (260, o_aload 0 261) :: (261, o_iload 3 262) :: (262, o_const 1 263) :: (263, o_bin (fun x y => x + y) 264) :: (264, o_xld L xs 265) :: (265, o_aload 0 266) :: S_4 L xs
def S_2 (L : Nat) (xs : Nat → Int32) : List (Nat × OP) := (198, o_bin (fun x y => x + y) 199) :: (199, o_xld L xs 200) :: (200, o_i2l 201) :: (201, o_lconst 4294967295 204) :: (204, o_lbin (fun x y => x &&& y) 205) :: (205, o_lbin (fun x y => x ||| y) 206) :: (206, o_aload 0 207) :: (207, o_iload 3 208) :: (208, o_const 3 209) :: (209, o_bin (fun x y => x + y) 210) :: (210, o_xld L xs 211) :: (211, o_callV 5 S_X5_type 2 214) :: (214, o_icmp (fun x y => x = y) 888 217) :: (217, o_const 0 218) :: (218, o_fin) :: (219, o_aload 1 220) :: (220, o_callV 4 S_X4_clear 0 223) :: (223, o_aload 2 224) :: (224, o_callV 5 S_X5_clear 0 227) :: (227, o_icmp (fun x y => x = y) 888 230) :: (230, o_const 0 231) :: (231, o_fin) :: (232, o_aload 1 233) :: (233, o_callV 4 S_X4_house 0 236) :: S_3 L xs
def S_1 (L : Nat) (xs : Nat → Int32) : List (Nat × OP) := (169, o_bin (fun x y => x + y) 170) :: (170, o_xld L xs 171) :: (171, o_i2l 172) :: (172, o_lconst 4294967295 175) :: (175, o_lbin (fun x y => x &&& y) 176) :: (176, o_lbin (fun x y => x ||| y) 177) :: (177, o_aload 0 178) :: (178, o_iload 3 179) :: (179, o_const 3 180) :: (180, o_bin (fun x y => x + y) 181) :: (181, o_xld L xs 182) :: (182, o_callV 4 S_X4_type 2 185) :: (185, o_aload 2 186) :: (186, o_aload 0 187) :: (187, o_iload 3 188) :: (188, o_const 1 189) :: (189, o_bin (fun x y => x + y) 190) :: (190, o_xld L xs 191) :: (191, o_i2l 192) :: (192, o_const 32 194) :: (194, o_lsh (fun x y => x <<< (y.toInt64 &&& 63)) 195) :: (195, o_aload 0 196) :: (196, o_iload 3 197) :: (197, o_const 2 198) :: S_2 L xs
def S_0 (L : Nat) (xs : Nat → Int32) : List (Nat × OP) := (18, o_iload 3 19) :: (19, o_aload 0 20) :: (20, o_xlen L 21) :: (21, o_const 4 22) :: (22, o_bin (fun x y => x - y) 23) :: (23, o_icmp (fun x y => y < x) 894 26) :: (26, o_aload 0 27) :: (27, o_iload 3 28) :: (28, o_xld L xs 29) :: (29, o_const 31 31) :: (31, o_bin (fun x y => x &&& y) 32) :: (32, o_sw [(0, 156), (1, 219), (2, 232), (3, 245), (4, 278), (5, 301), (6, 324), (7, 347), (8, 380), (9, 403), (10, 436), (11, 449), (12, 462), (13, 505), (14, 528), (15, 561), (16, 604), (17, 627), (18, 650), (19, 673), (20, 686), (21, 729), (22, 772), (23, 805), (24, 828), (25, 851), (26, 874)] 888) :: (156, o_aload 1 157) :: (157, o_aload 0 158) :: (158, o_iload 3 159) :: (159, o_const 1 160) :: (160, o_bin (fun x y => x + y) 161) :: (161, o_xld L xs 162) :: (162, o_i2l 163) :: (163, o_const 32 165) :: (165, o_lsh (fun x y => x <<< (y.toInt64 &&& 63)) 166) :: (166, o_aload 0 167) :: (167, o_iload 3 168) :: (168, o_const 2 169) :: S_1 L xs
def T_L (L : Nat) (xs : Nat → Int32) : List (Nat × OP) := S_0 L xs
set_option maxRecDepth 100000 in
set_option maxHeartbeats 4000000 in
theorem t_L {p : Program} {l : Launch} {e : Env} {s : State} {m : MethodId} {below : List Frame} {meth : Method} {c : Code} {D : va_G} {dA : Nat → ClassId} {ad : Nat → Nat} {b L : Nat} {xs : Nat → Int32} (C : CX p s m #[Value.ref b] meth c code 4 RL D dA ad (LA s)) (hX : va_X b L xs s s.heap) (hL8 : L ≤ 2048) (hbl : b < s.heap.size) (hbA : ¬ LA s b) (hab : ad 130 = b) (hr : meth.sig.returnType = ret) : SndL (WW p l e room_1 s m #[Value.ref b] below meth c 48 10347 (lw_Z below #[Value.ref b] s) 4 D dA ad (LA s)) (T_L L xs) := by
  refine snd_c (s_iload_n C rfl dL_18) ?_
  refine snd_c (s_aload_n C rfl dL_19) ?_
  refine snd_c (s_xlen C hX hbl hbA hab dL_20) ?_
  refine snd_c (s_iconst C dL_21 rfl) ?_
  refine snd_c (s_isub C dL_22) ?_
  refine snd_c (s_icmp_gt C dL_23 (by decide)) ?_
  refine snd_c (s_aload_n C rfl dL_26) ?_
  refine snd_c (s_iload_n C rfl dL_27) ?_
  refine snd_c (s_xld C hX hL8 hbl hbA hab dL_28) ?_
  refine snd_c (s_bipush C dL_29 rfl) ?_
  refine snd_c (s_iand C dL_31) ?_
  refine snd_c (s_sw C dL_32 (by decide) (by decide +kernel) (by decide)) ?_
  refine snd_c (s_aload_n C rfl dL_156) ?_
  refine snd_c (s_aload_n C rfl dL_157) ?_
  refine snd_c (s_iload_n C rfl dL_158) ?_
  refine snd_c (s_iconst C dL_159 rfl) ?_
  refine snd_c (s_iadd C dL_160) ?_
  refine snd_c (s_xld C hX hL8 hbl hbA hab dL_161) ?_
  refine snd_c (s_i2l C dL_162) ?_
  refine snd_c (s_bipush C dL_163 rfl) ?_
  refine snd_c (s_lshl C dL_165) ?_
  refine snd_c (s_aload_n C rfl dL_166) ?_
  refine snd_c (s_iload_n C rfl dL_167) ?_
  refine snd_c (s_iconst C dL_168 rfl) ?_
  refine snd_c (s_iadd C dL_169) ?_
  refine snd_c (s_xld C hX hL8 hbl hbA hab dL_170) ?_
  refine snd_c (s_i2l C dL_171) ?_
  refine snd_c (s_ldc2 C ctL_RL_13 dL_172) ?_
  refine snd_c (s_land C dL_175) ?_
  refine snd_c (s_lor C dL_176) ?_
  refine snd_c (s_aload_n C rfl dL_177) ?_
  refine snd_c (s_iload_n C rfl dL_178) ?_
  refine snd_c (s_iconst C dL_179 rfl) ?_
  refine snd_c (s_iadd C dL_180) ?_
  refine snd_c (s_xld C hX hL8 hbl hbA hab dL_181) ?_
  refine snd_c (s_callV C (ci := 4) c_X4_type rfl cw_RL_15 ⟨rfl, rfl⟩ ⟨by decide +kernel, by decide +kernel, by decide +kernel⟩ ⟨Nat.le_of_ble_eq_true rfl, Nat.le_of_ble_eq_true rfl⟩ ⟨Nat.le_of_ble_eq_true rfl, Nat.le_of_ble_eq_true rfl⟩ dL_182) ?_
  refine snd_c (s_aload_n C rfl dL_185) ?_
  refine snd_c (s_aload_n C rfl dL_186) ?_
  refine snd_c (s_iload_n C rfl dL_187) ?_
  refine snd_c (s_iconst C dL_188 rfl) ?_
  refine snd_c (s_iadd C dL_189) ?_
  refine snd_c (s_xld C hX hL8 hbl hbA hab dL_190) ?_
  refine snd_c (s_i2l C dL_191) ?_
  refine snd_c (s_bipush C dL_192 rfl) ?_
  refine snd_c (s_lshl C dL_194) ?_
  refine snd_c (s_aload_n C rfl dL_195) ?_
  refine snd_c (s_iload_n C rfl dL_196) ?_
  refine snd_c (s_iconst C dL_197 rfl) ?_
  refine snd_c (s_iadd C dL_198) ?_
  refine snd_c (s_xld C hX hL8 hbl hbA hab dL_199) ?_
  refine snd_c (s_i2l C dL_200) ?_
  refine snd_c (s_ldc2 C ctL_RL_13 dL_201) ?_
  refine snd_c (s_land C dL_204) ?_
  refine snd_c (s_lor C dL_205) ?_
  refine snd_c (s_aload_n C rfl dL_206) ?_
  refine snd_c (s_iload_n C rfl dL_207) ?_
  refine snd_c (s_iconst C dL_208 rfl) ?_
  refine snd_c (s_iadd C dL_209) ?_
  refine snd_c (s_xld C hX hL8 hbl hbA hab dL_210) ?_
  refine snd_c (s_callV C (ci := 5) c_X5_type rfl cw_RL_19 ⟨rfl, rfl⟩ ⟨by decide +kernel, by decide +kernel, by decide +kernel⟩ ⟨Nat.le_of_ble_eq_true rfl, Nat.le_of_ble_eq_true rfl⟩ ⟨Nat.le_of_ble_eq_true rfl, Nat.le_of_ble_eq_true rfl⟩ dL_211) ?_
  refine snd_c (s_icmp_eq C dL_214 (by decide)) ?_
  refine snd_c (s_iconst C dL_217 rfl) ?_
  refine snd_c (s_fin C hr dL_218) ?_
  refine snd_c (s_aload_n C rfl dL_219) ?_
  refine snd_c (s_callV C (ci := 4) c_X4_clear rfl cw_RL_20 ⟨rfl, rfl⟩ ⟨by decide +kernel, by decide +kernel, by decide +kernel⟩ ⟨Nat.le_of_ble_eq_true rfl, Nat.le_of_ble_eq_true rfl⟩ ⟨Nat.le_of_ble_eq_true rfl, Nat.le_of_ble_eq_true rfl⟩ dL_220) ?_
  refine snd_c (s_aload_n C rfl dL_223) ?_
  refine snd_c (s_callV C (ci := 5) c_X5_clear rfl cw_RL_24 ⟨rfl, rfl⟩ ⟨by decide +kernel, by decide +kernel, by decide +kernel⟩ ⟨Nat.le_of_ble_eq_true rfl, Nat.le_of_ble_eq_true rfl⟩ ⟨Nat.le_of_ble_eq_true rfl, Nat.le_of_ble_eq_true rfl⟩ dL_224) ?_
  refine snd_c (s_icmp_eq C dL_227 (by decide)) ?_
  refine snd_c (s_iconst C dL_230 rfl) ?_
  refine snd_c (s_fin C hr dL_231) ?_
  refine snd_c (s_aload_n C rfl dL_232) ?_
  refine snd_c (s_callV C (ci := 4) c_X4_house rfl cw_RL_25 ⟨rfl, rfl⟩ ⟨by decide +kernel, by decide +kernel, by decide +kernel⟩ ⟨Nat.le_of_ble_eq_true rfl, Nat.le_of_ble_eq_true rfl⟩ ⟨Nat.le_of_ble_eq_true rfl, Nat.le_of_ble_eq_true rfl⟩ dL_233) ?_
  refine snd_c (s_aload_n C rfl dL_236) ?_
  refine snd_c (s_callV C (ci := 5) c_X5_house rfl cw_RL_28 ⟨rfl, rfl⟩ ⟨by decide +kernel, by decide +kernel, by decide +kernel⟩ ⟨Nat.le_of_ble_eq_true rfl, Nat.le_of_ble_eq_true rfl⟩ ⟨Nat.le_of_ble_eq_true rfl, Nat.le_of_ble_eq_true rfl⟩ dL_237) ?_
  refine snd_c (s_icmp_eq C dL_240 (by decide)) ?_
  refine snd_c (s_iconst C dL_243 rfl) ?_
  refine snd_c (s_fin C hr dL_244) ?_
  refine snd_c (s_aload_n C rfl dL_245) ?_
  refine snd_c (s_aload_n C rfl dL_246) ?_
  refine snd_c (s_iload_n C rfl dL_247) ?_
  refine snd_c (s_iconst C dL_248 rfl) ?_
  refine snd_c (s_iadd C dL_249) ?_
  refine snd_c (s_xld C hX hL8 hbl hbA hab dL_250) ?_
  refine snd_c (s_aload_n C rfl dL_251) ?_
  refine snd_c (s_iload_n C rfl dL_252) ?_
  refine snd_c (s_iconst C dL_253 rfl) ?_
  refine snd_c (s_iadd C dL_254) ?_
  refine snd_c (s_xld C hX hL8 hbl hbA hab dL_255) ?_
  refine snd_c (s_callV C (ci := 4) c_X4_key rfl cw_RL_29 ⟨rfl, rfl⟩ ⟨by decide +kernel, by decide +kernel, by decide +kernel⟩ ⟨Nat.le_of_ble_eq_true rfl, Nat.le_of_ble_eq_true rfl⟩ ⟨Nat.le_of_ble_eq_true rfl, Nat.le_of_ble_eq_true rfl⟩ dL_256) ?_
  refine snd_c (s_aload_n C rfl dL_259) ?_
  refine snd_c (s_aload_n C rfl dL_260) ?_
  refine snd_c (s_iload_n C rfl dL_261) ?_
  refine snd_c (s_iconst C dL_262 rfl) ?_
  refine snd_c (s_iadd C dL_263) ?_
  refine snd_c (s_xld C hX hL8 hbl hbA hab dL_264) ?_
  refine snd_c (s_aload_n C rfl dL_265) ?_
  refine snd_c (s_iload_n C rfl dL_266) ?_
  refine snd_c (s_iconst C dL_267 rfl) ?_
  refine snd_c (s_iadd C dL_268) ?_
  refine snd_c (s_xld C hX hL8 hbl hbA hab dL_269) ?_
  refine snd_c (s_callV C (ci := 5) c_X5_key rfl cw_RL_33 ⟨rfl, rfl⟩ ⟨by decide +kernel, by decide +kernel, by decide +kernel⟩ ⟨Nat.le_of_ble_eq_true rfl, Nat.le_of_ble_eq_true rfl⟩ ⟨Nat.le_of_ble_eq_true rfl, Nat.le_of_ble_eq_true rfl⟩ dL_270) ?_
  refine snd_c (s_icmp_eq C dL_273 (by decide)) ?_
  refine snd_c (s_iconst C dL_276 rfl) ?_
  refine snd_c (s_fin C hr dL_277) ?_
  refine snd_c (s_aload_n C rfl dL_278) ?_
  refine snd_c (s_aload_n C rfl dL_279) ?_
  refine snd_c (s_iload_n C rfl dL_280) ?_
  refine snd_c (s_iconst C dL_281 rfl) ?_
  refine snd_c (s_iadd C dL_282) ?_
  refine snd_c (s_xld C hX hL8 hbl hbA hab dL_283) ?_
  refine snd_c (s_callV C (ci := 4) c_X4_lock rfl cw_RL_34 ⟨rfl, rfl⟩ ⟨by decide +kernel, by decide +kernel, by decide +kernel⟩ ⟨Nat.le_of_ble_eq_true rfl, Nat.le_of_ble_eq_true rfl⟩ ⟨Nat.le_of_ble_eq_true rfl, Nat.le_of_ble_eq_true rfl⟩ dL_284) ?_
  refine snd_c (s_aload_n C rfl dL_287) ?_
  refine snd_c (s_aload_n C rfl dL_288) ?_
  refine snd_c (s_iload_n C rfl dL_289) ?_
  refine snd_c (s_iconst C dL_290 rfl) ?_
  refine snd_c (s_iadd C dL_291) ?_
  refine snd_c (s_xld C hX hL8 hbl hbA hab dL_292) ?_
  refine snd_c (s_callV C (ci := 5) c_X5_lock rfl cw_RL_38 ⟨rfl, rfl⟩ ⟨by decide +kernel, by decide +kernel, by decide +kernel⟩ ⟨Nat.le_of_ble_eq_true rfl, Nat.le_of_ble_eq_true rfl⟩ ⟨Nat.le_of_ble_eq_true rfl, Nat.le_of_ble_eq_true rfl⟩ dL_293) ?_
  refine snd_c (s_icmp_eq C dL_296 (by decide)) ?_
  refine snd_c (s_iconst C dL_299 rfl) ?_
  refine snd_c (s_fin C hr dL_300) ?_
  refine snd_c (s_aload_n C rfl dL_301) ?_
  refine snd_c (s_aload_n C rfl dL_302) ?_
  refine snd_c (s_iload_n C rfl dL_303) ?_
  refine snd_c (s_iconst C dL_304 rfl) ?_
  refine snd_c (s_iadd C dL_305) ?_
  refine snd_c (s_xld C hX hL8 hbl hbA hab dL_306) ?_
  refine snd_c (s_callV C (ci := 4) c_X4_laid rfl cw_RL_39 ⟨rfl, rfl⟩ ⟨by decide +kernel, by decide +kernel, by decide +kernel⟩ ⟨Nat.le_of_ble_eq_true rfl, Nat.le_of_ble_eq_true rfl⟩ ⟨Nat.le_of_ble_eq_true rfl, Nat.le_of_ble_eq_true rfl⟩ dL_307) ?_
  refine snd_c (s_aload_n C rfl dL_310) ?_
  refine snd_c (s_aload_n C rfl dL_311) ?_
  refine snd_c (s_iload_n C rfl dL_312) ?_
  refine snd_c (s_iconst C dL_313 rfl) ?_
  refine snd_c (s_iadd C dL_314) ?_
  refine snd_c (s_xld C hX hL8 hbl hbA hab dL_315) ?_
  refine snd_c (s_callV C (ci := 5) c_X5_laid rfl cw_RL_42 ⟨rfl, rfl⟩ ⟨by decide +kernel, by decide +kernel, by decide +kernel⟩ ⟨Nat.le_of_ble_eq_true rfl, Nat.le_of_ble_eq_true rfl⟩ ⟨Nat.le_of_ble_eq_true rfl, Nat.le_of_ble_eq_true rfl⟩ dL_316) ?_
  refine snd_c (s_icmp_eq C dL_319 (by decide)) ?_
  refine snd_c (s_iconst C dL_322 rfl) ?_
  refine snd_c (s_fin C hr dL_323) ?_
  refine snd_c (s_aload_n C rfl dL_324) ?_
  refine snd_c (s_aload_n C rfl dL_325) ?_
  refine snd_c (s_iload_n C rfl dL_326) ?_
  refine snd_c (s_iconst C dL_327 rfl) ?_
  refine snd_c (s_iadd C dL_328) ?_
  refine snd_c (s_xld C hX hL8 hbl hbA hab dL_329) ?_
  refine snd_c (s_callV C (ci := 4) c_X4_cut rfl cw_RL_43 ⟨rfl, rfl⟩ ⟨by decide +kernel, by decide +kernel, by decide +kernel⟩ ⟨Nat.le_of_ble_eq_true rfl, Nat.le_of_ble_eq_true rfl⟩ ⟨Nat.le_of_ble_eq_true rfl, Nat.le_of_ble_eq_true rfl⟩ dL_330) ?_
  refine snd_c (s_aload_n C rfl dL_333) ?_
  refine snd_c (s_aload_n C rfl dL_334) ?_
  refine snd_c (s_iload_n C rfl dL_335) ?_
  refine snd_c (s_iconst C dL_336 rfl) ?_
  refine snd_c (s_iadd C dL_337) ?_
  refine snd_c (s_xld C hX hL8 hbl hbA hab dL_338) ?_
  refine snd_c (s_callV C (ci := 5) c_X5_cut rfl cw_RL_46 ⟨rfl, rfl⟩ ⟨by decide +kernel, by decide +kernel, by decide +kernel⟩ ⟨Nat.le_of_ble_eq_true rfl, Nat.le_of_ble_eq_true rfl⟩ ⟨Nat.le_of_ble_eq_true rfl, Nat.le_of_ble_eq_true rfl⟩ dL_339) ?_
  refine snd_c (s_icmp_eq C dL_342 (by decide)) ?_
  refine snd_c (s_iconst C dL_345 rfl) ?_
  refine snd_c (s_fin C hr dL_346) ?_
  refine snd_c (s_aload_n C rfl dL_347) ?_
  refine snd_c (s_aload_n C rfl dL_348) ?_
  refine snd_c (s_iload_n C rfl dL_349) ?_
  refine snd_c (s_iconst C dL_350 rfl) ?_
  refine snd_c (s_iadd C dL_351) ?_
  refine snd_c (s_xld C hX hL8 hbl hbA hab dL_352) ?_
  refine snd_c (s_aload_n C rfl dL_353) ?_
  refine snd_c (s_iload_n C rfl dL_354) ?_
  refine snd_c (s_iconst C dL_355 rfl) ?_
  refine snd_c (s_iadd C dL_356) ?_
  refine snd_c (s_xld C hX hL8 hbl hbA hab dL_357) ?_
  refine snd_c (s_callV C (ci := 4) c_X4_give rfl cw_RL_47 ⟨rfl, rfl⟩ ⟨by decide +kernel, by decide +kernel, by decide +kernel⟩ ⟨Nat.le_of_ble_eq_true rfl, Nat.le_of_ble_eq_true rfl⟩ ⟨Nat.le_of_ble_eq_true rfl, Nat.le_of_ble_eq_true rfl⟩ dL_358) ?_
  refine snd_c (s_aload_n C rfl dL_361) ?_
  refine snd_c (s_aload_n C rfl dL_362) ?_
  refine snd_c (s_iload_n C rfl dL_363) ?_
  refine snd_c (s_iconst C dL_364 rfl) ?_
  refine snd_c (s_iadd C dL_365) ?_
  refine snd_c (s_xld C hX hL8 hbl hbA hab dL_366) ?_
  refine snd_c (s_aload_n C rfl dL_367) ?_
  refine snd_c (s_iload_n C rfl dL_368) ?_
  refine snd_c (s_iconst C dL_369 rfl) ?_
  refine snd_c (s_iadd C dL_370) ?_
  refine snd_c (s_xld C hX hL8 hbl hbA hab dL_371) ?_
  refine snd_c (s_callV C (ci := 5) c_X5_give rfl cw_RL_50 ⟨rfl, rfl⟩ ⟨by decide +kernel, by decide +kernel, by decide +kernel⟩ ⟨Nat.le_of_ble_eq_true rfl, Nat.le_of_ble_eq_true rfl⟩ ⟨Nat.le_of_ble_eq_true rfl, Nat.le_of_ble_eq_true rfl⟩ dL_372) ?_
  refine snd_c (s_icmp_eq C dL_375 (by decide)) ?_
  refine snd_c (s_iconst C dL_378 rfl) ?_
  refine snd_c (s_fin C hr dL_379) ?_
  refine snd_c (s_aload_n C rfl dL_380) ?_
  refine snd_c (s_aload_n C rfl dL_381) ?_
  refine snd_c (s_iload_n C rfl dL_382) ?_
  refine snd_c (s_iconst C dL_383 rfl) ?_
  refine snd_c (s_iadd C dL_384) ?_
  refine snd_c (s_xld C hX hL8 hbl hbA hab dL_385) ?_
  refine snd_c (s_callV C (ci := 4) c_X4_lose rfl cw_RL_51 ⟨rfl, rfl⟩ ⟨by decide +kernel, by decide +kernel, by decide +kernel⟩ ⟨Nat.le_of_ble_eq_true rfl, Nat.le_of_ble_eq_true rfl⟩ ⟨Nat.le_of_ble_eq_true rfl, Nat.le_of_ble_eq_true rfl⟩ dL_386) ?_
  refine snd_c (s_aload_n C rfl dL_389) ?_
  refine snd_c (s_aload_n C rfl dL_390) ?_
  refine snd_c (s_iload_n C rfl dL_391) ?_
  refine snd_c (s_iconst C dL_392 rfl) ?_
  refine snd_c (s_iadd C dL_393) ?_
  refine snd_c (s_xld C hX hL8 hbl hbA hab dL_394) ?_
  refine snd_c (s_callV C (ci := 5) c_X5_lose rfl cw_RL_54 ⟨rfl, rfl⟩ ⟨by decide +kernel, by decide +kernel, by decide +kernel⟩ ⟨Nat.le_of_ble_eq_true rfl, Nat.le_of_ble_eq_true rfl⟩ ⟨Nat.le_of_ble_eq_true rfl, Nat.le_of_ble_eq_true rfl⟩ dL_395) ?_
  refine snd_c (s_icmp_eq C dL_398 (by decide)) ?_
  refine snd_c (s_iconst C dL_401 rfl) ?_
  refine snd_c (s_fin C hr dL_402) ?_
  refine snd_c (s_aload_n C rfl dL_403) ?_
  refine snd_c (s_aload_n C rfl dL_404) ?_
  refine snd_c (s_iload_n C rfl dL_405) ?_
  refine snd_c (s_iconst C dL_406 rfl) ?_
  refine snd_c (s_iadd C dL_407) ?_
  refine snd_c (s_xld C hX hL8 hbl hbA hab dL_408) ?_
  refine snd_c (s_aload_n C rfl dL_409) ?_
  refine snd_c (s_iload_n C rfl dL_410) ?_
  refine snd_c (s_iconst C dL_411 rfl) ?_
  refine snd_c (s_iadd C dL_412) ?_
  refine snd_c (s_xld C hX hL8 hbl hbA hab dL_413) ?_
  refine snd_c (s_callV C (ci := 4) c_X4_forge rfl cw_RL_55 ⟨rfl, rfl⟩ ⟨by decide +kernel, by decide +kernel, by decide +kernel⟩ ⟨Nat.le_of_ble_eq_true rfl, Nat.le_of_ble_eq_true rfl⟩ ⟨Nat.le_of_ble_eq_true rfl, Nat.le_of_ble_eq_true rfl⟩ dL_414) ?_
  refine snd_c (s_aload_n C rfl dL_417) ?_
  refine snd_c (s_aload_n C rfl dL_418) ?_
  refine snd_c (s_iload_n C rfl dL_419) ?_
  refine snd_c (s_iconst C dL_420 rfl) ?_
  refine snd_c (s_iadd C dL_421) ?_
  refine snd_c (s_xld C hX hL8 hbl hbA hab dL_422) ?_
  refine snd_c (s_aload_n C rfl dL_423) ?_
  refine snd_c (s_iload_n C rfl dL_424) ?_
  refine snd_c (s_iconst C dL_425 rfl) ?_
  refine snd_c (s_iadd C dL_426) ?_
  refine snd_c (s_xld C hX hL8 hbl hbA hab dL_427) ?_
  refine snd_c (s_callV C (ci := 5) c_X5_forge rfl cw_RL_58 ⟨rfl, rfl⟩ ⟨by decide +kernel, by decide +kernel, by decide +kernel⟩ ⟨Nat.le_of_ble_eq_true rfl, Nat.le_of_ble_eq_true rfl⟩ ⟨Nat.le_of_ble_eq_true rfl, Nat.le_of_ble_eq_true rfl⟩ dL_428) ?_
  refine snd_c (s_icmp_eq C dL_431 (by decide)) ?_
  refine snd_c (s_iconst C dL_434 rfl) ?_
  refine snd_c (s_fin C hr dL_435) ?_
  refine snd_c (s_aload_n C rfl dL_436) ?_
  refine snd_c (s_callV C (ci := 4) c_X4_undo rfl cw_RL_59 ⟨rfl, rfl⟩ ⟨by decide +kernel, by decide +kernel, by decide +kernel⟩ ⟨Nat.le_of_ble_eq_true rfl, Nat.le_of_ble_eq_true rfl⟩ ⟨Nat.le_of_ble_eq_true rfl, Nat.le_of_ble_eq_true rfl⟩ dL_437) ?_
  refine snd_c (s_aload_n C rfl dL_440) ?_
  refine snd_c (s_callV C (ci := 5) c_X5_undo rfl cw_RL_62 ⟨rfl, rfl⟩ ⟨by decide +kernel, by decide +kernel, by decide +kernel⟩ ⟨Nat.le_of_ble_eq_true rfl, Nat.le_of_ble_eq_true rfl⟩ ⟨Nat.le_of_ble_eq_true rfl, Nat.le_of_ble_eq_true rfl⟩ dL_441) ?_
  refine snd_c (s_icmp_eq C dL_444 (by decide)) ?_
  refine snd_c (s_iconst C dL_447 rfl) ?_
  refine snd_c (s_fin C hr dL_448) ?_
  refine snd_c (s_aload_n C rfl dL_449) ?_
  refine snd_c (s_callV C (ci := 4) c_X4_alone rfl cw_RL_63 ⟨rfl, rfl⟩ ⟨by decide +kernel, by decide +kernel, by decide +kernel⟩ ⟨Nat.le_of_ble_eq_true rfl, Nat.le_of_ble_eq_true rfl⟩ ⟨Nat.le_of_ble_eq_true rfl, Nat.le_of_ble_eq_true rfl⟩ dL_450) ?_
  refine snd_c (s_aload_n C rfl dL_453) ?_
  refine snd_c (s_callV C (ci := 5) c_X5_alone rfl cw_RL_66 ⟨rfl, rfl⟩ ⟨by decide +kernel, by decide +kernel, by decide +kernel⟩ ⟨Nat.le_of_ble_eq_true rfl, Nat.le_of_ble_eq_true rfl⟩ ⟨Nat.le_of_ble_eq_true rfl, Nat.le_of_ble_eq_true rfl⟩ dL_454) ?_
  refine snd_c (s_icmp_eq C dL_457 (by decide)) ?_
  refine snd_c (s_iconst C dL_460 rfl) ?_
  refine snd_c (s_fin C hr dL_461) ?_
  refine snd_c (s_aload_n C rfl dL_462) ?_
  refine snd_c (s_aload_n C rfl dL_463) ?_
  refine snd_c (s_iload_n C rfl dL_464) ?_
  refine snd_c (s_iconst C dL_465 rfl) ?_
  refine snd_c (s_iadd C dL_466) ?_
  refine snd_c (s_xld C hX hL8 hbl hbA hab dL_467) ?_
  refine snd_c (s_aload_n C rfl dL_468) ?_
  refine snd_c (s_iload_n C rfl dL_469) ?_
  refine snd_c (s_iconst C dL_470 rfl) ?_
  refine snd_c (s_iadd C dL_471) ?_
  refine snd_c (s_xld C hX hL8 hbl hbA hab dL_472) ?_
  refine snd_c (s_aload_n C rfl dL_473) ?_
  refine snd_c (s_iload_n C rfl dL_474) ?_
  refine snd_c (s_iconst C dL_475 rfl) ?_
  refine snd_c (s_iadd C dL_476) ?_
  refine snd_c (s_xld C hX hL8 hbl hbA hab dL_477) ?_
  refine snd_c (s_callV C (ci := 4) c_X4_fewest rfl cw_RL_67 ⟨rfl, rfl⟩ ⟨by decide +kernel, by decide +kernel, by decide +kernel⟩ ⟨Nat.le_of_ble_eq_true rfl, Nat.le_of_ble_eq_true rfl⟩ ⟨Nat.le_of_ble_eq_true rfl, Nat.le_of_ble_eq_true rfl⟩ dL_478) ?_
  refine snd_c (s_aload_n C rfl dL_481) ?_
  refine snd_c (s_aload_n C rfl dL_482) ?_
  refine snd_c (s_iload_n C rfl dL_483) ?_
  refine snd_c (s_iconst C dL_484 rfl) ?_
  refine snd_c (s_iadd C dL_485) ?_
  refine snd_c (s_xld C hX hL8 hbl hbA hab dL_486) ?_
  refine snd_c (s_aload_n C rfl dL_487) ?_
  refine snd_c (s_iload_n C rfl dL_488) ?_
  refine snd_c (s_iconst C dL_489 rfl) ?_
  refine snd_c (s_iadd C dL_490) ?_
  refine snd_c (s_xld C hX hL8 hbl hbA hab dL_491) ?_
  refine snd_c (s_aload_n C rfl dL_492) ?_
  refine snd_c (s_iload_n C rfl dL_493) ?_
  refine snd_c (s_iconst C dL_494 rfl) ?_
  refine snd_c (s_iadd C dL_495) ?_
  refine snd_c (s_xld C hX hL8 hbl hbA hab dL_496) ?_
  refine snd_c (s_callV C (ci := 5) c_X5_fewest rfl cw_RL_71 ⟨rfl, rfl⟩ ⟨by decide +kernel, by decide +kernel, by decide +kernel⟩ ⟨Nat.le_of_ble_eq_true rfl, Nat.le_of_ble_eq_true rfl⟩ ⟨Nat.le_of_ble_eq_true rfl, Nat.le_of_ble_eq_true rfl⟩ dL_497) ?_
  refine snd_c (s_icmp_eq C dL_500 (by decide)) ?_
  refine snd_c (s_iconst C dL_503 rfl) ?_
  refine snd_c (s_fin C hr dL_504) ?_
  refine snd_c (s_aload_n C rfl dL_505) ?_
  refine snd_c (s_aload_n C rfl dL_506) ?_
  refine snd_c (s_iload_n C rfl dL_507) ?_
  refine snd_c (s_iconst C dL_508 rfl) ?_
  refine snd_c (s_iadd C dL_509) ?_
  refine snd_c (s_xld C hX hL8 hbl hbA hab dL_510) ?_
  refine snd_c (s_callV C (ci := 4) c_X4_opens rfl cw_RL_72 ⟨rfl, rfl⟩ ⟨by decide +kernel, by decide +kernel, by decide +kernel⟩ ⟨Nat.le_of_ble_eq_true rfl, Nat.le_of_ble_eq_true rfl⟩ ⟨Nat.le_of_ble_eq_true rfl, Nat.le_of_ble_eq_true rfl⟩ dL_511) ?_
  refine snd_c (s_aload_n C rfl dL_514) ?_
  refine snd_c (s_aload_n C rfl dL_515) ?_
  refine snd_c (s_iload_n C rfl dL_516) ?_
  refine snd_c (s_iconst C dL_517 rfl) ?_
  refine snd_c (s_iadd C dL_518) ?_
  refine snd_c (s_xld C hX hL8 hbl hbA hab dL_519) ?_
  refine snd_c (s_callV C (ci := 5) c_X5_opens rfl cw_RL_75 ⟨rfl, rfl⟩ ⟨by decide +kernel, by decide +kernel, by decide +kernel⟩ ⟨Nat.le_of_ble_eq_true rfl, Nat.le_of_ble_eq_true rfl⟩ ⟨Nat.le_of_ble_eq_true rfl, Nat.le_of_ble_eq_true rfl⟩ dL_520) ?_
  refine snd_c (s_icmp_eq C dL_523 (by decide)) ?_
  refine snd_c (s_iconst C dL_526 rfl) ?_
  refine snd_c (s_fin C hr dL_527) ?_
  refine snd_c (s_aload_n C rfl dL_528) ?_
  refine snd_c (s_aload_n C rfl dL_529) ?_
  refine snd_c (s_iload_n C rfl dL_530) ?_
  refine snd_c (s_iconst C dL_531 rfl) ?_
  refine snd_c (s_iadd C dL_532) ?_
  refine snd_c (s_xld C hX hL8 hbl hbA hab dL_533) ?_
  refine snd_c (s_aload_n C rfl dL_534) ?_
  refine snd_c (s_iload_n C rfl dL_535) ?_
  refine snd_c (s_iconst C dL_536 rfl) ?_
  refine snd_c (s_iadd C dL_537) ?_
  refine snd_c (s_xld C hX hL8 hbl hbA hab dL_538) ?_
  refine snd_c (s_callV C (ci := 4) c_X4_groups rfl cw_RL_76 ⟨rfl, rfl⟩ ⟨by decide +kernel, by decide +kernel, by decide +kernel⟩ ⟨Nat.le_of_ble_eq_true rfl, Nat.le_of_ble_eq_true rfl⟩ ⟨Nat.le_of_ble_eq_true rfl, Nat.le_of_ble_eq_true rfl⟩ dL_539) ?_
  refine snd_c (s_aload_n C rfl dL_542) ?_
  refine snd_c (s_aload_n C rfl dL_543) ?_
  refine snd_c (s_iload_n C rfl dL_544) ?_
  refine snd_c (s_iconst C dL_545 rfl) ?_
  refine snd_c (s_iadd C dL_546) ?_
  refine snd_c (s_xld C hX hL8 hbl hbA hab dL_547) ?_
  refine snd_c (s_aload_n C rfl dL_548) ?_
  refine snd_c (s_iload_n C rfl dL_549) ?_
  refine snd_c (s_iconst C dL_550 rfl) ?_
  refine snd_c (s_iadd C dL_551) ?_
  refine snd_c (s_xld C hX hL8 hbl hbA hab dL_552) ?_
  refine snd_c (s_callV C (ci := 5) c_X5_groups rfl cw_RL_79 ⟨rfl, rfl⟩ ⟨by decide +kernel, by decide +kernel, by decide +kernel⟩ ⟨Nat.le_of_ble_eq_true rfl, Nat.le_of_ble_eq_true rfl⟩ ⟨Nat.le_of_ble_eq_true rfl, Nat.le_of_ble_eq_true rfl⟩ dL_553) ?_
  refine snd_c (s_icmp_eq C dL_556 (by decide)) ?_
  refine snd_c (s_iconst C dL_559 rfl) ?_
  refine snd_c (s_fin C hr dL_560) ?_
  refine snd_c (s_aload_n C rfl dL_561) ?_
  refine snd_c (s_aload_n C rfl dL_562) ?_
  refine snd_c (s_iload_n C rfl dL_563) ?_
  refine snd_c (s_iconst C dL_564 rfl) ?_
  refine snd_c (s_iadd C dL_565) ?_
  refine snd_c (s_xld C hX hL8 hbl hbA hab dL_566) ?_
  refine snd_c (s_aload_n C rfl dL_567) ?_
  refine snd_c (s_iload_n C rfl dL_568) ?_
  refine snd_c (s_iconst C dL_569 rfl) ?_
  refine snd_c (s_iadd C dL_570) ?_
  refine snd_c (s_xld C hX hL8 hbl hbA hab dL_571) ?_
  refine snd_c (s_aload_n C rfl dL_572) ?_
  refine snd_c (s_iload_n C rfl dL_573) ?_
  refine snd_c (s_iconst C dL_574 rfl) ?_
  refine snd_c (s_iadd C dL_575) ?_
  refine snd_c (s_xld C hX hL8 hbl hbA hab dL_576) ?_
  refine snd_c (s_callV C (ci := 4) c_X4_wish rfl cw_RL_80 ⟨rfl, rfl⟩ ⟨by decide +kernel, by decide +kernel, by decide +kernel⟩ ⟨Nat.le_of_ble_eq_true rfl, Nat.le_of_ble_eq_true rfl⟩ ⟨Nat.le_of_ble_eq_true rfl, Nat.le_of_ble_eq_true rfl⟩ dL_577) ?_
  refine snd_c (s_aload_n C rfl dL_580) ?_
  refine snd_c (s_aload_n C rfl dL_581) ?_
  refine snd_c (s_iload_n C rfl dL_582) ?_
  refine snd_c (s_iconst C dL_583 rfl) ?_
  refine snd_c (s_iadd C dL_584) ?_
  refine snd_c (s_xld C hX hL8 hbl hbA hab dL_585) ?_
  refine snd_c (s_aload_n C rfl dL_586) ?_
  refine snd_c (s_iload_n C rfl dL_587) ?_
  refine snd_c (s_iconst C dL_588 rfl) ?_
  refine snd_c (s_iadd C dL_589) ?_
  refine snd_c (s_xld C hX hL8 hbl hbA hab dL_590) ?_
  refine snd_c (s_aload_n C rfl dL_591) ?_
  refine snd_c (s_iload_n C rfl dL_592) ?_
  refine snd_c (s_iconst C dL_593 rfl) ?_
  refine snd_c (s_iadd C dL_594) ?_
  refine snd_c (s_xld C hX hL8 hbl hbA hab dL_595) ?_
  refine snd_c (s_callV C (ci := 5) c_X5_wish rfl cw_RL_83 ⟨rfl, rfl⟩ ⟨by decide +kernel, by decide +kernel, by decide +kernel⟩ ⟨Nat.le_of_ble_eq_true rfl, Nat.le_of_ble_eq_true rfl⟩ ⟨Nat.le_of_ble_eq_true rfl, Nat.le_of_ble_eq_true rfl⟩ dL_596) ?_
  refine snd_c (s_icmp_eq C dL_599 (by decide)) ?_
  refine snd_c (s_iconst C dL_602 rfl) ?_
  refine snd_c (s_fin C hr dL_603) ?_
  refine snd_c (s_aload_n C rfl dL_604) ?_
  refine snd_c (s_aload_n C rfl dL_605) ?_
  refine snd_c (s_iload_n C rfl dL_606) ?_
  refine snd_c (s_iconst C dL_607 rfl) ?_
  refine snd_c (s_iadd C dL_608) ?_
  refine snd_c (s_xld C hX hL8 hbl hbA hab dL_609) ?_
  refine snd_c (s_callV C (ci := 4) c_X4_shut rfl cw_RL_84 ⟨rfl, rfl⟩ ⟨by decide +kernel, by decide +kernel, by decide +kernel⟩ ⟨Nat.le_of_ble_eq_true rfl, Nat.le_of_ble_eq_true rfl⟩ ⟨Nat.le_of_ble_eq_true rfl, Nat.le_of_ble_eq_true rfl⟩ dL_610) ?_
  refine snd_c (s_aload_n C rfl dL_613) ?_
  refine snd_c (s_aload_n C rfl dL_614) ?_
  refine snd_c (s_iload_n C rfl dL_615) ?_
  refine snd_c (s_iconst C dL_616 rfl) ?_
  refine snd_c (s_iadd C dL_617) ?_
  refine snd_c (s_xld C hX hL8 hbl hbA hab dL_618) ?_
  refine snd_c (s_callV C (ci := 5) c_X5_shut rfl cw_RL_87 ⟨rfl, rfl⟩ ⟨by decide +kernel, by decide +kernel, by decide +kernel⟩ ⟨Nat.le_of_ble_eq_true rfl, Nat.le_of_ble_eq_true rfl⟩ ⟨Nat.le_of_ble_eq_true rfl, Nat.le_of_ble_eq_true rfl⟩ dL_619) ?_
  refine snd_c (s_icmp_eq C dL_622 (by decide)) ?_
  refine snd_c (s_iconst C dL_625 rfl) ?_
  refine snd_c (s_fin C hr dL_626) ?_
  refine snd_c (s_aload_n C rfl dL_627) ?_
  refine snd_c (s_aload_n C rfl dL_628) ?_
  refine snd_c (s_iload_n C rfl dL_629) ?_
  refine snd_c (s_iconst C dL_630 rfl) ?_
  refine snd_c (s_iadd C dL_631) ?_
  refine snd_c (s_xld C hX hL8 hbl hbA hab dL_632) ?_
  refine snd_c (s_callV C (ci := 4) c_X4_brings rfl cw_RL_88 ⟨rfl, rfl⟩ ⟨by decide +kernel, by decide +kernel, by decide +kernel⟩ ⟨Nat.le_of_ble_eq_true rfl, Nat.le_of_ble_eq_true rfl⟩ ⟨Nat.le_of_ble_eq_true rfl, Nat.le_of_ble_eq_true rfl⟩ dL_633) ?_
  refine snd_c (s_aload_n C rfl dL_636) ?_
  refine snd_c (s_aload_n C rfl dL_637) ?_
  refine snd_c (s_iload_n C rfl dL_638) ?_
  refine snd_c (s_iconst C dL_639 rfl) ?_
  refine snd_c (s_iadd C dL_640) ?_
  refine snd_c (s_xld C hX hL8 hbl hbA hab dL_641) ?_
  refine snd_c (s_callV C (ci := 5) c_X5_brings rfl cw_RL_91 ⟨rfl, rfl⟩ ⟨by decide +kernel, by decide +kernel, by decide +kernel⟩ ⟨Nat.le_of_ble_eq_true rfl, Nat.le_of_ble_eq_true rfl⟩ ⟨Nat.le_of_ble_eq_true rfl, Nat.le_of_ble_eq_true rfl⟩ dL_642) ?_
  refine snd_c (s_icmp_eq C dL_645 (by decide)) ?_
  refine snd_c (s_iconst C dL_648 rfl) ?_
  refine snd_c (s_fin C hr dL_649) ?_
  refine snd_c (s_aload_n C rfl dL_650) ?_
  refine snd_c (s_aload_n C rfl dL_651) ?_
  refine snd_c (s_iload_n C rfl dL_652) ?_
  refine snd_c (s_iconst C dL_653 rfl) ?_
  refine snd_c (s_iadd C dL_654) ?_
  refine snd_c (s_xld C hX hL8 hbl hbA hab dL_655) ?_
  refine snd_c (s_callV C (ci := 4) c_X4_rob rfl cw_RL_92 ⟨rfl, rfl⟩ ⟨by decide +kernel, by decide +kernel, by decide +kernel⟩ ⟨Nat.le_of_ble_eq_true rfl, Nat.le_of_ble_eq_true rfl⟩ ⟨Nat.le_of_ble_eq_true rfl, Nat.le_of_ble_eq_true rfl⟩ dL_656) ?_
  refine snd_c (s_aload_n C rfl dL_659) ?_
  refine snd_c (s_aload_n C rfl dL_660) ?_
  refine snd_c (s_iload_n C rfl dL_661) ?_
  refine snd_c (s_iconst C dL_662 rfl) ?_
  refine snd_c (s_iadd C dL_663) ?_
  refine snd_c (s_xld C hX hL8 hbl hbA hab dL_664) ?_
  refine snd_c (s_callV C (ci := 5) c_X5_rob rfl cw_RL_95 ⟨rfl, rfl⟩ ⟨by decide +kernel, by decide +kernel, by decide +kernel⟩ ⟨Nat.le_of_ble_eq_true rfl, Nat.le_of_ble_eq_true rfl⟩ ⟨Nat.le_of_ble_eq_true rfl, Nat.le_of_ble_eq_true rfl⟩ dL_665) ?_
  refine snd_c (s_icmp_eq C dL_668 (by decide)) ?_
  refine snd_c (s_iconst C dL_671 rfl) ?_
  refine snd_c (s_fin C hr dL_672) ?_
  refine snd_c (s_aload_n C rfl dL_673) ?_
  refine snd_c (s_callV C (ci := 4) c_X4_apart rfl cw_RL_96 ⟨rfl, rfl⟩ ⟨by decide +kernel, by decide +kernel, by decide +kernel⟩ ⟨Nat.le_of_ble_eq_true rfl, Nat.le_of_ble_eq_true rfl⟩ ⟨Nat.le_of_ble_eq_true rfl, Nat.le_of_ble_eq_true rfl⟩ dL_674) ?_
  refine snd_c (s_aload_n C rfl dL_677) ?_
  refine snd_c (s_callV C (ci := 5) c_X5_apart rfl cw_RL_99 ⟨rfl, rfl⟩ ⟨by decide +kernel, by decide +kernel, by decide +kernel⟩ ⟨Nat.le_of_ble_eq_true rfl, Nat.le_of_ble_eq_true rfl⟩ ⟨Nat.le_of_ble_eq_true rfl, Nat.le_of_ble_eq_true rfl⟩ dL_678) ?_
  refine snd_c (s_icmp_eq C dL_681 (by decide)) ?_
  refine snd_c (s_iconst C dL_684 rfl) ?_
  refine snd_c (s_fin C hr dL_685) ?_
  refine snd_c (s_aload_n C rfl dL_686) ?_
  refine snd_c (s_aload_n C rfl dL_687) ?_
  refine snd_c (s_iload_n C rfl dL_688) ?_
  refine snd_c (s_iconst C dL_689 rfl) ?_
  refine snd_c (s_iadd C dL_690) ?_
  refine snd_c (s_xld C hX hL8 hbl hbA hab dL_691) ?_
  refine snd_c (s_aload_n C rfl dL_692) ?_
  refine snd_c (s_iload_n C rfl dL_693) ?_
  refine snd_c (s_iconst C dL_694 rfl) ?_
  refine snd_c (s_iadd C dL_695) ?_
  refine snd_c (s_xld C hX hL8 hbl hbA hab dL_696) ?_
  refine snd_c (s_aload_n C rfl dL_697) ?_
  refine snd_c (s_iload_n C rfl dL_698) ?_
  refine snd_c (s_iconst C dL_699 rfl) ?_
  refine snd_c (s_iadd C dL_700) ?_
  refine snd_c (s_xld C hX hL8 hbl hbA hab dL_701) ?_
  refine snd_c (s_callV C (ci := 4) c_X4_slips rfl cw_RL_100 ⟨rfl, rfl⟩ ⟨by decide +kernel, by decide +kernel, by decide +kernel⟩ ⟨Nat.le_of_ble_eq_true rfl, Nat.le_of_ble_eq_true rfl⟩ ⟨Nat.le_of_ble_eq_true rfl, Nat.le_of_ble_eq_true rfl⟩ dL_702) ?_
  refine snd_c (s_aload_n C rfl dL_705) ?_
  refine snd_c (s_aload_n C rfl dL_706) ?_
  refine snd_c (s_iload_n C rfl dL_707) ?_
  refine snd_c (s_iconst C dL_708 rfl) ?_
  refine snd_c (s_iadd C dL_709) ?_
  refine snd_c (s_xld C hX hL8 hbl hbA hab dL_710) ?_
  refine snd_c (s_aload_n C rfl dL_711) ?_
  refine snd_c (s_iload_n C rfl dL_712) ?_
  refine snd_c (s_iconst C dL_713 rfl) ?_
  refine snd_c (s_iadd C dL_714) ?_
  refine snd_c (s_xld C hX hL8 hbl hbA hab dL_715) ?_
  refine snd_c (s_aload_n C rfl dL_716) ?_
  refine snd_c (s_iload_n C rfl dL_717) ?_
  refine snd_c (s_iconst C dL_718 rfl) ?_
  refine snd_c (s_iadd C dL_719) ?_
  refine snd_c (s_xld C hX hL8 hbl hbA hab dL_720) ?_
  refine snd_c (s_callV C (ci := 5) c_X5_slips rfl cw_RL_103 ⟨rfl, rfl⟩ ⟨by decide +kernel, by decide +kernel, by decide +kernel⟩ ⟨Nat.le_of_ble_eq_true rfl, Nat.le_of_ble_eq_true rfl⟩ ⟨Nat.le_of_ble_eq_true rfl, Nat.le_of_ble_eq_true rfl⟩ dL_721) ?_
  refine snd_c (s_icmp_eq C dL_724 (by decide)) ?_
  refine snd_c (s_iconst C dL_727 rfl) ?_
  refine snd_c (s_fin C hr dL_728) ?_
  refine snd_c (s_aload_n C rfl dL_729) ?_
  refine snd_c (s_aload_n C rfl dL_730) ?_
  refine snd_c (s_iload_n C rfl dL_731) ?_
  refine snd_c (s_iconst C dL_732 rfl) ?_
  refine snd_c (s_iadd C dL_733) ?_
  refine snd_c (s_xld C hX hL8 hbl hbA hab dL_734) ?_
  refine snd_c (s_aload_n C rfl dL_735) ?_
  refine snd_c (s_iload_n C rfl dL_736) ?_
  refine snd_c (s_iconst C dL_737 rfl) ?_
  refine snd_c (s_iadd C dL_738) ?_
  refine snd_c (s_xld C hX hL8 hbl hbA hab dL_739) ?_
  refine snd_c (s_aload_n C rfl dL_740) ?_
  refine snd_c (s_iload_n C rfl dL_741) ?_
  refine snd_c (s_iconst C dL_742 rfl) ?_
  refine snd_c (s_iadd C dL_743) ?_
  refine snd_c (s_xld C hX hL8 hbl hbA hab dL_744) ?_
  refine snd_c (s_callV C (ci := 4) c_X4_odds rfl cw_RL_104 ⟨rfl, rfl⟩ ⟨by decide +kernel, by decide +kernel, by decide +kernel⟩ ⟨Nat.le_of_ble_eq_true rfl, Nat.le_of_ble_eq_true rfl⟩ ⟨Nat.le_of_ble_eq_true rfl, Nat.le_of_ble_eq_true rfl⟩ dL_745) ?_
  refine snd_c (s_aload_n C rfl dL_748) ?_
  refine snd_c (s_aload_n C rfl dL_749) ?_
  refine snd_c (s_iload_n C rfl dL_750) ?_
  refine snd_c (s_iconst C dL_751 rfl) ?_
  refine snd_c (s_iadd C dL_752) ?_
  refine snd_c (s_xld C hX hL8 hbl hbA hab dL_753) ?_
  refine snd_c (s_aload_n C rfl dL_754) ?_
  refine snd_c (s_iload_n C rfl dL_755) ?_
  refine snd_c (s_iconst C dL_756 rfl) ?_
  refine snd_c (s_iadd C dL_757) ?_
  refine snd_c (s_xld C hX hL8 hbl hbA hab dL_758) ?_
  refine snd_c (s_aload_n C rfl dL_759) ?_
  refine snd_c (s_iload_n C rfl dL_760) ?_
  refine snd_c (s_iconst C dL_761 rfl) ?_
  refine snd_c (s_iadd C dL_762) ?_
  refine snd_c (s_xld C hX hL8 hbl hbA hab dL_763) ?_
  refine snd_c (s_callV C (ci := 5) c_X5_odds rfl cw_RL_107 ⟨rfl, rfl⟩ ⟨by decide +kernel, by decide +kernel, by decide +kernel⟩ ⟨Nat.le_of_ble_eq_true rfl, Nat.le_of_ble_eq_true rfl⟩ ⟨Nat.le_of_ble_eq_true rfl, Nat.le_of_ble_eq_true rfl⟩ dL_764) ?_
  refine snd_c (s_icmp_eq C dL_767 (by decide)) ?_
  refine snd_c (s_iconst C dL_770 rfl) ?_
  refine snd_c (s_fin C hr dL_771) ?_
  refine snd_c (s_aload_n C rfl dL_772) ?_
  refine snd_c (s_aload_n C rfl dL_773) ?_
  refine snd_c (s_iload_n C rfl dL_774) ?_
  refine snd_c (s_iconst C dL_775 rfl) ?_
  refine snd_c (s_iadd C dL_776) ?_
  refine snd_c (s_xld C hX hL8 hbl hbA hab dL_777) ?_
  refine snd_c (s_aload_n C rfl dL_778) ?_
  refine snd_c (s_iload_n C rfl dL_779) ?_
  refine snd_c (s_iconst C dL_780 rfl) ?_
  refine snd_c (s_iadd C dL_781) ?_
  refine snd_c (s_xld C hX hL8 hbl hbA hab dL_782) ?_
  refine snd_c (s_callV C (ci := 4) c_X4_rate rfl cw_RL_108 ⟨rfl, rfl⟩ ⟨by decide +kernel, by decide +kernel, by decide +kernel⟩ ⟨Nat.le_of_ble_eq_true rfl, Nat.le_of_ble_eq_true rfl⟩ ⟨Nat.le_of_ble_eq_true rfl, Nat.le_of_ble_eq_true rfl⟩ dL_783) ?_
  refine snd_c (s_aload_n C rfl dL_786) ?_
  refine snd_c (s_aload_n C rfl dL_787) ?_
  refine snd_c (s_iload_n C rfl dL_788) ?_
  refine snd_c (s_iconst C dL_789 rfl) ?_
  refine snd_c (s_iadd C dL_790) ?_
  refine snd_c (s_xld C hX hL8 hbl hbA hab dL_791) ?_
  refine snd_c (s_aload_n C rfl dL_792) ?_
  refine snd_c (s_iload_n C rfl dL_793) ?_
  refine snd_c (s_iconst C dL_794 rfl) ?_
  refine snd_c (s_iadd C dL_795) ?_
  refine snd_c (s_xld C hX hL8 hbl hbA hab dL_796) ?_
  refine snd_c (s_callV C (ci := 5) c_X5_rate rfl cw_RL_111 ⟨rfl, rfl⟩ ⟨by decide +kernel, by decide +kernel, by decide +kernel⟩ ⟨Nat.le_of_ble_eq_true rfl, Nat.le_of_ble_eq_true rfl⟩ ⟨Nat.le_of_ble_eq_true rfl, Nat.le_of_ble_eq_true rfl⟩ dL_797) ?_
  refine snd_c (s_icmp_eq C dL_800 (by decide)) ?_
  refine snd_c (s_iconst C dL_803 rfl) ?_
  refine snd_c (s_fin C hr dL_804) ?_
  refine snd_c (s_aload_n C rfl dL_805) ?_
  refine snd_c (s_aload_n C rfl dL_806) ?_
  refine snd_c (s_iload_n C rfl dL_807) ?_
  refine snd_c (s_iconst C dL_808 rfl) ?_
  refine snd_c (s_iadd C dL_809) ?_
  refine snd_c (s_xld C hX hL8 hbl hbA hab dL_810) ?_
  refine snd_c (s_callV C (ci := 4) c_X4_keep rfl cw_RL_112 ⟨rfl, rfl⟩ ⟨by decide +kernel, by decide +kernel, by decide +kernel⟩ ⟨Nat.le_of_ble_eq_true rfl, Nat.le_of_ble_eq_true rfl⟩ ⟨Nat.le_of_ble_eq_true rfl, Nat.le_of_ble_eq_true rfl⟩ dL_811) ?_
  refine snd_c (s_aload_n C rfl dL_814) ?_
  refine snd_c (s_aload_n C rfl dL_815) ?_
  refine snd_c (s_iload_n C rfl dL_816) ?_
  refine snd_c (s_iconst C dL_817 rfl) ?_
  refine snd_c (s_iadd C dL_818) ?_
  refine snd_c (s_xld C hX hL8 hbl hbA hab dL_819) ?_
  refine snd_c (s_callV C (ci := 5) c_X5_keep rfl cw_RL_115 ⟨rfl, rfl⟩ ⟨by decide +kernel, by decide +kernel, by decide +kernel⟩ ⟨Nat.le_of_ble_eq_true rfl, Nat.le_of_ble_eq_true rfl⟩ ⟨Nat.le_of_ble_eq_true rfl, Nat.le_of_ble_eq_true rfl⟩ dL_820) ?_
  refine snd_c (s_icmp_eq C dL_823 (by decide)) ?_
  refine snd_c (s_iconst C dL_826 rfl) ?_
  refine snd_c (s_fin C hr dL_827) ?_
  refine snd_c (s_aload_n C rfl dL_828) ?_
  refine snd_c (s_aload_n C rfl dL_829) ?_
  refine snd_c (s_iload_n C rfl dL_830) ?_
  refine snd_c (s_iconst C dL_831 rfl) ?_
  refine snd_c (s_iadd C dL_832) ?_
  refine snd_c (s_xld C hX hL8 hbl hbA hab dL_833) ?_
  refine snd_c (s_callV C (ci := 4) c_X4_back rfl cw_RL_116 ⟨rfl, rfl⟩ ⟨by decide +kernel, by decide +kernel, by decide +kernel⟩ ⟨Nat.le_of_ble_eq_true rfl, Nat.le_of_ble_eq_true rfl⟩ ⟨Nat.le_of_ble_eq_true rfl, Nat.le_of_ble_eq_true rfl⟩ dL_834) ?_
  refine snd_c (s_aload_n C rfl dL_837) ?_
  refine snd_c (s_aload_n C rfl dL_838) ?_
  refine snd_c (s_iload_n C rfl dL_839) ?_
  refine snd_c (s_iconst C dL_840 rfl) ?_
  refine snd_c (s_iadd C dL_841) ?_
  refine snd_c (s_xld C hX hL8 hbl hbA hab dL_842) ?_
  refine snd_c (s_callV C (ci := 5) c_X5_back rfl cw_RL_119 ⟨rfl, rfl⟩ ⟨by decide +kernel, by decide +kernel, by decide +kernel⟩ ⟨Nat.le_of_ble_eq_true rfl, Nat.le_of_ble_eq_true rfl⟩ ⟨Nat.le_of_ble_eq_true rfl, Nat.le_of_ble_eq_true rfl⟩ dL_843) ?_
  refine snd_c (s_icmp_eq C dL_846 (by decide)) ?_
  refine snd_c (s_iconst C dL_849 rfl) ?_
  refine snd_c (s_fin C hr dL_850) ?_
  refine snd_c (s_aload_n C rfl dL_851) ?_
  refine snd_c (s_aload_n C rfl dL_852) ?_
  refine snd_c (s_iload_n C rfl dL_853) ?_
  refine snd_c (s_iconst C dL_854 rfl) ?_
  refine snd_c (s_iadd C dL_855) ?_
  refine snd_c (s_xld C hX hL8 hbl hbA hab dL_856) ?_
  refine snd_c (s_callV C (ci := 4) c_X4_count rfl cw_RL_120 ⟨rfl, rfl⟩ ⟨by decide +kernel, by decide +kernel, by decide +kernel⟩ ⟨Nat.le_of_ble_eq_true rfl, Nat.le_of_ble_eq_true rfl⟩ ⟨Nat.le_of_ble_eq_true rfl, Nat.le_of_ble_eq_true rfl⟩ dL_857) ?_
  refine snd_c (s_aload_n C rfl dL_860) ?_
  refine snd_c (s_aload_n C rfl dL_861) ?_
  refine snd_c (s_iload_n C rfl dL_862) ?_
  refine snd_c (s_iconst C dL_863 rfl) ?_
  refine snd_c (s_iadd C dL_864) ?_
  refine snd_c (s_xld C hX hL8 hbl hbA hab dL_865) ?_
  refine snd_c (s_callV C (ci := 5) c_X5_count rfl cw_RL_123 ⟨rfl, rfl⟩ ⟨by decide +kernel, by decide +kernel, by decide +kernel⟩ ⟨Nat.le_of_ble_eq_true rfl, Nat.le_of_ble_eq_true rfl⟩ ⟨Nat.le_of_ble_eq_true rfl, Nat.le_of_ble_eq_true rfl⟩ dL_866) ?_
  refine snd_c (s_icmp_eq C dL_869 (by decide)) ?_
  refine snd_c (s_iconst C dL_872 rfl) ?_
  refine snd_c (s_fin C hr dL_873) ?_
  refine snd_c (s_aload_n C rfl dL_874) ?_
  refine snd_c (s_callV C (ci := 4) c_X4_trace rfl cw_RL_124 ⟨rfl, rfl⟩ ⟨by decide +kernel, by decide +kernel, by decide +kernel⟩ ⟨Nat.le_of_ble_eq_true rfl, Nat.le_of_ble_eq_true rfl⟩ ⟨Nat.le_of_ble_eq_true rfl, Nat.le_of_ble_eq_true rfl⟩ dL_875) ?_
  refine snd_c (s_aload_n C rfl dL_878) ?_
  refine snd_c (s_callV C (ci := 5) c_X5_trace rfl cw_RL_128 ⟨rfl, rfl⟩ ⟨by decide +kernel, by decide +kernel, by decide +kernel⟩ ⟨Nat.le_of_ble_eq_true rfl, Nat.le_of_ble_eq_true rfl⟩ ⟨Nat.le_of_ble_eq_true rfl, Nat.le_of_ble_eq_true rfl⟩ dL_879) ?_
  refine snd_c (s_lcmp C dL_882) ?_
  refine snd_c (s_if_eq C dL_883 (by decide)) ?_
  refine snd_c (s_iconst C dL_886 rfl) ?_
  refine snd_c (s_fin C hr dL_887) ?_
  refine snd_c (s_iinc C (by decide) rfl dL_888) ?_
  refine snd_c (s_goto C dL_891 (by decide)) ?_
  refine snd_c (s_iconst C dL_894 rfl) ?_
  refine snd_c (s_fin C hr dL_895) ?_
  exact trivial
